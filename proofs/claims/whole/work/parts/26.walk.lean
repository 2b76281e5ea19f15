section NW6
variable {p : Program} {l : Launch} {e : Env} {R : Room} {s : State} {m : MethodId} {args : Array Value} {below : List Frame} {meth : Method} {c : Code} {Q : State → Prop} {D : va_G} {A : Nat → Prop} {q : Nat → Nat} {cA : Nat → ClassId} {out : np_O} {gA : Nat → Nat}
set_option maxHeartbeats 4000000 in
set_option maxRecDepth 100000 in
theorem w_f_M_word_87 (C : np_Cx gA p R s m args c D np_cl (np_ty cA) A np_al "NotationParseModel" prog_9_method_12_code 5 { frames := 3, cells := 0, slots := 0, locals := 65 }) (hQ : ∀ (pc : Nat) (ls : Array Slot) (H : Heap) (locs : List Loc) (v : Int) {σ : np_S}, decode prog_9_method_12_code pc = .ok (.ireturn, 1) → some (v, σ) = some out → np_At D np_cl A (nc_wd q cA) s σ H locs → W p l e R s m args below meth c H locs 0 0 Q (F0 m pc ls [.int (np_i v)]))   : ∀ (t0 : Int) (σ : np_S) (H : Heap) (locs : List Loc) (ls : Array Slot), f_M_word_87  t0 σ = some out → np_At D np_cl A (nc_wd q cA) s σ H locs → lv_has ls 5 [] → W p l e R s m args below meth c H locs 0 0 Q (F0 m 87 ls [.int (np_i t0)]) := by
  intro t0 σ H locs ls hf hat hl
  unfold f_M_word_87 at hf
  exact hQ _ _ _ _ _ dd_M_word_87 hf hat
set_option maxHeartbeats 4000000 in
set_option maxRecDepth 100000 in
theorem w_f_M_word_63 (C : np_Cx gA p R s m args c D np_cl (np_ty cA) A np_al "NotationParseModel" prog_9_method_12_code 5 { frames := 3, cells := 0, slots := 0, locals := 65 }) (hQ : ∀ (pc : Nat) (ls : Array Slot) (H : Heap) (locs : List Loc) (v : Int) {σ : np_S}, decode prog_9_method_12_code pc = .ok (.ireturn, 1) → some (v, σ) = some out → np_At D np_cl A (nc_wd q cA) s σ H locs → W p l e R s m args below meth c H locs 0 0 Q (F0 m pc ls [.int (np_i v)]))   : ∀ (x1 x3 t1 : Int) (σ : np_S) (H : Heap) (locs : List Loc) (ls : Array Slot), f_M_word_63  x1 x3 t1 σ = some out → np_At D np_cl A (nc_wd q cA) s σ H locs → lv_has ls 5 [(0, .ref (q 29)), (1, .long (np_l x1)), (3, .int (np_i x3))] → W p l e R s m args below meth c H locs 0 0 Q (F0 m 63 ls [.int (np_i t1), .ref (q 29)]) := by
  intro x1 x3 t1 σ H locs ls hf hat hl
  unfold f_M_word_63 at hf
  refine np_put C i_M t_M tok_M n_M hat 29 (nc_o29 _) rfl 0 (by decide) tw_923 rfl rfl (by decide +kernel) (np_narI t1) (np_fitI t1) (Nat.le_of_ble_eq_true rfl) (nc_s29_0 _ _) dd_M_word_63 (fun H locs hat => ?_)
  refine lv_aload_n C.x C.b dd_M_word_66 rfl (lv_at hl 0 rfl) ?_
  refine np_get (v := .int (np_i ((np_st σ 29 0 t1) 29 0))) C i_M hat.1 29 (nc_o29 _) rfl 0 (by decide) tw_923 rfl rfl dd_M_word_67 ?_
  refine np_if_le (tgt := 77) C dd_M_word_70 (by decide) hf (fun _ hf => ?_) (fun _ hf => ?_)
  · refine lv_aload_n C.x C.b dd_M_word_77 rfl (lv_at hl 0 rfl) ?_
    refine lv_iconst (v := np_i (-1)) C.x C.b dd_M_word_78 rfl ?_
    refine lv_lload_n C.x C.b dd_M_word_79 rfl (lv_at hl 1 rfl) ?_
    refine lv_iload_n C.x C.b dd_M_word_80 rfl (lv_at hl 2 rfl) ?_
    refine np_callSl (As := [.long (np_l x1), .int (np_i x3)]) (rest := [.int (np_i ((-1))), .ref (q 29)]) C (c_M_lowest l x1 x3 _) np_allgood tw_1050 tw_1051 tw_8 tw_1052 (nA := 2) (by decide +kernel) rfl ⟨rfl, rfl, Nat.le_of_ble_eq_true rfl, Nat.le_of_ble_eq_true rfl⟩ hat rfl hl.1 (Nat.le_of_ble_eq_true rfl) dd_M_word_81 hf (fun o1 H locs hf hat => ?_)
    refine np_callVi (As := [.int (np_i ((-1))), .long (np_l o1.1)]) (rest := []) C (c_M_part l ((-1)) o1.1 _) np_allgood tw_1026 tw_1028 tp_28 tw_8 tw_1029 (nA := 2) (by decide +kernel) rfl ⟨rfl, rfl, Nat.le_of_ble_eq_true rfl, Nat.le_of_ble_eq_true rfl⟩ (va_recv C.k hat.1 (ci := 6) (q0 := 29) rfl (nc_o29 _)) hat rfl hl.1 (Nat.le_of_ble_eq_true rfl) dd_M_word_84 hf (fun o2 H locs hf hat => ?_)
    exact w_f_M_word_87 C hQ  _ _ _ _ _ hf hat (lv_sub hl [] rfl)
  · refine lv_iconst (v := np_i 0) C.x C.b dd_M_word_73 rfl ?_
    refine lv_goto (tgt := 87) C.x C.b dd_M_word_74 (by decide) ?_
    exact w_f_M_word_87 C hQ  _ _ _ _ _ hf hat (lv_sub hl [] rfl)
set_option maxHeartbeats 4000000 in
set_option maxRecDepth 100000 in
theorem w_f_M_word_37 (C : np_Cx gA p R s m args c D np_cl (np_ty cA) A np_al "NotationParseModel" prog_9_method_12_code 5 { frames := 3, cells := 0, slots := 0, locals := 65 }) (hQ : ∀ (pc : Nat) (ls : Array Slot) (H : Heap) (locs : List Loc) (v : Int) {σ : np_S}, decode prog_9_method_12_code pc = .ok (.ireturn, 1) → some (v, σ) = some out → np_At D np_cl A (nc_wd q cA) s σ H locs → W p l e R s m args below meth c H locs 0 0 Q (F0 m pc ls [.int (np_i v)]))   : ∀ (x1 x3 t0 : Int) (σ : np_S) (H : Heap) (locs : List Loc) (ls : Array Slot), f_M_word_37  x1 x3 t0 σ = some out → np_At D np_cl A (nc_wd q cA) s σ H locs → lv_has ls 5 [(0, .ref (q 29)), (1, .long (np_l x1)), (3, .int (np_i x3))] → W p l e R s m args below meth c H locs 0 0 Q (F0 m 37 ls [.int (np_i t0)]) := by
  intro x1 x3 t0 σ H locs ls hf hat hl
  unfold f_M_word_37 at hf
  refine lv_istore (lv' := [(4, .int (np_i t0)), (0, .ref (q 29)), (1, .long (np_l x1)), (3, .int (np_i x3))]) C.x C.b dd_M_word_37 hl (by decide) rfl (fun ls hl => ?_)
  refine lv_aload_n C.x C.b dd_M_word_39 rfl (lv_at hl 1 rfl) ?_
  refine lv_iload C.x C.b dd_M_word_40 (lv_at hl 0 rfl) ?_
  refine np_if_ne (tgt := 49) C dd_M_word_42 (by decide) hf (fun _ hf => ?_) (fun _ hf => ?_)
  · refine lv_aload_n C.x C.b dd_M_word_49 rfl (lv_at hl 1 rfl) ?_
    refine np_get (v := .int (np_i (σ 29 1))) C i_M hat.1 29 (nc_o29 _) rfl 1 (by decide) tw_924 rfl rfl dd_M_word_50 ?_
    refine lv_bipush (v := np_i 6) C.x C.b dd_M_word_53 (by decide +kernel) ?_
    refine np_icmp_ne (tgt := 62) C dd_M_word_55 (by decide) hf (fun _ hf => ?_) (fun _ hf => ?_)
    · refine lv_iconst (v := np_i 0) C.x C.b dd_M_word_62 rfl ?_
      exact w_f_M_word_63 C hQ  _ _ _ _ _ _ _ hf hat (lv_sub hl [1, 2, 3] rfl)
    · refine lv_iconst (v := np_i 2) C.x C.b dd_M_word_58 rfl ?_
      refine lv_goto (tgt := 63) C.x C.b dd_M_word_59 (by decide) ?_
      exact w_f_M_word_63 C hQ  _ _ _ _ _ _ _ hf hat (lv_sub hl [1, 2, 3] rfl)
  · refine lv_iconst (v := np_i 1) C.x C.b dd_M_word_45 rfl ?_
    refine lv_goto (tgt := 63) C.x C.b dd_M_word_46 (by decide) ?_
    exact w_f_M_word_63 C hQ  _ _ _ _ _ _ _ hf hat (lv_sub hl [1, 2, 3] rfl)
set_option maxHeartbeats 4000000 in
set_option maxRecDepth 100000 in
theorem w_f_M_word_36 (C : np_Cx gA p R s m args c D np_cl (np_ty cA) A np_al "NotationParseModel" prog_9_method_12_code 5 { frames := 3, cells := 0, slots := 0, locals := 65 }) (hQ : ∀ (pc : Nat) (ls : Array Slot) (H : Heap) (locs : List Loc) (v : Int) {σ : np_S}, decode prog_9_method_12_code pc = .ok (.ireturn, 1) → some (v, σ) = some out → np_At D np_cl A (nc_wd q cA) s σ H locs → W p l e R s m args below meth c H locs 0 0 Q (F0 m pc ls [.int (np_i v)]))   : ∀ (x1 x3 : Int) (σ : np_S) (H : Heap) (locs : List Loc) (ls : Array Slot), f_M_word_36  x1 x3 σ = some out → np_At D np_cl A (nc_wd q cA) s σ H locs → lv_has ls 5 [(0, .ref (q 29)), (1, .long (np_l x1)), (3, .int (np_i x3))] → W p l e R s m args below meth c H locs 0 0 Q (F0 m 36 ls []) := by
  intro x1 x3 σ H locs ls hf hat hl
  unfold f_M_word_36 at hf
  refine lv_iconst (v := np_i 0) C.x C.b dd_M_word_36 rfl ?_
  exact w_f_M_word_37 C hQ  _ _ _ _ _ _ _ hf hat (lv_sub hl [0, 1, 2] rfl)
set_option maxHeartbeats 4000000 in
set_option maxRecDepth 100000 in
theorem w_f_M_word (C : np_Cx gA p R s m args c D np_cl (np_ty cA) A np_al "NotationParseModel" prog_9_method_12_code 5 { frames := 3, cells := 0, slots := 0, locals := 65 }) (hQ : ∀ (pc : Nat) (ls : Array Slot) (H : Heap) (locs : List Loc) (v : Int) {σ : np_S}, decode prog_9_method_12_code pc = .ok (.ireturn, 1) → some (v, σ) = some out → np_At D np_cl A (nc_wd q cA) s σ H locs → W p l e R s m args below meth c H locs 0 0 Q (F0 m pc ls [.int (np_i v)]))   : ∀ (x1 x3 : Int) (σ : np_S) (H : Heap) (locs : List Loc) (ls : Array Slot), f_M_word  x1 x3 σ = some out → np_At D np_cl A (nc_wd q cA) s σ H locs → lv_has ls 5 [(0, .ref (q 29)), (1, .long (np_l x1)), (3, .int (np_i x3))] → W p l e R s m args below meth c H locs 0 0 Q (F0 m 0 ls []) := by
  intro x1 x3 σ H locs ls hf hat hl
  unfold f_M_word at hf
  refine lv_lload_n C.x C.b dd_M_word_0 rfl (lv_at hl 1 rfl) ?_
  refine lv_iload_n C.x C.b dd_M_word_1 rfl (lv_at hl 2 rfl) ?_
  refine np_callSi (As := [.long (np_l x1), .int (np_i x3)]) (rest := []) C (c_M_isWord l x1 x3 _) np_allgood tw_1034 tw_1035 tw_8 tw_1036 (nA := 2) (by decide +kernel) rfl ⟨rfl, rfl, Nat.le_of_ble_eq_true rfl, Nat.le_of_ble_eq_true rfl⟩ hat rfl hl.1 (Nat.le_of_ble_eq_true rfl) dd_M_word_2 hf (fun o3 H locs hf hat => ?_)
  refine np_if_eq (tgt := 36) C dd_M_word_5 (by decide) hf (fun _ hf => ?_) (fun _ hf => ?_)
  · exact w_f_M_word_36 C hQ  _ _ _ _ _ _ hf hat (lv_sub hl [0, 1, 2] rfl)
  · refine lv_lload_n C.x C.b dd_M_word_8 rfl (lv_at hl 1 rfl) ?_
    refine lv_iload_n C.x C.b dd_M_word_9 rfl (lv_at hl 2 rfl) ?_
    refine np_callSl (As := [.long (np_l x1), .int (np_i x3)]) (rest := []) C (c_M_lowest l x1 x3 _) np_allgood tw_1050 tw_1051 tw_8 tw_1052 (nA := 2) (by decide +kernel) rfl ⟨rfl, rfl, Nat.le_of_ble_eq_true rfl, Nat.le_of_ble_eq_true rfl⟩ hat rfl hl.1 (Nat.le_of_ble_eq_true rfl) dd_M_word_10 hf (fun o4 H locs hf hat => ?_)
    refine np_ldc2 (v := 40) C tw_1053 dd_M_word_13 ?_
    refine np_lcmp C dd_M_word_16 hf (fun hf => ?_)
    refine np_if_eq (tgt := 36) C dd_M_word_17 (by decide) hf (fun _ hf => ?_) (fun _ hf => ?_)
    · exact w_f_M_word_36 C hQ  _ _ _ _ _ _ hf hat (lv_sub hl [0, 1, 2] rfl)
    · refine lv_lload_n C.x C.b dd_M_word_20 rfl (lv_at hl 1 rfl) ?_
      refine lv_iload_n C.x C.b dd_M_word_21 rfl (lv_at hl 2 rfl) ?_
      refine np_callSl (As := [.long (np_l x1), .int (np_i x3)]) (rest := []) C (c_M_lowest l x1 x3 _) np_allgood tw_1050 tw_1051 tw_8 tw_1052 (nA := 2) (by decide +kernel) rfl ⟨rfl, rfl, Nat.le_of_ble_eq_true rfl, Nat.le_of_ble_eq_true rfl⟩ hat rfl hl.1 (Nat.le_of_ble_eq_true rfl) dd_M_word_22 hf (fun o5 H locs hf hat => ?_)
      refine np_ldc2 (v := 41) C tw_1054 dd_M_word_25 ?_
      refine np_lcmp C dd_M_word_28 hf (fun hf => ?_)
      refine np_if_eq (tgt := 36) C dd_M_word_29 (by decide) hf (fun _ hf => ?_) (fun _ hf => ?_)
      · exact w_f_M_word_36 C hQ  _ _ _ _ _ _ hf hat (lv_sub hl [0, 1, 2] rfl)
      · refine lv_iconst (v := np_i 1) C.x C.b dd_M_word_32 rfl ?_
        refine lv_goto (tgt := 37) C.x C.b dd_M_word_33 (by decide) ?_
        exact w_f_M_word_37 C hQ  _ _ _ _ _ _ _ hf hat (lv_sub hl [0, 1, 2] rfl)
set_option maxHeartbeats 4000000 in
set_option maxRecDepth 100000 in
theorem c_M_word (l : Launch) {gA : Nat → Nat} {D : va_G} {q : Nat → Nat} {cA : Nat → ClassId} (x1 x3 : Int) (σ : np_S) : np_Mi gA l D np_cl (np_ty cA) (nc_wd q cA) yy_M_word (.code yy_M_word prog_9_method_12_code 5 (some .int) :: np_al) { frames := 3, cells := 0, slots := 0, locals := 65 } [.ref (q 29), .long (np_l x1), .int (np_i x3)] σ (f_M_word x1 x3 σ) :=
  np_mki (by decide +kernel) (Nat.le_of_ble_eq_true rfl) (fun o p e R s m args below meth c Q A ls hf C hQ hat hl => w_f_M_word C hQ x1 x3 σ _ _ _ hf hat (lv_sub hl [0, 1, 2] rfl))
set_option maxHeartbeats 4000000 in
set_option maxRecDepth 100000 in
theorem w_f_M_notation_101 (C : np_Cx gA p R s m args c D np_cl (np_ty cA) A np_al "NotationParseModel" prog_9_method_13_code 4 { frames := 0, cells := 0, slots := 0, locals := 0 }) (hQ : ∀ (pc : Nat) (ls : Array Slot) (H : Heap) (locs : List Loc) (v : Int) {σ : np_S}, decode prog_9_method_13_code pc = .ok (.ireturn, 1) → some (v, σ) = some out → np_At D np_cl A (nc_wd q cA) s σ H locs → W p l e R s m args below meth c H locs 0 0 Q (F0 m pc ls [.int (np_i v)]))   : ∀ (n : Nat), ∀ (x1 x3 : Int) (σ : np_S) (H : Heap) (locs : List Loc) (ls : Array Slot), f_M_notation_101  n x1 x3 σ = some out → np_At D np_cl A (nc_wd q cA) s σ H locs → lv_has ls 4 [(0, .ref (q 29)), (1, .int (np_i x1)), (3, .int (np_i x3))] → W p l e R s m args below meth c H locs 0 0 Q (F0 m 101 ls []) := by
  intro n
  induction n with
  | zero => intro x1 x3 σ H locs ls hf; cases hf
  | succ n ih =>
    intro x1 x3 σ H locs ls hf hat hl
    have h101 := ih
    have hf : f_M_notation_101_b  (fun x1 x3 σ => f_M_notation_101  n x1 x3 σ) x1 x3 σ = some out := hf
    unfold f_M_notation_101_b at hf
    refine lv_iload_n C.x C.b dd_M_notation_101 rfl (lv_at hl 2 rfl) ?_
    refine lv_aload_n C.x C.b dd_M_notation_102 rfl (lv_at hl 0 rfl) ?_
    refine np_get (v := .int (np_i (σ 29 1))) C i_M hat.1 29 (nc_o29 _) rfl 1 (by decide) tw_924 rfl rfl dd_M_notation_103 ?_
    refine np_icmp_ge (tgt := 161) C dd_M_notation_106 (by decide) hf (fun _ hf => ?_) (fun _ hf => ?_)
    · refine lv_aload_n C.x C.b dd_M_notation_161 rfl (lv_at hl 0 rfl) ?_
      refine np_get (v := .ref (q 32)) C i_M hat.1 29 (nc_o29 _) rfl 5 (by decide) tw_928 rfl rfl dd_M_notation_162 ?_
      refine lv_aload_n C.x C.b dd_M_notation_165 rfl (lv_at hl 0 rfl) ?_
      refine np_get (v := .int (np_i (σ 29 2))) C i_M hat.1 29 (nc_o29 _) rfl 2 (by decide) tw_925 rfl rfl dd_M_notation_166 ?_
      refine lv_aload_n C.x C.b dd_M_notation_169 rfl (lv_at hl 0 rfl) ?_
      refine np_get (v := .int (np_i (σ 29 1))) C i_M hat.1 29 (nc_o29 _) rfl 1 (by decide) tw_924 rfl rfl dd_M_notation_170 ?_
      refine np_iastore C hat 32 (nc_a32 _) 0 rfl (by decide) (nc_s32 _ _ _) dd_M_notation_173 hf (fun H locs hat hf => ?_)
      refine lv_aload_n C.x C.b dd_M_notation_174 rfl (lv_at hl 0 rfl) ?_
      refine np_get (v := .ref (q 33)) C i_M hat.1 29 (nc_o29 _) rfl 6 (by decide) tw_929 rfl rfl dd_M_notation_175 ?_
      refine lv_aload_n C.x C.b dd_M_notation_178 rfl (lv_at hl 0 rfl) ?_
      refine np_get (v := .int (np_i ((np_st σ 32 (σ 29 2) (σ 29 1)) 29 2))) C i_M hat.1 29 (nc_o29 _) rfl 2 (by decide) tw_925 rfl rfl dd_M_notation_179 ?_
      refine lv_iload_n C.x C.b dd_M_notation_182 rfl (lv_at hl 1 rfl) ?_
      refine np_iastore C hat 33 (nc_a33 _) 0 rfl (by decide) (nc_s33 _ _ _) dd_M_notation_183 hf (fun H locs hat hf => ?_)
      refine lv_aload_n C.x C.b dd_M_notation_184 rfl (lv_at hl 0 rfl) ?_
      refine lv_dup C.x C.b dd_M_notation_185 rfl ?_
      refine np_get (v := .int (np_i ((np_st (np_st σ 32 (σ 29 2) (σ 29 1)) 33 ((np_st σ 32 (σ 29 2) (σ 29 1)) 29 2) x1) 29 2))) C i_M hat.1 29 (nc_o29 _) rfl 2 (by decide) tw_925 rfl rfl dd_M_notation_186 ?_
      refine lv_iconst (v := np_i 1) C.x C.b dd_M_notation_189 rfl ?_
      refine np_iadd C dd_M_notation_190 ?_
      refine np_put C i_M t_M tok_M n_M hat 29 (nc_o29 _) rfl 2 (by decide) tw_925 rfl rfl (by decide +kernel) (np_narI (((np_st (np_st σ 32 (σ 29 2) (σ 29 1)) 33 ((np_st σ 32 (σ 29 2) (σ 29 1)) 29 2) x1) 29 2) + 1)) (np_fitI (((np_st (np_st σ 32 (σ 29 2) (σ 29 1)) 33 ((np_st σ 32 (σ 29 2) (σ 29 1)) 29 2) x1) 29 2) + 1)) (Nat.le_of_ble_eq_true rfl) (nc_s29_2 _ _) dd_M_notation_191 (fun H locs hat => ?_)
      refine lv_aload_n C.x C.b dd_M_notation_194 rfl (lv_at hl 0 rfl) ?_
      refine lv_iconst (v := np_i 0) C.x C.b dd_M_notation_195 rfl ?_
      refine np_put C i_M t_M tok_M n_M hat 29 (nc_o29 _) rfl 1 (by decide) tw_924 rfl rfl (by decide +kernel) (np_narI 0) (np_fitI 0) (Nat.le_of_ble_eq_true rfl) (nc_s29_1 _ _) dd_M_notation_196 (fun H locs hat => ?_)
      refine lv_aload_n C.x C.b dd_M_notation_199 rfl (lv_at hl 0 rfl) ?_
      refine lv_iconst (v := np_i 0) C.x C.b dd_M_notation_200 rfl ?_
      refine np_put C i_M t_M tok_M n_M hat 29 (nc_o29 _) rfl 18 (by decide) tw_941 rfl rfl (by decide +kernel) (np_narI 0) (np_fitI 0) (Nat.le_of_ble_eq_true rfl) (nc_s29_18 _ _) dd_M_notation_201 (fun H locs hat => ?_)
      refine lv_aload_n C.x C.b dd_M_notation_204 rfl (lv_at hl 0 rfl) ?_
      refine np_get (v := .int (np_i ((np_st (np_st (np_st (np_st (np_st σ 32 (σ 29 2) (σ 29 1)) 33 ((np_st σ 32 (σ 29 2) (σ 29 1)) 29 2) x1) 29 2 (((np_st (np_st σ 32 (σ 29 2) (σ 29 1)) 33 ((np_st σ 32 (σ 29 2) (σ 29 1)) 29 2) x1) 29 2) + 1)) 29 1 0) 29 18 0) 29 2))) C i_M hat.1 29 (nc_o29 _) rfl 2 (by decide) tw_925 rfl rfl dd_M_notation_205 ?_
      refine lv_iconst (v := np_i 1) C.x C.b dd_M_notation_208 rfl ?_
      refine np_isub C dd_M_notation_209 ?_
      exact hQ _ _ _ _ _ dd_M_notation_210 hf hat
    · refine lv_aload_n C.x C.b dd_M_notation_109 rfl (lv_at hl 0 rfl) ?_
      refine np_get (v := .ref (q 30)) C i_M hat.1 29 (nc_o29 _) rfl 3 (by decide) tw_926 rfl rfl dd_M_notation_110 ?_
      refine lv_bipush (v := np_i 7) C.x C.b dd_M_notation_113 (by decide +kernel) ?_
      refine lv_aload_n C.x C.b dd_M_notation_115 rfl (lv_at hl 0 rfl) ?_
      refine np_get (v := .int (np_i (σ 29 2))) C i_M hat.1 29 (nc_o29 _) rfl 2 (by decide) tw_925 rfl rfl dd_M_notation_116 ?_
      refine np_imul C dd_M_notation_119 ?_
      refine lv_iload_n C.x C.b dd_M_notation_120 rfl (lv_at hl 2 rfl) ?_
      refine np_iadd C dd_M_notation_121 ?_
      refine lv_aload_n C.x C.b dd_M_notation_122 rfl (lv_at hl 0 rfl) ?_
      refine np_get (v := .ref (q 30)) C i_M hat.1 29 (nc_o29 _) rfl 3 (by decide) tw_926 rfl rfl dd_M_notation_123 ?_
      refine lv_bipush (v := np_i 84) C.x C.b dd_M_notation_126 (by decide +kernel) ?_
      refine lv_iload_n C.x C.b dd_M_notation_128 rfl (lv_at hl 2 rfl) ?_
      refine np_iadd C dd_M_notation_129 ?_
      refine np_iaload C hat.1 30 (nc_a30 _) 0 rfl (by decide) dd_M_notation_130 hf (fun hf => ?_)
      refine np_iastore C hat 30 (nc_a30 _) 0 rfl (by decide) (nc_s30 _ _ _) dd_M_notation_131 hf (fun H locs hat hf => ?_)
      refine lv_aload_n C.x C.b dd_M_notation_132 rfl (lv_at hl 0 rfl) ?_
      refine np_get (v := .ref (q 31)) C i_M hat.1 29 (nc_o29 _) rfl 4 (by decide) tw_927 rfl rfl dd_M_notation_133 ?_
      refine lv_bipush (v := np_i 7) C.x C.b dd_M_notation_136 (by decide +kernel) ?_
      refine lv_aload_n C.x C.b dd_M_notation_138 rfl (lv_at hl 0 rfl) ?_
      refine np_get (v := .int (np_i ((np_st σ 30 ((7 * (σ 29 2)) + x3) (σ 30 (84 + x3))) 29 2))) C i_M hat.1 29 (nc_o29 _) rfl 2 (by decide) tw_925 rfl rfl dd_M_notation_139 ?_
      refine np_imul C dd_M_notation_142 ?_
      refine lv_iload_n C.x C.b dd_M_notation_143 rfl (lv_at hl 2 rfl) ?_
      refine np_iadd C dd_M_notation_144 ?_
      refine lv_aload_n C.x C.b dd_M_notation_145 rfl (lv_at hl 0 rfl) ?_
      refine np_get (v := .ref (q 31)) C i_M hat.1 29 (nc_o29 _) rfl 4 (by decide) tw_927 rfl rfl dd_M_notation_146 ?_
      refine lv_bipush (v := np_i 84) C.x C.b dd_M_notation_149 (by decide +kernel) ?_
      refine lv_iload_n C.x C.b dd_M_notation_151 rfl (lv_at hl 2 rfl) ?_
      refine np_iadd C dd_M_notation_152 ?_
      refine np_laload C hat.1 31 (nc_a31 _) 1 rfl (by decide) dd_M_notation_153 hf (fun hf => ?_)
      refine np_lastore C hat 31 (nc_a31 _) 1 rfl (by decide) (nc_s31 _ _ _) dd_M_notation_154 hf (fun H locs hat hf => ?_)
      refine lv_iinc (v := np_i (x3 + 1)) (lv' := [(3, .int (np_i (x3 + 1))), (0, .ref (q 29)), (1, .int (np_i x1))]) C.x C.b dd_M_notation_155 hl (k := 2) rfl (np_inc _ _) (by decide) rfl (fun ls hl => ?_)
      refine lv_goto (tgt := 101) C.x C.b dd_M_notation_158 (by decide) ?_
      exact h101 _ _ _ _ _ _ hf hat (lv_sub hl [1, 2, 0] rfl)
set_option maxHeartbeats 4000000 in
set_option maxRecDepth 100000 in
theorem w_f_M_notation_90 (C : np_Cx gA p R s m args c D np_cl (np_ty cA) A np_al "NotationParseModel" prog_9_method_13_code 4 { frames := 0, cells := 0, slots := 0, locals := 0 }) (hQ : ∀ (pc : Nat) (ls : Array Slot) (H : Heap) (locs : List Loc) (v : Int) {σ : np_S}, decode prog_9_method_13_code pc = .ok (.ireturn, 1) → some (v, σ) = some out → np_At D np_cl A (nc_wd q cA) s σ H locs → W p l e R s m args below meth c H locs 0 0 Q (F0 m pc ls [.int (np_i v)]))   : ∀ (x1 : Int) (σ : np_S) (H : Heap) (locs : List Loc) (ls : Array Slot), f_M_notation_90  x1 σ = some out → np_At D np_cl A (nc_wd q cA) s σ H locs → lv_has ls 4 [(0, .ref (q 29)), (1, .int (np_i x1))] → W p l e R s m args below meth c H locs 0 0 Q (F0 m 90 ls []) := by
  intro x1 σ H locs ls hf hat hl
  unfold f_M_notation_90 at hf
  refine lv_aload_n C.x C.b dd_M_notation_90 rfl (lv_at hl 0 rfl) ?_
  refine np_get (v := .int (np_i (σ 29 0))) C i_M hat.1 29 (nc_o29 _) rfl 0 (by decide) tw_923 rfl rfl dd_M_notation_91 ?_
  refine np_if_le (tgt := 99) C dd_M_notation_94 (by decide) hf (fun _ hf => ?_) (fun _ hf => ?_)
  · refine lv_iconst (v := np_i 0) C.x C.b dd_M_notation_99 rfl ?_
    refine lv_istore_n (lv' := [(3, .int (np_i 0)), (0, .ref (q 29)), (1, .int (np_i x1))]) C.x C.b dd_M_notation_100 rfl hl (by decide) rfl (fun ls hl => ?_)
    exact w_f_M_notation_101 C hQ  20000 _ _ _ _ _ _ hf hat (lv_sub hl [1, 2, 0] rfl)
  · refine lv_iconst (v := np_i 0) C.x C.b dd_M_notation_97 rfl ?_
    exact hQ _ _ _ _ _ dd_M_notation_98 hf hat
set_option maxHeartbeats 4000000 in
set_option maxRecDepth 100000 in
theorem w_f_M_notation_74 (C : np_Cx gA p R s m args c D np_cl (np_ty cA) A np_al "NotationParseModel" prog_9_method_13_code 4 { frames := 0, cells := 0, slots := 0, locals := 0 }) (hQ : ∀ (pc : Nat) (ls : Array Slot) (H : Heap) (locs : List Loc) (v : Int) {σ : np_S}, decode prog_9_method_13_code pc = .ok (.ireturn, 1) → some (v, σ) = some out → np_At D np_cl A (nc_wd q cA) s σ H locs → W p l e R s m args below meth c H locs 0 0 Q (F0 m pc ls [.int (np_i v)]))   : ∀ (x1 t1 : Int) (σ : np_S) (H : Heap) (locs : List Loc) (ls : Array Slot), f_M_notation_74  x1 t1 σ = some out → np_At D np_cl A (nc_wd q cA) s σ H locs → lv_has ls 4 [(0, .ref (q 29)), (1, .int (np_i x1))] → W p l e R s m args below meth c H locs 0 0 Q (F0 m 74 ls [.int (np_i t1), .ref (q 29)]) := by
  intro x1 t1 σ H locs ls hf hat hl
  unfold f_M_notation_74 at hf
  refine np_put C i_M t_M tok_M n_M hat 29 (nc_o29 _) rfl 0 (by decide) tw_923 rfl rfl (by decide +kernel) (np_narI t1) (np_fitI t1) (Nat.le_of_ble_eq_true rfl) (nc_s29_0 _ _) dd_M_notation_74 (fun H locs hat => ?_)
  refine lv_aload_n C.x C.b dd_M_notation_77 rfl (lv_at hl 0 rfl) ?_
  refine np_get (v := .int (np_i ((np_st σ 29 0 t1) 29 0))) C i_M hat.1 29 (nc_o29 _) rfl 0 (by decide) tw_923 rfl rfl dd_M_notation_78 ?_
  refine lv_iconst (v := np_i 1) C.x C.b dd_M_notation_81 rfl ?_
  refine np_icmp_ne (tgt := 90) C dd_M_notation_82 (by decide) hf (fun _ hf => ?_) (fun _ hf => ?_)
  · exact w_f_M_notation_90 C hQ  _ _ _ _ _ hf hat (lv_sub hl [0, 1] rfl)
  · refine lv_aload_n C.x C.b dd_M_notation_85 rfl (lv_at hl 0 rfl) ?_
    refine lv_iconst (v := np_i 0) C.x C.b dd_M_notation_86 rfl ?_
    refine np_put C i_M t_M tok_M n_M hat 29 (nc_o29 _) rfl 1 (by decide) tw_924 rfl rfl (by decide +kernel) (np_narI 0) (np_fitI 0) (Nat.le_of_ble_eq_true rfl) (nc_s29_1 _ _) dd_M_notation_87 (fun H locs hat => ?_)
    exact w_f_M_notation_90 C hQ  _ _ _ _ _ hf hat (lv_sub hl [0, 1] rfl)
set_option maxHeartbeats 4000000 in
set_option maxRecDepth 100000 in
theorem w_f_M_notation_56 (C : np_Cx gA p R s m args c D np_cl (np_ty cA) A np_al "NotationParseModel" prog_9_method_13_code 4 { frames := 0, cells := 0, slots := 0, locals := 0 }) (hQ : ∀ (pc : Nat) (ls : Array Slot) (H : Heap) (locs : List Loc) (v : Int) {σ : np_S}, decode prog_9_method_13_code pc = .ok (.ireturn, 1) → some (v, σ) = some out → np_At D np_cl A (nc_wd q cA) s σ H locs → W p l e R s m args below meth c H locs 0 0 Q (F0 m pc ls [.int (np_i v)]))   : ∀ (x1 : Int) (σ : np_S) (H : Heap) (locs : List Loc) (ls : Array Slot), f_M_notation_56  x1 σ = some out → np_At D np_cl A (nc_wd q cA) s σ H locs → lv_has ls 4 [(0, .ref (q 29)), (1, .int (np_i x1))] → W p l e R s m args below meth c H locs 0 0 Q (F0 m 56 ls [.ref (q 29)]) := by
  intro x1 σ H locs ls hf hat hl
  unfold f_M_notation_56 at hf
  refine lv_iconst (v := np_i 1) C.x C.b dd_M_notation_56 rfl ?_
  refine lv_goto (tgt := 74) C.x C.b dd_M_notation_57 (by decide) ?_
  exact w_f_M_notation_74 C hQ  _ _ _ _ _ _ hf hat (lv_sub hl [0, 1] rfl)
set_option maxHeartbeats 4000000 in
set_option maxRecDepth 100000 in
theorem w_f_M_notation_34 (C : np_Cx gA p R s m args c D np_cl (np_ty cA) A np_al "NotationParseModel" prog_9_method_13_code 4 { frames := 0, cells := 0, slots := 0, locals := 0 }) (hQ : ∀ (pc : Nat) (ls : Array Slot) (H : Heap) (locs : List Loc) (v : Int) {σ : np_S}, decode prog_9_method_13_code pc = .ok (.ireturn, 1) → some (v, σ) = some out → np_At D np_cl A (nc_wd q cA) s σ H locs → W p l e R s m args below meth c H locs 0 0 Q (F0 m pc ls [.int (np_i v)])) {k4 : (Int → Int → Int → np_S → Option np_O)} (h4 : ∀ (x1 x2 x3 : Int) (σ : np_S) (H : Heap) (locs : List Loc) (ls : Array Slot), k4 x1 x2 x3 σ = some out → np_At D np_cl A (nc_wd q cA) s σ H locs → lv_has ls 4 [(0, .ref (q 29)), (1, .int (np_i x1)), (2, .int (np_i x2)), (3, .int (np_i x3))] → W p l e R s m args below meth c H locs 0 0 Q (F0 m 4 ls [])) : ∀ (x1 x3 t0 : Int) (σ : np_S) (H : Heap) (locs : List Loc) (ls : Array Slot), f_M_notation_34 k4 x1 x3 t0 σ = some out → np_At D np_cl A (nc_wd q cA) s σ H locs → lv_has ls 4 [(0, .ref (q 29)), (1, .int (np_i x1)), (3, .int (np_i x3))] → W p l e R s m args below meth c H locs 0 0 Q (F0 m 34 ls [.int (np_i t0)]) := by
  intro x1 x3 t0 σ H locs ls hf hat hl
  unfold f_M_notation_34 at hf
  refine lv_istore_n (lv' := [(2, .int (np_i t0)), (0, .ref (q 29)), (1, .int (np_i x1)), (3, .int (np_i x3))]) C.x C.b dd_M_notation_34 rfl hl (by decide) rfl (fun ls hl => ?_)
  refine lv_iinc (v := np_i (x3 + 1)) (lv' := [(3, .int (np_i (x3 + 1))), (2, .int (np_i t0)), (0, .ref (q 29)), (1, .int (np_i x1))]) C.x C.b dd_M_notation_35 hl (k := 3) rfl (np_inc _ _) (by decide) rfl (fun ls hl => ?_)
  refine lv_goto (tgt := 4) C.x C.b dd_M_notation_38 (by decide) ?_
  exact h4 _ _ _ _ _ _ _ hf hat (lv_sub hl [2, 3, 1, 0] rfl)
set_option maxHeartbeats 4000000 in
set_option maxRecDepth 100000 in
theorem w_f_M_notation_29 (C : np_Cx gA p R s m args c D np_cl (np_ty cA) A np_al "NotationParseModel" prog_9_method_13_code 4 { frames := 0, cells := 0, slots := 0, locals := 0 }) (hQ : ∀ (pc : Nat) (ls : Array Slot) (H : Heap) (locs : List Loc) (v : Int) {σ : np_S}, decode prog_9_method_13_code pc = .ok (.ireturn, 1) → some (v, σ) = some out → np_At D np_cl A (nc_wd q cA) s σ H locs → W p l e R s m args below meth c H locs 0 0 Q (F0 m pc ls [.int (np_i v)])) {k4 : (Int → Int → Int → np_S → Option np_O)} (h4 : ∀ (x1 x2 x3 : Int) (σ : np_S) (H : Heap) (locs : List Loc) (ls : Array Slot), k4 x1 x2 x3 σ = some out → np_At D np_cl A (nc_wd q cA) s σ H locs → lv_has ls 4 [(0, .ref (q 29)), (1, .int (np_i x1)), (2, .int (np_i x2)), (3, .int (np_i x3))] → W p l e R s m args below meth c H locs 0 0 Q (F0 m 4 ls [])) : ∀ (x1 x3 : Int) (σ : np_S) (H : Heap) (locs : List Loc) (ls : Array Slot), f_M_notation_29 k4 x1 x3 σ = some out → np_At D np_cl A (nc_wd q cA) s σ H locs → lv_has ls 4 [(0, .ref (q 29)), (1, .int (np_i x1)), (3, .int (np_i x3))] → W p l e R s m args below meth c H locs 0 0 Q (F0 m 29 ls []) := by
  intro x1 x3 σ H locs ls hf hat hl
  unfold f_M_notation_29 at hf
  refine lv_iconst (v := np_i 1) C.x C.b dd_M_notation_29 rfl ?_
  refine lv_goto (tgt := 34) C.x C.b dd_M_notation_30 (by decide) ?_
  exact w_f_M_notation_34 C hQ h4 _ _ _ _ _ _ _ hf hat (lv_sub hl [0, 1, 2] rfl)
set_option maxHeartbeats 4000000 in
set_option maxRecDepth 100000 in
theorem w_f_M_notation_4 (C : np_Cx gA p R s m args c D np_cl (np_ty cA) A np_al "NotationParseModel" prog_9_method_13_code 4 { frames := 0, cells := 0, slots := 0, locals := 0 }) (hQ : ∀ (pc : Nat) (ls : Array Slot) (H : Heap) (locs : List Loc) (v : Int) {σ : np_S}, decode prog_9_method_13_code pc = .ok (.ireturn, 1) → some (v, σ) = some out → np_At D np_cl A (nc_wd q cA) s σ H locs → W p l e R s m args below meth c H locs 0 0 Q (F0 m pc ls [.int (np_i v)]))   : ∀ (n : Nat), ∀ (x1 x2 x3 : Int) (σ : np_S) (H : Heap) (locs : List Loc) (ls : Array Slot), f_M_notation_4  n x1 x2 x3 σ = some out → np_At D np_cl A (nc_wd q cA) s σ H locs → lv_has ls 4 [(0, .ref (q 29)), (1, .int (np_i x1)), (2, .int (np_i x2)), (3, .int (np_i x3))] → W p l e R s m args below meth c H locs 0 0 Q (F0 m 4 ls []) := by
  intro n
  induction n with
  | zero => intro x1 x2 x3 σ H locs ls hf; cases hf
  | succ n ih =>
    intro x1 x2 x3 σ H locs ls hf hat hl
    have h4 := ih
    have hf : f_M_notation_4_b  (fun x1 x2 x3 σ => f_M_notation_4  n x1 x2 x3 σ) x1 x2 x3 σ = some out := hf
    unfold f_M_notation_4_b at hf
    refine lv_iload_n C.x C.b dd_M_notation_4 rfl (lv_at hl 3 rfl) ?_
    refine lv_aload_n C.x C.b dd_M_notation_5 rfl (lv_at hl 0 rfl) ?_
    refine np_get (v := .int (np_i (σ 29 1))) C i_M hat.1 29 (nc_o29 _) rfl 1 (by decide) tw_924 rfl rfl dd_M_notation_6 ?_
    refine np_icmp_ge (tgt := 41) C dd_M_notation_9 (by decide) hf (fun _ hf => ?_) (fun _ hf => ?_)
    · refine lv_aload_n C.x C.b dd_M_notation_41 rfl (lv_at hl 0 rfl) ?_
      refine lv_iload_n C.x C.b dd_M_notation_42 rfl (lv_at hl 1 rfl) ?_
      refine np_if_lt (tgt := 56) C dd_M_notation_43 (by decide) hf (fun _ hf => ?_) (fun _ hf => ?_)
      · exact w_f_M_notation_56 C hQ  _ _ _ _ _ hf hat (lv_sub hl [0, 1] rfl)
      · refine lv_iload_n C.x C.b dd_M_notation_46 rfl (lv_at hl 1 rfl) ?_
        refine lv_bipush (v := np_i 9) C.x C.b dd_M_notation_47 (by decide +kernel) ?_
        refine np_icmp_gt (tgt := 56) C dd_M_notation_49 (by decide) hf (fun _ hf => ?_) (fun _ hf => ?_)
        · exact w_f_M_notation_56 C hQ  _ _ _ _ _ hf hat (lv_sub hl [0, 1] rfl)
        · refine lv_iload_n C.x C.b dd_M_notation_52 rfl (lv_at hl 2 rfl) ?_
          refine np_if_ne (tgt := 60) C dd_M_notation_53 (by decide) hf (fun _ hf => ?_) (fun _ hf => ?_)
          · refine lv_aload_n C.x C.b dd_M_notation_60 rfl (lv_at hl 0 rfl) ?_
            refine np_get (v := .int (np_i (σ 29 2))) C i_M hat.1 29 (nc_o29 _) rfl 2 (by decide) tw_925 rfl rfl dd_M_notation_61 ?_
            refine lv_bipush (v := np_i 12) C.x C.b dd_M_notation_64 (by decide +kernel) ?_
            refine np_icmp_ne (tgt := 73) C dd_M_notation_66 (by decide) hf (fun _ hf => ?_) (fun _ hf => ?_)
            · refine lv_iconst (v := np_i 0) C.x C.b dd_M_notation_73 rfl ?_
              exact w_f_M_notation_74 C hQ  _ _ _ _ _ _ hf hat (lv_sub hl [0, 1] rfl)
            · refine lv_iconst (v := np_i 2) C.x C.b dd_M_notation_69 rfl ?_
              refine lv_goto (tgt := 74) C.x C.b dd_M_notation_70 (by decide) ?_
              exact w_f_M_notation_74 C hQ  _ _ _ _ _ _ hf hat (lv_sub hl [0, 1] rfl)
          · exact w_f_M_notation_56 C hQ  _ _ _ _ _ hf hat (lv_sub hl [0, 1] rfl)
    · refine lv_iload_n C.x C.b dd_M_notation_12 rfl (lv_at hl 2 rfl) ?_
      refine np_if_ne (tgt := 29) C dd_M_notation_13 (by decide) hf (fun _ hf => ?_) (fun _ hf => ?_)
      · exact w_f_M_notation_29 C hQ h4 _ _ _ _ _ _ hf hat (lv_sub hl [0, 1, 3] rfl)
      · refine lv_aload_n C.x C.b dd_M_notation_16 rfl (lv_at hl 0 rfl) ?_
        refine np_get (v := .ref (q 30)) C i_M hat.1 29 (nc_o29 _) rfl 3 (by decide) tw_926 rfl rfl dd_M_notation_17 ?_
        refine lv_bipush (v := np_i 84) C.x C.b dd_M_notation_20 (by decide +kernel) ?_
        refine lv_iload_n C.x C.b dd_M_notation_22 rfl (lv_at hl 3 rfl) ?_
        refine np_iadd C dd_M_notation_23 ?_
        refine np_iaload C hat.1 30 (nc_a30 _) 0 rfl (by decide) dd_M_notation_24 hf (fun hf => ?_)
        refine lv_iconst (v := np_i (-1)) C.x C.b dd_M_notation_25 rfl ?_
        refine np_icmp_ne (tgt := 33) C dd_M_notation_26 (by decide) hf (fun _ hf => ?_) (fun _ hf => ?_)
        · refine lv_iconst (v := np_i 0) C.x C.b dd_M_notation_33 rfl ?_
          exact w_f_M_notation_34 C hQ h4 _ _ _ _ _ _ _ hf hat (lv_sub hl [0, 1, 3] rfl)
        · exact w_f_M_notation_29 C hQ h4 _ _ _ _ _ _ hf hat (lv_sub hl [0, 1, 3] rfl)
set_option maxHeartbeats 4000000 in
set_option maxRecDepth 100000 in
theorem w_f_M_notation (C : np_Cx gA p R s m args c D np_cl (np_ty cA) A np_al "NotationParseModel" prog_9_method_13_code 4 { frames := 0, cells := 0, slots := 0, locals := 0 }) (hQ : ∀ (pc : Nat) (ls : Array Slot) (H : Heap) (locs : List Loc) (v : Int) {σ : np_S}, decode prog_9_method_13_code pc = .ok (.ireturn, 1) → some (v, σ) = some out → np_At D np_cl A (nc_wd q cA) s σ H locs → W p l e R s m args below meth c H locs 0 0 Q (F0 m pc ls [.int (np_i v)]))   : ∀ (x1 : Int) (σ : np_S) (H : Heap) (locs : List Loc) (ls : Array Slot), f_M_notation  x1 σ = some out → np_At D np_cl A (nc_wd q cA) s σ H locs → lv_has ls 4 [(0, .ref (q 29)), (1, .int (np_i x1))] → W p l e R s m args below meth c H locs 0 0 Q (F0 m 0 ls []) := by
  intro x1 σ H locs ls hf hat hl
  unfold f_M_notation at hf
  refine lv_iconst (v := np_i 0) C.x C.b dd_M_notation_0 rfl ?_
  refine lv_istore_n (lv' := [(2, .int (np_i 0)), (0, .ref (q 29)), (1, .int (np_i x1))]) C.x C.b dd_M_notation_1 rfl hl (by decide) rfl (fun ls hl => ?_)
  refine lv_iconst (v := np_i 0) C.x C.b dd_M_notation_2 rfl ?_
  refine lv_istore_n (lv' := [(3, .int (np_i 0)), (2, .int (np_i 0)), (0, .ref (q 29)), (1, .int (np_i x1))]) C.x C.b dd_M_notation_3 rfl hl (by decide) rfl (fun ls hl => ?_)
  exact w_f_M_notation_4 C hQ  20000 _ _ _ _ _ _ _ hf hat (lv_sub hl [2, 3, 1, 0] rfl)
set_option maxHeartbeats 4000000 in
set_option maxRecDepth 100000 in
theorem c_M_notation (l : Launch) {gA : Nat → Nat} {D : va_G} {q : Nat → Nat} {cA : Nat → ClassId} (x1 : Int) (σ : np_S) : np_Mi gA l D np_cl (np_ty cA) (nc_wd q cA) yy_M_notation (.code yy_M_notation prog_9_method_13_code 4 (some .int) :: np_al) { frames := 0, cells := 0, slots := 0, locals := 0 } [.ref (q 29), .int (np_i x1)] σ (f_M_notation x1 σ) :=
  np_mki (by decide +kernel) (Nat.le_of_ble_eq_true rfl) (fun o p e R s m args below meth c Q A ls hf C hQ hat hl => w_f_M_notation C hQ x1 σ _ _ _ hf hat (lv_sub hl [0, 1] rfl))
set_option maxHeartbeats 4000000 in
set_option maxRecDepth 100000 in
theorem w_f_M_put_28 (C : np_Cx gA p R s m args c D np_cl (np_ty cA) A np_al "NotationParseModel" prog_9_method_14_code 5 { frames := 1, cells := 0, slots := 0, locals := 23 }) (hQ : ∀ (pc : Nat) (ls : Array Slot) (H : Heap) (locs : List Loc) (v : Int) {σ : np_S}, decode prog_9_method_14_code pc = .ok (.ireturn, 1) → np_ck (v = 0 ∨ v = 1) (some (v, σ)) = some out → np_At D np_cl A (nc_wd q cA) s σ H locs → W p l e R s m args below meth c H locs 0 0 Q (F0 m pc ls [.int (np_i v)]))   : ∀ (σ : np_S) (H : Heap) (locs : List Loc) (ls : Array Slot), f_M_put_28  σ = some out → np_At D np_cl A (nc_wd q cA) s σ H locs → lv_has ls 5 [] → W p l e R s m args below meth c H locs 0 0 Q (F0 m 28 ls []) := by
  intro σ H locs ls hf hat hl
  unfold f_M_put_28 at hf
  refine lv_iconst (v := np_i 0) C.x C.b dd_M_put_28 rfl ?_
  exact hQ _ _ _ _ _ dd_M_put_29 hf hat
set_option maxHeartbeats 4000000 in
set_option maxRecDepth 100000 in
theorem w_f_M_put_33 (C : np_Cx gA p R s m args c D np_cl (np_ty cA) A np_al "NotationParseModel" prog_9_method_14_code 5 { frames := 1, cells := 0, slots := 0, locals := 23 }) (hQ : ∀ (pc : Nat) (ls : Array Slot) (H : Heap) (locs : List Loc) (v : Int) {σ : np_S}, decode prog_9_method_14_code pc = .ok (.ireturn, 1) → np_ck (v = 0 ∨ v = 1) (some (v, σ)) = some out → np_At D np_cl A (nc_wd q cA) s σ H locs → W p l e R s m args below meth c H locs 0 0 Q (F0 m pc ls [.int (np_i v)]))   : ∀ (n : Nat), ∀ (x1 x3 x4 : Int) (σ : np_S) (H : Heap) (locs : List Loc) (ls : Array Slot), f_M_put_33  n x1 x3 x4 σ = some out → np_At D np_cl A (nc_wd q cA) s σ H locs → lv_has ls 5 [(0, .ref (q 29)), (1, .long (np_l x1)), (3, .int (np_i x3)), (4, .int (np_i x4))] → W p l e R s m args below meth c H locs 0 0 Q (F0 m 33 ls []) := by
  intro n
  induction n with
  | zero => intro x1 x3 x4 σ H locs ls hf; cases hf
  | succ n ih =>
    intro x1 x3 x4 σ H locs ls hf hat hl
    have h33 := ih
    have hf : f_M_put_33_b  (fun x1 x3 x4 σ => f_M_put_33  n x1 x3 x4 σ) x1 x3 x4 σ = some out := hf
    unfold f_M_put_33_b at hf
    refine lv_iload C.x C.b dd_M_put_33 (lv_at hl 3 rfl) ?_
    refine lv_iload_n C.x C.b dd_M_put_35 rfl (lv_at hl 2 rfl) ?_
    refine np_icmp_ge (tgt := 64) C dd_M_put_36 (by decide) hf (fun _ hf => ?_) (fun _ hf => ?_)
    · refine lv_aload_n C.x C.b dd_M_put_64 rfl (lv_at hl 0 rfl) ?_
      refine lv_dup C.x C.b dd_M_put_65 rfl ?_
      refine np_get (v := .int (np_i (σ 29 8))) C i_M hat.1 29 (nc_o29 _) rfl 8 (by decide) tw_931 rfl rfl dd_M_put_66 ?_
      refine lv_iload_n C.x C.b dd_M_put_69 rfl (lv_at hl 2 rfl) ?_
      refine np_iadd C dd_M_put_70 ?_
      refine np_put C i_M t_M tok_M n_M hat 29 (nc_o29 _) rfl 8 (by decide) tw_931 rfl rfl (by decide +kernel) (np_narI ((σ 29 8) + x3)) (np_fitI ((σ 29 8) + x3)) (Nat.le_of_ble_eq_true rfl) (nc_s29_8 _ _) dd_M_put_71 (fun H locs hat => ?_)
      refine lv_iconst (v := np_i 1) C.x C.b dd_M_put_74 rfl ?_
      exact hQ _ _ _ _ _ dd_M_put_75 hf hat
    · refine lv_aload_n C.x C.b dd_M_put_39 rfl (lv_at hl 0 rfl) ?_
      refine np_get (v := .ref (q 34)) C i_M hat.1 29 (nc_o29 _) rfl 7 (by decide) tw_930 rfl rfl dd_M_put_40 ?_
      refine lv_aload_n C.x C.b dd_M_put_43 rfl (lv_at hl 0 rfl) ?_
      refine np_get (v := .int (np_i (σ 29 8))) C i_M hat.1 29 (nc_o29 _) rfl 8 (by decide) tw_931 rfl rfl dd_M_put_44 ?_
      refine lv_iload C.x C.b dd_M_put_47 (lv_at hl 3 rfl) ?_
      refine np_iadd C dd_M_put_49 ?_
      refine lv_lload_n C.x C.b dd_M_put_50 rfl (lv_at hl 1 rfl) ?_
      refine lv_iload_n C.x C.b dd_M_put_51 rfl (lv_at hl 2 rfl) ?_
      refine lv_iload C.x C.b dd_M_put_52 (lv_at hl 3 rfl) ?_
      refine np_callSi (As := [.long (np_l x1), .int (np_i x3), .int (np_i x4)]) (rest := [.int (np_i ((σ 29 8) + x4)), .ref (q 34)]) C (c_M_byteOf l x1 x3 x4 _) np_allgood tw_1037 tw_1038 tw_8 tw_1039 (nA := 3) (by decide +kernel) rfl ⟨rfl, rfl, Nat.le_of_ble_eq_true rfl, Nat.le_of_ble_eq_true rfl⟩ hat rfl hl.1 (Nat.le_of_ble_eq_true rfl) dd_M_put_54 hf (fun o1 H locs hf hat => ?_)
      refine np_iastore C hat 34 (nc_a34 _) 0 rfl (by decide) (nc_s34 _ _ _) dd_M_put_57 hf (fun H locs hat hf => ?_)
      refine lv_iinc (v := np_i (x4 + 1)) (lv' := [(4, .int (np_i (x4 + 1))), (0, .ref (q 29)), (1, .long (np_l x1)), (3, .int (np_i x3))]) C.x C.b dd_M_put_58 hl (k := 3) rfl (np_inc _ _) (by decide) rfl (fun ls hl => ?_)
      refine lv_goto (tgt := 33) C.x C.b dd_M_put_61 (by decide) ?_
      exact h33 _ _ _ _ _ _ _ hf hat (lv_sub hl [1, 2, 3, 0] rfl)
set_option maxHeartbeats 4000000 in
set_option maxRecDepth 100000 in
theorem w_f_M_put (C : np_Cx gA p R s m args c D np_cl (np_ty cA) A np_al "NotationParseModel" prog_9_method_14_code 5 { frames := 1, cells := 0, slots := 0, locals := 23 }) (hQ : ∀ (pc : Nat) (ls : Array Slot) (H : Heap) (locs : List Loc) (v : Int) {σ : np_S}, decode prog_9_method_14_code pc = .ok (.ireturn, 1) → np_ck (v = 0 ∨ v = 1) (some (v, σ)) = some out → np_At D np_cl A (nc_wd q cA) s σ H locs → W p l e R s m args below meth c H locs 0 0 Q (F0 m pc ls [.int (np_i v)]))   : ∀ (x1 x3 : Int) (σ : np_S) (H : Heap) (locs : List Loc) (ls : Array Slot), f_M_put  x1 x3 σ = some out → np_At D np_cl A (nc_wd q cA) s σ H locs → lv_has ls 5 [(0, .ref (q 29)), (1, .long (np_l x1)), (3, .int (np_i x3))] → W p l e R s m args below meth c H locs 0 0 Q (F0 m 0 ls []) := by
  intro x1 x3 σ H locs ls hf hat hl
  unfold f_M_put at hf
  refine lv_aload_n C.x C.b dd_M_put_0 rfl (lv_at hl 0 rfl) ?_
  refine lv_iconst (v := np_i 0) C.x C.b dd_M_put_1 rfl ?_
  refine np_put C i_M t_M tok_M n_M hat 29 (nc_o29 _) rfl 0 (by decide) tw_923 rfl rfl (by decide +kernel) (np_narI 0) (np_fitI 0) (Nat.le_of_ble_eq_true rfl) (nc_s29_0 _ _) dd_M_put_2 (fun H locs hat => ?_)
  refine lv_iload_n C.x C.b dd_M_put_5 rfl (lv_at hl 2 rfl) ?_
  refine lv_iconst (v := np_i 1) C.x C.b dd_M_put_6 rfl ?_
  refine np_icmp_lt (tgt := 28) C dd_M_put_7 (by decide) hf (fun _ hf => ?_) (fun _ hf => ?_)
  · exact w_f_M_put_28 C hQ   _ _ _ _ hf hat (lv_sub hl [] rfl)
  · refine lv_iload_n C.x C.b dd_M_put_10 rfl (lv_at hl 2 rfl) ?_
    refine lv_bipush (v := np_i 8) C.x C.b dd_M_put_11 (by decide +kernel) ?_
    refine np_icmp_gt (tgt := 28) C dd_M_put_13 (by decide) hf (fun _ hf => ?_) (fun _ hf => ?_)
    · exact w_f_M_put_28 C hQ   _ _ _ _ hf hat (lv_sub hl [] rfl)
    · refine lv_aload_n C.x C.b dd_M_put_16 rfl (lv_at hl 0 rfl) ?_
      refine np_get (v := .int (np_i ((np_st σ 29 0 0) 29 8))) C i_M hat.1 29 (nc_o29 _) rfl 8 (by decide) tw_931 rfl rfl dd_M_put_17 ?_
      refine lv_iload_n C.x C.b dd_M_put_20 rfl (lv_at hl 2 rfl) ?_
      refine np_iadd C dd_M_put_21 ?_
      refine lv_sipush (v := np_i 200) C.x C.b dd_M_put_22 (by decide +kernel) ?_
      refine np_icmp_le (tgt := 30) C dd_M_put_25 (by decide) hf (fun _ hf => ?_) (fun _ hf => ?_)
      · refine lv_iconst (v := np_i 0) C.x C.b dd_M_put_30 rfl ?_
        refine lv_istore (lv' := [(4, .int (np_i 0)), (0, .ref (q 29)), (1, .long (np_l x1)), (3, .int (np_i x3))]) C.x C.b dd_M_put_31 hl (by decide) rfl (fun ls hl => ?_)
        exact w_f_M_put_33 C hQ  20000 _ _ _ _ _ _ _ hf hat (lv_sub hl [1, 2, 3, 0] rfl)
      · exact w_f_M_put_28 C hQ   _ _ _ _ hf hat (lv_sub hl [] rfl)
set_option maxHeartbeats 4000000 in
set_option maxRecDepth 100000 in
theorem c_M_put (l : Launch) {gA : Nat → Nat} {D : va_G} {q : Nat → Nat} {cA : Nat → ClassId} (x1 x3 : Int) (σ : np_S) : np_Mi gA l D np_cl (np_ty cA) (nc_wd q cA) yy_M_put (.code yy_M_put prog_9_method_14_code 5 (some .boolean) :: np_al) { frames := 1, cells := 0, slots := 0, locals := 23 } [.ref (q 29), .long (np_l x1), .int (np_i x3)] σ (f_M_put x1 x3 σ) :=
  np_mkz (by decide +kernel) (Nat.le_of_ble_eq_true rfl) (fun o p e R s m args below meth c Q A ls hf C hQ hat hl => w_f_M_put C hQ x1 x3 σ _ _ _ hf hat (lv_sub hl [0, 1, 2] rfl))
set_option maxHeartbeats 4000000 in
set_option maxRecDepth 100000 in
theorem w_f_M_clear (C : np_Cx gA p R s m args c D np_cl (np_ty cA) A np_al "NotationParseModel" prog_9_method_15_code 1 { frames := 0, cells := 0, slots := 0, locals := 0 }) (hQ : ∀ (pc : Nat) (ls : Array Slot) (H : Heap) (locs : List Loc) {σ : np_S}, decode prog_9_method_15_code pc = .ok (.return_, 1) → some ((0 : Int), σ) = some out → np_At D np_cl A (nc_wd q cA) s σ H locs → W p l e R s m args below meth c H locs 0 0 Q (F0 m pc ls []))   : ∀ (σ : np_S) (H : Heap) (locs : List Loc) (ls : Array Slot), f_M_clear  σ = some out → np_At D np_cl A (nc_wd q cA) s σ H locs → lv_has ls 1 [(0, .ref (q 29))] → W p l e R s m args below meth c H locs 0 0 Q (F0 m 0 ls []) := by
  intro σ H locs ls hf hat hl
  unfold f_M_clear at hf
  refine lv_aload_n C.x C.b dd_M_clear_0 rfl (lv_at hl 0 rfl) ?_
  refine lv_iconst (v := np_i 0) C.x C.b dd_M_clear_1 rfl ?_
  refine np_put C i_M t_M tok_M n_M hat 29 (nc_o29 _) rfl 0 (by decide) tw_923 rfl rfl (by decide +kernel) (np_narI 0) (np_fitI 0) (Nat.le_of_ble_eq_true rfl) (nc_s29_0 _ _) dd_M_clear_2 (fun H locs hat => ?_)
  refine lv_aload_n C.x C.b dd_M_clear_5 rfl (lv_at hl 0 rfl) ?_
  refine lv_iconst (v := np_i 0) C.x C.b dd_M_clear_6 rfl ?_
  refine np_put C i_M t_M tok_M n_M hat 29 (nc_o29 _) rfl 8 (by decide) tw_931 rfl rfl (by decide +kernel) (np_narI 0) (np_fitI 0) (Nat.le_of_ble_eq_true rfl) (nc_s29_8 _ _) dd_M_clear_7 (fun H locs hat => ?_)
  exact hQ _ _ _ _ dd_M_clear_10 hf hat
set_option maxHeartbeats 4000000 in
set_option maxRecDepth 100000 in
theorem c_M_clear (l : Launch) {gA : Nat → Nat} {D : va_G} {q : Nat → Nat} {cA : Nat → ClassId} (σ : np_S) : np_Mv gA l D np_cl (np_ty cA) (nc_wd q cA) yy_M_clear (.code yy_M_clear prog_9_method_15_code 1 none :: np_al) { frames := 0, cells := 0, slots := 0, locals := 0 } [.ref (q 29)] σ (f_M_clear  σ) :=
  np_mkv (by decide +kernel) (Nat.le_of_ble_eq_true rfl) (fun o p e R s m args below meth c Q A ls hf C hQ hat hl => w_f_M_clear C hQ  σ _ _ _ hf hat (lv_sub hl [0] rfl))
set_option maxHeartbeats 4000000 in
set_option maxRecDepth 100000 in
theorem w_f_M_takeWords_37 (C : np_Cx gA p R s m args c D np_cl (np_ty cA) A np_al "NotationParseModel" prog_9_method_16_code 7 { frames := 2, cells := 0, slots := 0, locals := 40 }) (hQ : ∀ (pc : Nat) (ls : Array Slot) (H : Heap) (locs : List Loc) (v : Int) {σ : np_S}, decode prog_9_method_16_code pc = .ok (.ireturn, 1) → some (v, σ) = some out → np_At D np_cl A (nc_wd q cA) s σ H locs → W p l e R s m args below meth c H locs 0 0 Q (F0 m pc ls [.int (np_i v)])) {k7 : (Int → np_S → Option np_O)} (h7 : ∀ (x1 : Int) (σ : np_S) (H : Heap) (locs : List Loc) (ls : Array Slot), k7 x1 σ = some out → np_At D np_cl A (nc_wd q cA) s σ H locs → lv_has ls 7 [(0, .ref (q 29)), (1, .int (np_i x1))] → W p l e R s m args below meth c H locs 0 0 Q (F0 m 7 ls [])) : ∀ (x1 : Int) (σ : np_S) (H : Heap) (locs : List Loc) (ls : Array Slot), f_M_takeWords_37 k7 x1 σ = some out → np_At D np_cl A (nc_wd q cA) s σ H locs → lv_has ls 7 [(0, .ref (q 29)), (1, .int (np_i x1))] → W p l e R s m args below meth c H locs 0 0 Q (F0 m 37 ls []) := by
  intro x1 σ H locs ls hf hat hl
  unfold f_M_takeWords_37 at hf
  refine lv_iinc (v := np_i (x1 + 1)) (lv' := [(1, .int (np_i (x1 + 1))), (0, .ref (q 29))]) C.x C.b dd_M_takeWords_37 hl (k := 1) rfl (np_inc _ _) (by decide) rfl (fun ls hl => ?_)
  refine lv_goto (tgt := 7) C.x C.b dd_M_takeWords_40 (by decide) ?_
  exact h7 _ _ _ _ _ hf hat (lv_sub hl [1, 0] rfl)
set_option maxHeartbeats 4000000 in
set_option maxRecDepth 100000 in
theorem w_f_M_takeWords_110 (C : np_Cx gA p R s m args c D np_cl (np_ty cA) A np_al "NotationParseModel" prog_9_method_16_code 7 { frames := 2, cells := 0, slots := 0, locals := 40 }) (hQ : ∀ (pc : Nat) (ls : Array Slot) (H : Heap) (locs : List Loc) (v : Int) {σ : np_S}, decode prog_9_method_16_code pc = .ok (.ireturn, 1) → some (v, σ) = some out → np_At D np_cl A (nc_wd q cA) s σ H locs → W p l e R s m args below meth c H locs 0 0 Q (F0 m pc ls [.int (np_i v)]))   : ∀ (x1 : Int) (σ : np_S) (H : Heap) (locs : List Loc) (ls : Array Slot), f_M_takeWords_110  x1 σ = some out → np_At D np_cl A (nc_wd q cA) s σ H locs → lv_has ls 7 [(1, .int (np_i x1))] → W p l e R s m args below meth c H locs 0 0 Q (F0 m 110 ls []) := by
  intro x1 σ H locs ls hf hat hl
  unfold f_M_takeWords_110 at hf
  refine lv_iload_n C.x C.b dd_M_takeWords_110 rfl (lv_at hl 0 rfl) ?_
  exact hQ _ _ _ _ _ dd_M_takeWords_111 hf hat
set_option maxHeartbeats 4000000 in
set_option maxRecDepth 100000 in
theorem w_f_M_takeWords_118 (C : np_Cx gA p R s m args c D np_cl (np_ty cA) A np_al "NotationParseModel" prog_9_method_16_code 7 { frames := 2, cells := 0, slots := 0, locals := 40 }) (hQ : ∀ (pc : Nat) (ls : Array Slot) (H : Heap) (locs : List Loc) (v : Int) {σ : np_S}, decode prog_9_method_16_code pc = .ok (.ireturn, 1) → some (v, σ) = some out → np_At D np_cl A (nc_wd q cA) s σ H locs → W p l e R s m args below meth c H locs 0 0 Q (F0 m pc ls [.int (np_i v)])) {k7 : (Int → np_S → Option np_O)} (h7 : ∀ (x1 : Int) (σ : np_S) (H : Heap) (locs : List Loc) (ls : Array Slot), k7 x1 σ = some out → np_At D np_cl A (nc_wd q cA) s σ H locs → lv_has ls 7 [(0, .ref (q 29)), (1, .int (np_i x1))] → W p l e R s m args below meth c H locs 0 0 Q (F0 m 7 ls [])) : ∀ (n : Nat), ∀ (x1 x3 x4 x6 : Int) (σ : np_S) (H : Heap) (locs : List Loc) (ls : Array Slot), f_M_takeWords_118 k7 n x1 x3 x4 x6 σ = some out → np_At D np_cl A (nc_wd q cA) s σ H locs → lv_has ls 7 [(0, .ref (q 29)), (1, .int (np_i x1)), (3, .int (np_i x3)), (4, .long (np_l x4)), (6, .int (np_i x6))] → W p l e R s m args below meth c H locs 0 0 Q (F0 m 118 ls []) := by
  intro n
  induction n with
  | zero => intro x1 x3 x4 x6 σ H locs ls hf; cases hf
  | succ n ih =>
    intro x1 x3 x4 x6 σ H locs ls hf hat hl
    have h118 := ih
    have hf : f_M_takeWords_118_b k7 (fun x1 x3 x4 x6 σ => f_M_takeWords_118 k7 n x1 x3 x4 x6 σ) x1 x3 x4 x6 σ = some out := hf
    unfold f_M_takeWords_118_b at hf
    refine lv_iload C.x C.b dd_M_takeWords_118 (lv_at hl 4 rfl) ?_
    refine lv_iload_n C.x C.b dd_M_takeWords_120 rfl (lv_at hl 2 rfl) ?_
    refine np_icmp_ge (tgt := 146) C dd_M_takeWords_121 (by decide) hf (fun _ hf => ?_) (fun _ hf => ?_)
    · refine lv_aload_n C.x C.b dd_M_takeWords_146 rfl (lv_at hl 0 rfl) ?_
      refine np_get (v := .ref (q 35)) C i_M hat.1 29 (nc_o29 _) rfl 12 (by decide) tw_935 rfl rfl dd_M_takeWords_147 ?_
      refine lv_aload_n C.x C.b dd_M_takeWords_150 rfl (lv_at hl 0 rfl) ?_
      refine np_get (v := .int (np_i (σ 29 11))) C i_M hat.1 29 (nc_o29 _) rfl 11 (by decide) tw_934 rfl rfl dd_M_takeWords_151 ?_
      refine lv_lload C.x C.b dd_M_takeWords_154 (lv_at hl 3 rfl) ?_
      refine np_lastore C hat 35 (nc_a35 _) 1 rfl (by decide) (nc_s35 _ _ _) dd_M_takeWords_156 hf (fun H locs hat hf => ?_)
      refine lv_aload_n C.x C.b dd_M_takeWords_157 rfl (lv_at hl 0 rfl) ?_
      refine np_get (v := .ref (q 36)) C i_M hat.1 29 (nc_o29 _) rfl 13 (by decide) tw_936 rfl rfl dd_M_takeWords_158 ?_
      refine lv_aload_n C.x C.b dd_M_takeWords_161 rfl (lv_at hl 0 rfl) ?_
      refine np_get (v := .int (np_i ((np_st σ 35 (σ 29 11) x4) 29 11))) C i_M hat.1 29 (nc_o29 _) rfl 11 (by decide) tw_934 rfl rfl dd_M_takeWords_162 ?_
      refine lv_iload_n C.x C.b dd_M_takeWords_165 rfl (lv_at hl 1 rfl) ?_
      refine np_iastore C hat 36 (nc_a36 _) 0 rfl (by decide) (nc_s36 _ _ _) dd_M_takeWords_166 hf (fun H locs hat hf => ?_)
      refine lv_aload_n C.x C.b dd_M_takeWords_167 rfl (lv_at hl 0 rfl) ?_
      refine lv_dup C.x C.b dd_M_takeWords_168 rfl ?_
      refine np_get (v := .int (np_i ((np_st (np_st σ 35 (σ 29 11) x4) 36 ((np_st σ 35 (σ 29 11) x4) 29 11) x1) 29 11))) C i_M hat.1 29 (nc_o29 _) rfl 11 (by decide) tw_934 rfl rfl dd_M_takeWords_169 ?_
      refine lv_iconst (v := np_i 1) C.x C.b dd_M_takeWords_172 rfl ?_
      refine np_iadd C dd_M_takeWords_173 ?_
      refine np_put C i_M t_M tok_M n_M hat 29 (nc_o29 _) rfl 11 (by decide) tw_934 rfl rfl (by decide +kernel) (np_narI (((np_st (np_st σ 35 (σ 29 11) x4) 36 ((np_st σ 35 (σ 29 11) x4) 29 11) x1) 29 11) + 1)) (np_fitI (((np_st (np_st σ 35 (σ 29 11) x4) 36 ((np_st σ 35 (σ 29 11) x4) 29 11) x1) 29 11) + 1)) (Nat.le_of_ble_eq_true rfl) (nc_s29_11 _ _) dd_M_takeWords_174 (fun H locs hat => ?_)
      refine lv_iload_n C.x C.b dd_M_takeWords_177 rfl (lv_at hl 2 rfl) ?_
      refine lv_istore_n (lv' := [(1, .int (np_i x3)), (0, .ref (q 29)), (3, .int (np_i x3)), (4, .long (np_l x4)), (6, .int (np_i x6))]) C.x C.b dd_M_takeWords_178 rfl hl (by decide) rfl (fun ls hl => ?_)
      refine lv_goto (tgt := 7) C.x C.b dd_M_takeWords_179 (by decide) ?_
      exact h7 _ _ _ _ _ hf hat (lv_sub hl [1, 0] rfl)
    · refine lv_lload C.x C.b dd_M_takeWords_124 (lv_at hl 3 rfl) ?_
      refine lv_bipush (v := np_i 8) C.x C.b dd_M_takeWords_126 (by decide +kernel) ?_
      refine np_lshl C dd_M_takeWords_128 ?_
      refine lv_aload_n C.x C.b dd_M_takeWords_129 rfl (lv_at hl 0 rfl) ?_
      refine np_get (v := .ref (q 34)) C i_M hat.1 29 (nc_o29 _) rfl 7 (by decide) tw_930 rfl rfl dd_M_takeWords_130 ?_
      refine lv_iload C.x C.b dd_M_takeWords_133 (lv_at hl 4 rfl) ?_
      refine np_iaload C hat.1 34 (nc_a34 _) 0 rfl (by decide) dd_M_takeWords_135 hf (fun hf => ?_)
      refine np_i2l C dd_M_takeWords_136 hf (fun hf => ?_)
      refine np_lor C dd_M_takeWords_137 ?_
      refine lv_lstore (lv' := [(4, .long (np_l (np_orl (np_shll x4 8) (σ 34 x6)))), (0, .ref (q 29)), (1, .int (np_i x1)), (3, .int (np_i x3)), (6, .int (np_i x6))]) C.x C.b dd_M_takeWords_138 hl (by decide) rfl (fun ls hl => ?_)
      refine lv_iinc (v := np_i (x6 + 1)) (lv' := [(6, .int (np_i (x6 + 1))), (4, .long (np_l (np_orl (np_shll x4 8) (σ 34 x6)))), (0, .ref (q 29)), (1, .int (np_i x1)), (3, .int (np_i x3))]) C.x C.b dd_M_takeWords_140 hl (k := 4) rfl (np_inc _ _) (by decide) rfl (fun ls hl => ?_)
      refine lv_goto (tgt := 118) C.x C.b dd_M_takeWords_143 (by decide) ?_
      exact h118 _ _ _ _ _ _ _ _ hf hat (lv_sub hl [2, 3, 4, 1, 0] rfl)
set_option maxHeartbeats 4000000 in
set_option maxRecDepth 100000 in
theorem w_f_M_takeWords_89 (C : np_Cx gA p R s m args c D np_cl (np_ty cA) A np_al "NotationParseModel" prog_9_method_16_code 7 { frames := 2, cells := 0, slots := 0, locals := 40 }) (hQ : ∀ (pc : Nat) (ls : Array Slot) (H : Heap) (locs : List Loc) (v : Int) {σ : np_S}, decode prog_9_method_16_code pc = .ok (.ireturn, 1) → some (v, σ) = some out → np_At D np_cl A (nc_wd q cA) s σ H locs → W p l e R s m args below meth c H locs 0 0 Q (F0 m pc ls [.int (np_i v)])) {k7 : (Int → np_S → Option np_O)} (h7 : ∀ (x1 : Int) (σ : np_S) (H : Heap) (locs : List Loc) (ls : Array Slot), k7 x1 σ = some out → np_At D np_cl A (nc_wd q cA) s σ H locs → lv_has ls 7 [(0, .ref (q 29)), (1, .int (np_i x1))] → W p l e R s m args below meth c H locs 0 0 Q (F0 m 7 ls [])) : ∀ (x1 x2 x3 : Int) (σ : np_S) (H : Heap) (locs : List Loc) (ls : Array Slot), f_M_takeWords_89 k7 x1 x2 x3 σ = some out → np_At D np_cl A (nc_wd q cA) s σ H locs → lv_has ls 7 [(0, .ref (q 29)), (1, .int (np_i x1)), (2, .int (np_i x2)), (3, .int (np_i x3))] → W p l e R s m args below meth c H locs 0 0 Q (F0 m 89 ls []) := by
  intro x1 x2 x3 σ H locs ls hf hat hl
  unfold f_M_takeWords_89 at hf
  refine lv_iload_n C.x C.b dd_M_takeWords_89 rfl (lv_at hl 2 rfl) ?_
  refine np_if_eq (tgt := 110) C dd_M_takeWords_90 (by decide) hf (fun _ hf => ?_) (fun _ hf => ?_)
  · exact w_f_M_takeWords_110 C hQ  _ _ _ _ _ hf hat (lv_sub hl [1] rfl)
  · refine lv_iload_n C.x C.b dd_M_takeWords_93 rfl (lv_at hl 3 rfl) ?_
    refine lv_iload_n C.x C.b dd_M_takeWords_94 rfl (lv_at hl 1 rfl) ?_
    refine np_isub C dd_M_takeWords_95 ?_
    refine lv_bipush (v := np_i 8) C.x C.b dd_M_takeWords_96 (by decide +kernel) ?_
    refine np_icmp_gt (tgt := 110) C dd_M_takeWords_98 (by decide) hf (fun _ hf => ?_) (fun _ hf => ?_)
    · exact w_f_M_takeWords_110 C hQ  _ _ _ _ _ hf hat (lv_sub hl [1] rfl)
    · refine lv_aload_n C.x C.b dd_M_takeWords_101 rfl (lv_at hl 0 rfl) ?_
      refine np_get (v := .int (np_i (σ 29 11))) C i_M hat.1 29 (nc_o29 _) rfl 11 (by decide) tw_934 rfl rfl dd_M_takeWords_102 ?_
      refine lv_bipush (v := np_i 30) C.x C.b dd_M_takeWords_105 (by decide +kernel) ?_
      refine np_icmp_ne (tgt := 112) C dd_M_takeWords_107 (by decide) hf (fun _ hf => ?_) (fun _ hf => ?_)
      · refine lv_lconst (v := np_l 0) C.x C.b dd_M_takeWords_112 (by decide +kernel) ?_
        refine lv_lstore (lv' := [(4, .long (np_l 0)), (0, .ref (q 29)), (1, .int (np_i x1)), (2, .int (np_i x2)), (3, .int (np_i x3))]) C.x C.b dd_M_takeWords_113 hl (by decide) rfl (fun ls hl => ?_)
        refine lv_iload_n C.x C.b dd_M_takeWords_115 rfl (lv_at hl 2 rfl) ?_
        refine lv_istore (lv' := [(6, .int (np_i x1)), (4, .long (np_l 0)), (0, .ref (q 29)), (1, .int (np_i x1)), (2, .int (np_i x2)), (3, .int (np_i x3))]) C.x C.b dd_M_takeWords_116 hl (by decide) rfl (fun ls hl => ?_)
        exact w_f_M_takeWords_118 C hQ h7 20000 _ _ _ _ _ _ _ _ hf hat (lv_sub hl [2, 3, 5, 1, 0] rfl)
      · exact w_f_M_takeWords_110 C hQ  _ _ _ _ _ hf hat (lv_sub hl [1] rfl)
set_option maxHeartbeats 4000000 in
set_option maxRecDepth 100000 in
theorem w_f_M_takeWords_57 (C : np_Cx gA p R s m args c D np_cl (np_ty cA) A np_al "NotationParseModel" prog_9_method_16_code 7 { frames := 2, cells := 0, slots := 0, locals := 40 }) (hQ : ∀ (pc : Nat) (ls : Array Slot) (H : Heap) (locs : List Loc) (v : Int) {σ : np_S}, decode prog_9_method_16_code pc = .ok (.ireturn, 1) → some (v, σ) = some out → np_At D np_cl A (nc_wd q cA) s σ H locs → W p l e R s m args below meth c H locs 0 0 Q (F0 m pc ls [.int (np_i v)])) {k7 : (Int → np_S → Option np_O)} (h7 : ∀ (x1 : Int) (σ : np_S) (H : Heap) (locs : List Loc) (ls : Array Slot), k7 x1 σ = some out → np_At D np_cl A (nc_wd q cA) s σ H locs → lv_has ls 7 [(0, .ref (q 29)), (1, .int (np_i x1))] → W p l e R s m args below meth c H locs 0 0 Q (F0 m 7 ls [])) : ∀ (n : Nat), ∀ (x1 x2 x3 : Int) (σ : np_S) (H : Heap) (locs : List Loc) (ls : Array Slot), f_M_takeWords_57 k7 n x1 x2 x3 σ = some out → np_At D np_cl A (nc_wd q cA) s σ H locs → lv_has ls 7 [(0, .ref (q 29)), (1, .int (np_i x1)), (2, .int (np_i x2)), (3, .int (np_i x3))] → W p l e R s m args below meth c H locs 0 0 Q (F0 m 57 ls []) := by
  intro n
  induction n with
  | zero => intro x1 x2 x3 σ H locs ls hf; cases hf
  | succ n ih =>
    intro x1 x2 x3 σ H locs ls hf hat hl
    have h57 := ih
    have hf : f_M_takeWords_57_b k7 (fun x1 x2 x3 σ => f_M_takeWords_57 k7 n x1 x2 x3 σ) x1 x2 x3 σ = some out := hf
    unfold f_M_takeWords_57_b at hf
    refine lv_iload_n C.x C.b dd_M_takeWords_57 rfl (lv_at hl 2 rfl) ?_
    refine lv_iconst (v := np_i 4) C.x C.b dd_M_takeWords_58 rfl ?_
    refine np_icmp_ge (tgt := 89) C dd_M_takeWords_59 (by decide) hf (fun _ hf => ?_) (fun _ hf => ?_)
    · exact w_f_M_takeWords_89 C hQ h7 _ _ _ _ _ _ _ hf hat (lv_sub hl [0, 1, 2, 3] rfl)
    · refine lv_iload_n C.x C.b dd_M_takeWords_62 rfl (lv_at hl 3 rfl) ?_
      refine lv_aload_n C.x C.b dd_M_takeWords_63 rfl (lv_at hl 0 rfl) ?_
      refine np_get (v := .int (np_i (σ 29 8))) C i_M hat.1 29 (nc_o29 _) rfl 8 (by decide) tw_931 rfl rfl dd_M_takeWords_64 ?_
      refine np_icmp_ge (tgt := 89) C dd_M_takeWords_67 (by decide) hf (fun _ hf => ?_) (fun _ hf => ?_)
      · exact w_f_M_takeWords_89 C hQ h7 _ _ _ _ _ _ _ hf hat (lv_sub hl [0, 1, 2, 3] rfl)
      · refine lv_aload_n C.x C.b dd_M_takeWords_70 rfl (lv_at hl 0 rfl) ?_
        refine np_get (v := .ref (q 34)) C i_M hat.1 29 (nc_o29 _) rfl 7 (by decide) tw_930 rfl rfl dd_M_takeWords_71 ?_
        refine lv_iload_n C.x C.b dd_M_takeWords_74 rfl (lv_at hl 3 rfl) ?_
        refine np_iaload C hat.1 34 (nc_a34 _) 0 rfl (by decide) dd_M_takeWords_75 hf (fun hf => ?_)
        refine np_callSi (As := [.int (np_i (σ 34 x3))]) (rest := []) C (c_M_sort l (σ 34 x3) _) np_allgood tw_1041 tw_1042 tw_8 tw_1043 (nA := 1) (by decide +kernel) rfl ⟨rfl, rfl, Nat.le_of_ble_eq_true rfl, Nat.le_of_ble_eq_true rfl⟩ hat rfl hl.1 (Nat.le_of_ble_eq_true rfl) dd_M_takeWords_76 hf (fun o1 H locs hf hat => ?_)
        refine lv_iload_n C.x C.b dd_M_takeWords_79 rfl (lv_at hl 2 rfl) ?_
        refine np_icmp_ne (tgt := 89) C dd_M_takeWords_80 (by decide) hf (fun _ hf => ?_) (fun _ hf => ?_)
        · exact w_f_M_takeWords_89 C hQ h7 _ _ _ _ _ _ _ hf hat (lv_sub hl [0, 1, 2, 3] rfl)
        · refine lv_iinc (v := np_i (x3 + 1)) (lv' := [(3, .int (np_i (x3 + 1))), (0, .ref (q 29)), (1, .int (np_i x1)), (2, .int (np_i x2))]) C.x C.b dd_M_takeWords_83 hl (k := 3) rfl (np_inc _ _) (by decide) rfl (fun ls hl => ?_)
          refine lv_goto (tgt := 57) C.x C.b dd_M_takeWords_86 (by decide) ?_
          exact h57 _ _ _ _ _ _ _ hf hat (lv_sub hl [1, 2, 3, 0] rfl)
set_option maxHeartbeats 4000000 in
set_option maxRecDepth 100000 in
theorem w_f_M_takeWords_7 (C : np_Cx gA p R s m args c D np_cl (np_ty cA) A np_al "NotationParseModel" prog_9_method_16_code 7 { frames := 2, cells := 0, slots := 0, locals := 40 }) (hQ : ∀ (pc : Nat) (ls : Array Slot) (H : Heap) (locs : List Loc) (v : Int) {σ : np_S}, decode prog_9_method_16_code pc = .ok (.ireturn, 1) → some (v, σ) = some out → np_At D np_cl A (nc_wd q cA) s σ H locs → W p l e R s m args below meth c H locs 0 0 Q (F0 m pc ls [.int (np_i v)]))   : ∀ (n : Nat), ∀ (x1 : Int) (σ : np_S) (H : Heap) (locs : List Loc) (ls : Array Slot), f_M_takeWords_7  n x1 σ = some out → np_At D np_cl A (nc_wd q cA) s σ H locs → lv_has ls 7 [(0, .ref (q 29)), (1, .int (np_i x1))] → W p l e R s m args below meth c H locs 0 0 Q (F0 m 7 ls []) := by
  intro n
  induction n with
  | zero => intro x1 σ H locs ls hf; cases hf
  | succ n ih =>
    intro x1 σ H locs ls hf hat hl
    have h7 := ih
    have hf : f_M_takeWords_7_b  (fun x1 σ => f_M_takeWords_7  n x1 σ) x1 σ = some out := hf
    unfold f_M_takeWords_7_b at hf
    refine lv_iload_n C.x C.b dd_M_takeWords_7 rfl (lv_at hl 1 rfl) ?_
    refine lv_aload_n C.x C.b dd_M_takeWords_8 rfl (lv_at hl 0 rfl) ?_
    refine np_get (v := .int (np_i (σ 29 8))) C i_M hat.1 29 (nc_o29 _) rfl 8 (by decide) tw_931 rfl rfl dd_M_takeWords_9 ?_
    refine np_icmp_ge (tgt := 182) C dd_M_takeWords_12 (by decide) hf (fun _ hf => ?_) (fun _ hf => ?_)
    · refine lv_iconst (v := np_i (-1)) C.x C.b dd_M_takeWords_182 rfl ?_
      exact hQ _ _ _ _ _ dd_M_takeWords_183 hf hat
    · refine lv_aload_n C.x C.b dd_M_takeWords_15 rfl (lv_at hl 0 rfl) ?_
      refine np_get (v := .ref (q 34)) C i_M hat.1 29 (nc_o29 _) rfl 7 (by decide) tw_930 rfl rfl dd_M_takeWords_16 ?_
      refine lv_iload_n C.x C.b dd_M_takeWords_19 rfl (lv_at hl 1 rfl) ?_
      refine np_iaload C hat.1 34 (nc_a34 _) 0 rfl (by decide) dd_M_takeWords_20 hf (fun hf => ?_)
      refine lv_bipush (v := np_i 32) C.x C.b dd_M_takeWords_21 (by decide +kernel) ?_
      refine np_icmp_eq (tgt := 37) C dd_M_takeWords_23 (by decide) hf (fun _ hf => ?_) (fun _ hf => ?_)
      · exact w_f_M_takeWords_37 C hQ h7 _ _ _ _ _ hf hat (lv_sub hl [0, 1] rfl)
      · refine lv_aload_n C.x C.b dd_M_takeWords_26 rfl (lv_at hl 0 rfl) ?_
        refine np_get (v := .ref (q 34)) C i_M hat.1 29 (nc_o29 _) rfl 7 (by decide) tw_930 rfl rfl dd_M_takeWords_27 ?_
        refine lv_iload_n C.x C.b dd_M_takeWords_30 rfl (lv_at hl 1 rfl) ?_
        refine np_iaload C hat.1 34 (nc_a34 _) 0 rfl (by decide) dd_M_takeWords_31 hf (fun hf => ?_)
        refine lv_bipush (v := np_i 10) C.x C.b dd_M_takeWords_32 (by decide +kernel) ?_
        refine np_icmp_ne (tgt := 43) C dd_M_takeWords_34 (by decide) hf (fun _ hf => ?_) (fun _ hf => ?_)
        · refine lv_aload_n C.x C.b dd_M_takeWords_43 rfl (lv_at hl 0 rfl) ?_
          refine np_get (v := .ref (q 34)) C i_M hat.1 29 (nc_o29 _) rfl 7 (by decide) tw_930 rfl rfl dd_M_takeWords_44 ?_
          refine lv_iload_n C.x C.b dd_M_takeWords_47 rfl (lv_at hl 1 rfl) ?_
          refine np_iaload C hat.1 34 (nc_a34 _) 0 rfl (by decide) dd_M_takeWords_48 hf (fun hf => ?_)
          refine np_callSi (As := [.int (np_i (σ 34 x1))]) (rest := []) C (c_M_sort l (σ 34 x1) _) np_allgood tw_1041 tw_1042 tw_8 tw_1043 (nA := 1) (by decide +kernel) rfl ⟨rfl, rfl, Nat.le_of_ble_eq_true rfl, Nat.le_of_ble_eq_true rfl⟩ hat rfl hl.1 (Nat.le_of_ble_eq_true rfl) dd_M_takeWords_49 hf (fun o2 H locs hf hat => ?_)
          refine lv_istore_n (lv' := [(2, .int (np_i o2.1)), (0, .ref (q 29)), (1, .int (np_i x1))]) C.x C.b dd_M_takeWords_52 rfl hl (by decide) rfl (fun ls hl => ?_)
          refine lv_iload_n C.x C.b dd_M_takeWords_53 rfl (lv_at hl 2 rfl) ?_
          refine lv_iconst (v := np_i 1) C.x C.b dd_M_takeWords_54 rfl ?_
          refine np_iadd C dd_M_takeWords_55 ?_
          refine lv_istore_n (lv' := [(3, .int (np_i (x1 + 1))), (2, .int (np_i o2.1)), (0, .ref (q 29)), (1, .int (np_i x1))]) C.x C.b dd_M_takeWords_56 rfl hl (by decide) rfl (fun ls hl => ?_)
          exact w_f_M_takeWords_57 C hQ h7 20000 _ _ _ _ _ _ _ hf hat (lv_sub hl [2, 3, 1, 0] rfl)
        · exact w_f_M_takeWords_37 C hQ h7 _ _ _ _ _ hf hat (lv_sub hl [0, 1] rfl)
set_option maxHeartbeats 4000000 in
set_option maxRecDepth 100000 in
theorem w_f_M_takeWords (C : np_Cx gA p R s m args c D np_cl (np_ty cA) A np_al "NotationParseModel" prog_9_method_16_code 7 { frames := 2, cells := 0, slots := 0, locals := 40 }) (hQ : ∀ (pc : Nat) (ls : Array Slot) (H : Heap) (locs : List Loc) (v : Int) {σ : np_S}, decode prog_9_method_16_code pc = .ok (.ireturn, 1) → some (v, σ) = some out → np_At D np_cl A (nc_wd q cA) s σ H locs → W p l e R s m args below meth c H locs 0 0 Q (F0 m pc ls [.int (np_i v)]))   : ∀ (σ : np_S) (H : Heap) (locs : List Loc) (ls : Array Slot), f_M_takeWords  σ = some out → np_At D np_cl A (nc_wd q cA) s σ H locs → lv_has ls 7 [(0, .ref (q 29))] → W p l e R s m args below meth c H locs 0 0 Q (F0 m 0 ls []) := by
  intro σ H locs ls hf hat hl
  unfold f_M_takeWords at hf
  refine lv_aload_n C.x C.b dd_M_takeWords_0 rfl (lv_at hl 0 rfl) ?_
  refine lv_iconst (v := np_i 0) C.x C.b dd_M_takeWords_1 rfl ?_
  refine np_put C i_M t_M tok_M n_M hat 29 (nc_o29 _) rfl 11 (by decide) tw_934 rfl rfl (by decide +kernel) (np_narI 0) (np_fitI 0) (Nat.le_of_ble_eq_true rfl) (nc_s29_11 _ _) dd_M_takeWords_2 (fun H locs hat => ?_)
  refine lv_iconst (v := np_i 0) C.x C.b dd_M_takeWords_5 rfl ?_
  refine lv_istore_n (lv' := [(1, .int (np_i 0)), (0, .ref (q 29))]) C.x C.b dd_M_takeWords_6 rfl hl (by decide) rfl (fun ls hl => ?_)
  exact w_f_M_takeWords_7 C hQ  20000 _ _ _ _ _ hf hat (lv_sub hl [1, 0] rfl)
set_option maxHeartbeats 4000000 in
set_option maxRecDepth 100000 in
theorem c_M_takeWords (l : Launch) {gA : Nat → Nat} {D : va_G} {q : Nat → Nat} {cA : Nat → ClassId} (σ : np_S) : np_Mi gA l D np_cl (np_ty cA) (nc_wd q cA) yy_M_takeWords (.code yy_M_takeWords prog_9_method_16_code 7 (some .int) :: np_al) { frames := 2, cells := 0, slots := 0, locals := 40 } [.ref (q 29)] σ (f_M_takeWords  σ) :=
  np_mki (by decide +kernel) (Nat.le_of_ble_eq_true rfl) (fun o p e R s m args below meth c Q A ls hf C hQ hat hl => w_f_M_takeWords C hQ  σ _ _ _ hf hat (lv_sub hl [0] rfl))
set_option maxHeartbeats 4000000 in
set_option maxRecDepth 100000 in
theorem w_f_M_isAtom_42 (C : np_Cx gA p R s m args c D np_cl (np_ty cA) A np_al "NotationParseModel" prog_9_method_17_code 3 { frames := 2, cells := 0, slots := 0, locals := 40 }) (hQ : ∀ (pc : Nat) (ls : Array Slot) (H : Heap) (locs : List Loc) (v : Int) {σ : np_S}, decode prog_9_method_17_code pc = .ok (.ireturn, 1) → np_ck (v = 0 ∨ v = 1) (some (v, σ)) = some out → np_At D np_cl A (nc_wd q cA) s σ H locs → W p l e R s m args below meth c H locs 0 0 Q (F0 m pc ls [.int (np_i v)]))   : ∀ (t0 : Int) (σ : np_S) (H : Heap) (locs : List Loc) (ls : Array Slot), f_M_isAtom_42  t0 σ = some out → np_At D np_cl A (nc_wd q cA) s σ H locs → lv_has ls 3 [] → W p l e R s m args below meth c H locs 0 0 Q (F0 m 42 ls [.int (np_i t0)]) := by
  intro t0 σ H locs ls hf hat hl
  unfold f_M_isAtom_42 at hf
  exact hQ _ _ _ _ _ dd_M_isAtom_42 hf hat
set_option maxHeartbeats 4000000 in
set_option maxRecDepth 100000 in
theorem w_f_M_isAtom_41 (C : np_Cx gA p R s m args c D np_cl (np_ty cA) A np_al "NotationParseModel" prog_9_method_17_code 3 { frames := 2, cells := 0, slots := 0, locals := 40 }) (hQ : ∀ (pc : Nat) (ls : Array Slot) (H : Heap) (locs : List Loc) (v : Int) {σ : np_S}, decode prog_9_method_17_code pc = .ok (.ireturn, 1) → np_ck (v = 0 ∨ v = 1) (some (v, σ)) = some out → np_At D np_cl A (nc_wd q cA) s σ H locs → W p l e R s m args below meth c H locs 0 0 Q (F0 m pc ls [.int (np_i v)]))   : ∀ (σ : np_S) (H : Heap) (locs : List Loc) (ls : Array Slot), f_M_isAtom_41  σ = some out → np_At D np_cl A (nc_wd q cA) s σ H locs → lv_has ls 3 [] → W p l e R s m args below meth c H locs 0 0 Q (F0 m 41 ls []) := by
  intro σ H locs ls hf hat hl
  unfold f_M_isAtom_41 at hf
  refine lv_iconst (v := np_i 0) C.x C.b dd_M_isAtom_41 rfl ?_
  exact w_f_M_isAtom_42 C hQ  _ _ _ _ _ hf hat (lv_sub hl [] rfl)
set_option maxHeartbeats 4000000 in
set_option maxRecDepth 100000 in
theorem w_f_M_isAtom (C : np_Cx gA p R s m args c D np_cl (np_ty cA) A np_al "NotationParseModel" prog_9_method_17_code 3 { frames := 2, cells := 0, slots := 0, locals := 40 }) (hQ : ∀ (pc : Nat) (ls : Array Slot) (H : Heap) (locs : List Loc) (v : Int) {σ : np_S}, decode prog_9_method_17_code pc = .ok (.ireturn, 1) → np_ck (v = 0 ∨ v = 1) (some (v, σ)) = some out → np_At D np_cl A (nc_wd q cA) s σ H locs → W p l e R s m args below meth c H locs 0 0 Q (F0 m pc ls [.int (np_i v)]))   : ∀ (x1 : Int) (σ : np_S) (H : Heap) (locs : List Loc) (ls : Array Slot), f_M_isAtom  x1 σ = some out → np_At D np_cl A (nc_wd q cA) s σ H locs → lv_has ls 3 [(0, .ref (q 29)), (1, .int (np_i x1))] → W p l e R s m args below meth c H locs 0 0 Q (F0 m 0 ls []) := by
  intro x1 σ H locs ls hf hat hl
  unfold f_M_isAtom at hf
  refine lv_aload_n C.x C.b dd_M_isAtom_0 rfl (lv_at hl 0 rfl) ?_
  refine np_get (v := .ref (q 35)) C i_M hat.1 29 (nc_o29 _) rfl 12 (by decide) tw_935 rfl rfl dd_M_isAtom_1 ?_
  refine lv_iload_n C.x C.b dd_M_isAtom_4 rfl (lv_at hl 1 rfl) ?_
  refine np_laload C hat.1 35 (nc_a35 _) 1 rfl (by decide) dd_M_isAtom_5 hf (fun hf => ?_)
  refine np_ldc2 (v := 255) C tw_1040 dd_M_isAtom_6 ?_
  refine np_land C dd_M_isAtom_9 ?_
  refine np_l2i C dd_M_isAtom_10 ?_
  refine np_callSi (As := [.int (np_i (np_andl (σ 35 x1) 255))]) (rest := []) C (c_M_sort l (np_andl (σ 35 x1) 255) _) np_allgood tw_1041 tw_1042 tw_8 tw_1043 (nA := 1) (by decide +kernel) rfl ⟨rfl, rfl, Nat.le_of_ble_eq_true rfl, Nat.le_of_ble_eq_true rfl⟩ hat rfl hl.1 (Nat.le_of_ble_eq_true rfl) dd_M_isAtom_11 hf (fun o1 H locs hf hat => ?_)
  refine lv_istore_n (lv' := [(2, .int (np_i o1.1)), (0, .ref (q 29)), (1, .int (np_i x1))]) C.x C.b dd_M_isAtom_14 rfl hl (by decide) rfl (fun ls hl => ?_)
  refine lv_iload_n C.x C.b dd_M_isAtom_15 rfl (lv_at hl 0 rfl) ?_
  refine np_if_le (tgt := 41) C dd_M_isAtom_16 (by decide) hf (fun _ hf => ?_) (fun _ hf => ?_)
  · exact w_f_M_isAtom_41 C hQ   _ _ _ _ hf hat (lv_sub hl [] rfl)
  · refine lv_iload_n C.x C.b dd_M_isAtom_19 rfl (lv_at hl 0 rfl) ?_
    refine lv_iconst (v := np_i 3) C.x C.b dd_M_isAtom_20 rfl ?_
    refine np_icmp_ge (tgt := 41) C dd_M_isAtom_21 (by decide) hf (fun _ hf => ?_) (fun _ hf => ?_)
    · exact w_f_M_isAtom_41 C hQ   _ _ _ _ hf hat (lv_sub hl [] rfl)
    · refine lv_aload_n C.x C.b dd_M_isAtom_24 rfl (lv_at hl 1 rfl) ?_
      refine lv_aload_n C.x C.b dd_M_isAtom_25 rfl (lv_at hl 1 rfl) ?_
      refine np_get (v := .ref (q 35)) C i_M hat.1 29 (nc_o29 _) rfl 12 (by decide) tw_935 rfl rfl dd_M_isAtom_26 ?_
      refine lv_iload_n C.x C.b dd_M_isAtom_29 rfl (lv_at hl 2 rfl) ?_
      refine np_laload C hat.1 35 (nc_a35 _) 1 rfl (by decide) dd_M_isAtom_30 hf (fun hf => ?_)
      refine np_callVi (As := [.long (np_l (o1.2 35 x1))]) (rest := []) C (c_M_isKeyWord l (o1.2 35 x1) _) np_allgood tw_1099 tw_1101 tp_34 tw_8 tw_1102 (nA := 1) (by decide +kernel) rfl ⟨rfl, rfl, Nat.le_of_ble_eq_true rfl, Nat.le_of_ble_eq_true rfl⟩ (va_recv C.k hat.1 (ci := 6) (q0 := 29) rfl (nc_o29 _)) hat rfl hl.1 (Nat.le_of_ble_eq_true rfl) dd_M_isAtom_31 hf (fun o2 H locs hf hat => ?_)
      refine np_if_ne (tgt := 41) C dd_M_isAtom_34 (by decide) hf (fun _ hf => ?_) (fun _ hf => ?_)
      · exact w_f_M_isAtom_41 C hQ   _ _ _ _ hf hat (lv_sub hl [] rfl)
      · refine lv_iconst (v := np_i 1) C.x C.b dd_M_isAtom_37 rfl ?_
        refine lv_goto (tgt := 42) C.x C.b dd_M_isAtom_38 (by decide) ?_
        exact w_f_M_isAtom_42 C hQ  _ _ _ _ _ hf hat (lv_sub hl [] rfl)
set_option maxHeartbeats 4000000 in
set_option maxRecDepth 100000 in
theorem c_M_isAtom (l : Launch) {gA : Nat → Nat} {D : va_G} {q : Nat → Nat} {cA : Nat → ClassId} (x1 : Int) (σ : np_S) : np_Mi gA l D np_cl (np_ty cA) (nc_wd q cA) yy_M_isAtom (.code yy_M_isAtom prog_9_method_17_code 3 (some .boolean) :: np_al) { frames := 2, cells := 0, slots := 0, locals := 40 } [.ref (q 29), .int (np_i x1)] σ (f_M_isAtom x1 σ) :=
  np_mkz (by decide +kernel) (Nat.le_of_ble_eq_true rfl) (fun o p e R s m args below meth c Q A ls hf C hQ hat hl => w_f_M_isAtom C hQ x1 σ _ _ _ hf hat (lv_sub hl [0, 1] rfl))
set_option maxHeartbeats 4000000 in
set_option maxRecDepth 100000 in
theorem w_f_M_is_25 (C : np_Cx gA p R s m args c D np_cl (np_ty cA) A np_al "NotationParseModel" prog_9_method_18_code 3 { frames := 0, cells := 0, slots := 0, locals := 0 }) (hQ : ∀ (pc : Nat) (ls : Array Slot) (H : Heap) (locs : List Loc) (v : Int) {σ : np_S}, decode prog_9_method_18_code pc = .ok (.ireturn, 1) → np_ck (v = 0 ∨ v = 1) (some (v, σ)) = some out → np_At D np_cl A (nc_wd q cA) s σ H locs → W p l e R s m args below meth c H locs 0 0 Q (F0 m pc ls [.int (np_i v)]))   : ∀ (t0 : Int) (σ : np_S) (H : Heap) (locs : List Loc) (ls : Array Slot), f_M_is_25  t0 σ = some out → np_At D np_cl A (nc_wd q cA) s σ H locs → lv_has ls 3 [] → W p l e R s m args below meth c H locs 0 0 Q (F0 m 25 ls [.int (np_i t0)]) := by
  intro t0 σ H locs ls hf hat hl
  unfold f_M_is_25 at hf
  exact hQ _ _ _ _ _ dd_M_is_25 hf hat
set_option maxHeartbeats 4000000 in
set_option maxRecDepth 100000 in
theorem w_f_M_is_24 (C : np_Cx gA p R s m args c D np_cl (np_ty cA) A np_al "NotationParseModel" prog_9_method_18_code 3 { frames := 0, cells := 0, slots := 0, locals := 0 }) (hQ : ∀ (pc : Nat) (ls : Array Slot) (H : Heap) (locs : List Loc) (v : Int) {σ : np_S}, decode prog_9_method_18_code pc = .ok (.ireturn, 1) → np_ck (v = 0 ∨ v = 1) (some (v, σ)) = some out → np_At D np_cl A (nc_wd q cA) s σ H locs → W p l e R s m args below meth c H locs 0 0 Q (F0 m pc ls [.int (np_i v)]))   : ∀ (σ : np_S) (H : Heap) (locs : List Loc) (ls : Array Slot), f_M_is_24  σ = some out → np_At D np_cl A (nc_wd q cA) s σ H locs → lv_has ls 3 [] → W p l e R s m args below meth c H locs 0 0 Q (F0 m 24 ls []) := by
  intro σ H locs ls hf hat hl
  unfold f_M_is_24 at hf
  refine lv_iconst (v := np_i 0) C.x C.b dd_M_is_24 rfl ?_
  exact w_f_M_is_25 C hQ  _ _ _ _ _ hf hat (lv_sub hl [] rfl)
set_option maxHeartbeats 4000000 in
set_option maxRecDepth 100000 in
theorem w_f_M_is (C : np_Cx gA p R s m args c D np_cl (np_ty cA) A np_al "NotationParseModel" prog_9_method_18_code 3 { frames := 0, cells := 0, slots := 0, locals := 0 }) (hQ : ∀ (pc : Nat) (ls : Array Slot) (H : Heap) (locs : List Loc) (v : Int) {σ : np_S}, decode prog_9_method_18_code pc = .ok (.ireturn, 1) → np_ck (v = 0 ∨ v = 1) (some (v, σ)) = some out → np_At D np_cl A (nc_wd q cA) s σ H locs → W p l e R s m args below meth c H locs 0 0 Q (F0 m pc ls [.int (np_i v)]))   : ∀ (x1 x2 : Int) (σ : np_S) (H : Heap) (locs : List Loc) (ls : Array Slot), f_M_is  x1 x2 σ = some out → np_At D np_cl A (nc_wd q cA) s σ H locs → lv_has ls 3 [(0, .ref (q 29)), (1, .int (np_i x1)), (2, .int (np_i x2))] → W p l e R s m args below meth c H locs 0 0 Q (F0 m 0 ls []) := by
  intro x1 x2 σ H locs ls hf hat hl
  unfold f_M_is at hf
  refine lv_iload_n C.x C.b dd_M_is_0 rfl (lv_at hl 1 rfl) ?_
  refine lv_aload_n C.x C.b dd_M_is_1 rfl (lv_at hl 0 rfl) ?_
  refine np_get (v := .int (np_i (σ 29 11))) C i_M hat.1 29 (nc_o29 _) rfl 11 (by decide) tw_934 rfl rfl dd_M_is_2 ?_
  refine np_icmp_ge (tgt := 24) C dd_M_is_5 (by decide) hf (fun _ hf => ?_) (fun _ hf => ?_)
  · exact w_f_M_is_24 C hQ   _ _ _ _ hf hat (lv_sub hl [] rfl)
  · refine lv_aload_n C.x C.b dd_M_is_8 rfl (lv_at hl 0 rfl) ?_
    refine np_get (v := .ref (q 35)) C i_M hat.1 29 (nc_o29 _) rfl 12 (by decide) tw_935 rfl rfl dd_M_is_9 ?_
    refine lv_iload_n C.x C.b dd_M_is_12 rfl (lv_at hl 1 rfl) ?_
    refine np_laload C hat.1 35 (nc_a35 _) 1 rfl (by decide) dd_M_is_13 hf (fun hf => ?_)
    refine lv_iload_n C.x C.b dd_M_is_14 rfl (lv_at hl 2 rfl) ?_
    refine np_i2l C dd_M_is_15 hf (fun hf => ?_)
    refine np_lcmp C dd_M_is_16 hf (fun hf => ?_)
    refine np_if_ne (tgt := 24) C dd_M_is_17 (by decide) hf (fun _ hf => ?_) (fun _ hf => ?_)
    · exact w_f_M_is_24 C hQ   _ _ _ _ hf hat (lv_sub hl [] rfl)
    · refine lv_iconst (v := np_i 1) C.x C.b dd_M_is_20 rfl ?_
      refine lv_goto (tgt := 25) C.x C.b dd_M_is_21 (by decide) ?_
      exact w_f_M_is_25 C hQ  _ _ _ _ _ hf hat (lv_sub hl [] rfl)
set_option maxHeartbeats 4000000 in
set_option maxRecDepth 100000 in
theorem c_M_is (l : Launch) {gA : Nat → Nat} {D : va_G} {q : Nat → Nat} {cA : Nat → ClassId} (x1 x2 : Int) (σ : np_S) : np_Mi gA l D np_cl (np_ty cA) (nc_wd q cA) yy_M_is (.code yy_M_is prog_9_method_18_code 3 (some .boolean) :: np_al) { frames := 0, cells := 0, slots := 0, locals := 0 } [.ref (q 29), .int (np_i x1), .int (np_i x2)] σ (f_M_is x1 x2 σ) :=
  np_mkz (by decide +kernel) (Nat.le_of_ble_eq_true rfl) (fun o p e R s m args below meth c Q A ls hf C hQ hat hl => w_f_M_is C hQ x1 x2 σ _ _ _ hf hat (lv_sub hl [0, 1, 2] rfl))
end NW6
