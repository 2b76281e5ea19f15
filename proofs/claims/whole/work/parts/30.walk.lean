section NW10
variable {p : Program} {l : Launch} {e : Env} {R : Room} {s : State} {m : MethodId} {args : Array Value} {below : List Frame} {meth : Method} {c : Code} {Q : State → Prop} {D : va_G} {A : Nat → Prop} {q : Nat → Nat} {cA : Nat → ClassId} {out : np_O} {gA : Nat → Nat}
set_option maxHeartbeats 4000000 in
set_option maxRecDepth 100000 in
theorem w_f_M_putWord_74 (C : np_Cx gA p R s m args c D np_cl (np_ty cA) A np_al "NotationParseModel" prog_9_method_38_code 5 { frames := 0, cells := 0, slots := 0, locals := 0 }) (hQ : ∀ (pc : Nat) (ls : Array Slot) (H : Heap) (locs : List Loc) {σ : np_S}, decode prog_9_method_38_code pc = .ok (.return_, 1) → some ((0 : Int), σ) = some out → np_At D np_cl A (nc_wd q cA) s σ H locs → W p l e R s m args below meth c H locs 0 0 Q (F0 m pc ls [])) {k31 : (Int → Int → np_S → Option np_O)} (h31 : ∀ (x1 x3 : Int) (σ : np_S) (H : Heap) (locs : List Loc) (ls : Array Slot), k31 x1 x3 σ = some out → np_At D np_cl A (nc_wd q cA) s σ H locs → lv_has ls 5 [(0, .ref (q 29)), (1, .long (np_l x1)), (3, .int (np_i x3))] → W p l e R s m args below meth c H locs 0 0 Q (F0 m 31 ls [])) : ∀ (x1 x3 : Int) (σ : np_S) (H : Heap) (locs : List Loc) (ls : Array Slot), f_M_putWord_74 k31 x1 x3 σ = some out → np_At D np_cl A (nc_wd q cA) s σ H locs → lv_has ls 5 [(0, .ref (q 29)), (1, .long (np_l x1)), (3, .int (np_i x3))] → W p l e R s m args below meth c H locs 0 0 Q (F0 m 74 ls []) := by
  intro x1 x3 σ H locs ls hf hat hl
  unfold f_M_putWord_74 at hf
  refine lv_iinc (v := np_i (x3 + (-8))) (lv' := [(3, .int (np_i (x3 + (-8)))), (0, .ref (q 29)), (1, .long (np_l x1))]) C.x C.b dd_M_putWord_74 hl (k := 2) rfl (np_inc _ _) (by decide) rfl (fun ls hl => ?_)
  refine lv_goto (tgt := 31) C.x C.b dd_M_putWord_77 (by decide) ?_
  exact h31 _ _ _ _ _ _ hf hat (lv_sub hl [1, 2, 0] rfl)
set_option maxHeartbeats 4000000 in
set_option maxRecDepth 100000 in
theorem w_f_M_putWord_31 (C : np_Cx gA p R s m args c D np_cl (np_ty cA) A np_al "NotationParseModel" prog_9_method_38_code 5 { frames := 0, cells := 0, slots := 0, locals := 0 }) (hQ : ∀ (pc : Nat) (ls : Array Slot) (H : Heap) (locs : List Loc) {σ : np_S}, decode prog_9_method_38_code pc = .ok (.return_, 1) → some ((0 : Int), σ) = some out → np_At D np_cl A (nc_wd q cA) s σ H locs → W p l e R s m args below meth c H locs 0 0 Q (F0 m pc ls []))   : ∀ (n : Nat), ∀ (x1 x3 : Int) (σ : np_S) (H : Heap) (locs : List Loc) (ls : Array Slot), f_M_putWord_31  n x1 x3 σ = some out → np_At D np_cl A (nc_wd q cA) s σ H locs → lv_has ls 5 [(0, .ref (q 29)), (1, .long (np_l x1)), (3, .int (np_i x3))] → W p l e R s m args below meth c H locs 0 0 Q (F0 m 31 ls []) := by
  intro n
  induction n with
  | zero => intro x1 x3 σ H locs ls hf; cases hf
  | succ n ih =>
    intro x1 x3 σ H locs ls hf hat hl
    have h31 := ih
    have hf : f_M_putWord_31_b  (fun x1 x3 σ => f_M_putWord_31  n x1 x3 σ) x1 x3 σ = some out := hf
    unfold f_M_putWord_31_b at hf
    refine lv_iload_n C.x C.b dd_M_putWord_31 rfl (lv_at hl 2 rfl) ?_
    refine np_if_lt (tgt := 80) C dd_M_putWord_32 (by decide) hf (fun _ hf => ?_) (fun _ hf => ?_)
    · exact hQ _ _ _ _ dd_M_putWord_80 hf hat
    · refine lv_lload_n C.x C.b dd_M_putWord_35 rfl (lv_at hl 1 rfl) ?_
      refine lv_iload_n C.x C.b dd_M_putWord_36 rfl (lv_at hl 2 rfl) ?_
      refine np_lshr C dd_M_putWord_37 ?_
      refine np_ldc2 (v := 255) C tw_1040 dd_M_putWord_38 ?_
      refine np_land C dd_M_putWord_41 ?_
      refine np_l2i C dd_M_putWord_42 ?_
      refine lv_istore (lv' := [(4, .int (np_i (np_andl (np_shrl x1 x3) 255))), (0, .ref (q 29)), (1, .long (np_l x1)), (3, .int (np_i x3))]) C.x C.b dd_M_putWord_43 hl (by decide) rfl (fun ls hl => ?_)
      refine lv_iload C.x C.b dd_M_putWord_45 (lv_at hl 0 rfl) ?_
      refine np_if_ne (tgt := 53) C dd_M_putWord_47 (by decide) hf (fun _ hf => ?_) (fun _ hf => ?_)
      · refine lv_aload_n C.x C.b dd_M_putWord_53 rfl (lv_at hl 1 rfl) ?_
        refine np_get (v := .ref (q 49)) C i_M hat.1 29 (nc_o29 _) rfl 29 (by decide) tw_952 rfl rfl dd_M_putWord_54 ?_
        refine lv_aload_n C.x C.b dd_M_putWord_57 rfl (lv_at hl 1 rfl) ?_
        refine np_get (v := .int (np_i (σ 29 28))) C i_M hat.1 29 (nc_o29 _) rfl 28 (by decide) tw_951 rfl rfl dd_M_putWord_58 ?_
        refine lv_iload C.x C.b dd_M_putWord_61 (lv_at hl 0 rfl) ?_
        refine np_iastore C hat 49 (nc_a49 _) 0 rfl (by decide) (nc_s49 _ _ _) dd_M_putWord_63 hf (fun H locs hat hf => ?_)
        refine lv_aload_n C.x C.b dd_M_putWord_64 rfl (lv_at hl 1 rfl) ?_
        refine lv_dup C.x C.b dd_M_putWord_65 rfl ?_
        refine np_get (v := .int (np_i ((np_st σ 49 (σ 29 28) (np_andl (np_shrl x1 x3) 255)) 29 28))) C i_M hat.1 29 (nc_o29 _) rfl 28 (by decide) tw_951 rfl rfl dd_M_putWord_66 ?_
        refine lv_iconst (v := np_i 1) C.x C.b dd_M_putWord_69 rfl ?_
        refine np_iadd C dd_M_putWord_70 ?_
        refine np_put C i_M t_M tok_M n_M hat 29 (nc_o29 _) rfl 28 (by decide) tw_951 rfl rfl (by decide +kernel) (np_narI (((np_st σ 49 (σ 29 28) (np_andl (np_shrl x1 x3) 255)) 29 28) + 1)) (np_fitI (((np_st σ 49 (σ 29 28) (np_andl (np_shrl x1 x3) 255)) 29 28) + 1)) (Nat.le_of_ble_eq_true rfl) (nc_s29_28 _ _) dd_M_putWord_71 (fun H locs hat => ?_)
        exact w_f_M_putWord_74 C hQ h31 _ _ _ _ _ _ hf hat (lv_sub hl [1, 2, 3] rfl)
      · refine lv_goto (tgt := 74) C.x C.b dd_M_putWord_50 (by decide) ?_
        exact w_f_M_putWord_74 C hQ h31 _ _ _ _ _ _ hf hat (lv_sub hl [1, 2, 3] rfl)
set_option maxHeartbeats 4000000 in
set_option maxRecDepth 100000 in
theorem w_f_M_putWord_28 (C : np_Cx gA p R s m args c D np_cl (np_ty cA) A np_al "NotationParseModel" prog_9_method_38_code 5 { frames := 0, cells := 0, slots := 0, locals := 0 }) (hQ : ∀ (pc : Nat) (ls : Array Slot) (H : Heap) (locs : List Loc) {σ : np_S}, decode prog_9_method_38_code pc = .ok (.return_, 1) → some ((0 : Int), σ) = some out → np_At D np_cl A (nc_wd q cA) s σ H locs → W p l e R s m args below meth c H locs 0 0 Q (F0 m pc ls []))   : ∀ (x1 : Int) (σ : np_S) (H : Heap) (locs : List Loc) (ls : Array Slot), f_M_putWord_28  x1 σ = some out → np_At D np_cl A (nc_wd q cA) s σ H locs → lv_has ls 5 [(0, .ref (q 29)), (1, .long (np_l x1))] → W p l e R s m args below meth c H locs 0 0 Q (F0 m 28 ls []) := by
  intro x1 σ H locs ls hf hat hl
  unfold f_M_putWord_28 at hf
  refine lv_bipush (v := np_i 56) C.x C.b dd_M_putWord_28 (by decide +kernel) ?_
  refine lv_istore_n (lv' := [(3, .int (np_i 56)), (0, .ref (q 29)), (1, .long (np_l x1))]) C.x C.b dd_M_putWord_30 rfl hl (by decide) rfl (fun ls hl => ?_)
  exact w_f_M_putWord_31 C hQ  20000 _ _ _ _ _ _ hf hat (lv_sub hl [1, 2, 0] rfl)
set_option maxHeartbeats 4000000 in
set_option maxRecDepth 100000 in
theorem w_f_M_putWord (C : np_Cx gA p R s m args c D np_cl (np_ty cA) A np_al "NotationParseModel" prog_9_method_38_code 5 { frames := 0, cells := 0, slots := 0, locals := 0 }) (hQ : ∀ (pc : Nat) (ls : Array Slot) (H : Heap) (locs : List Loc) {σ : np_S}, decode prog_9_method_38_code pc = .ok (.return_, 1) → some ((0 : Int), σ) = some out → np_At D np_cl A (nc_wd q cA) s σ H locs → W p l e R s m args below meth c H locs 0 0 Q (F0 m pc ls []))   : ∀ (x1 : Int) (σ : np_S) (H : Heap) (locs : List Loc) (ls : Array Slot), f_M_putWord  x1 σ = some out → np_At D np_cl A (nc_wd q cA) s σ H locs → lv_has ls 5 [(0, .ref (q 29)), (1, .long (np_l x1))] → W p l e R s m args below meth c H locs 0 0 Q (F0 m 0 ls []) := by
  intro x1 σ H locs ls hf hat hl
  unfold f_M_putWord at hf
  refine lv_aload_n C.x C.b dd_M_putWord_0 rfl (lv_at hl 0 rfl) ?_
  refine np_get (v := .int (np_i (σ 29 28))) C i_M hat.1 29 (nc_o29 _) rfl 28 (by decide) tw_951 rfl rfl dd_M_putWord_1 ?_
  refine np_if_le (tgt := 28) C dd_M_putWord_4 (by decide) hf (fun _ hf => ?_) (fun _ hf => ?_)
  · exact w_f_M_putWord_28 C hQ  _ _ _ _ _ hf hat (lv_sub hl [0, 1] rfl)
  · refine lv_aload_n C.x C.b dd_M_putWord_7 rfl (lv_at hl 0 rfl) ?_
    refine np_get (v := .ref (q 49)) C i_M hat.1 29 (nc_o29 _) rfl 29 (by decide) tw_952 rfl rfl dd_M_putWord_8 ?_
    refine lv_aload_n C.x C.b dd_M_putWord_11 rfl (lv_at hl 0 rfl) ?_
    refine np_get (v := .int (np_i (σ 29 28))) C i_M hat.1 29 (nc_o29 _) rfl 28 (by decide) tw_951 rfl rfl dd_M_putWord_12 ?_
    refine lv_bipush (v := np_i 32) C.x C.b dd_M_putWord_15 (by decide +kernel) ?_
    refine np_iastore C hat 49 (nc_a49 _) 0 rfl (by decide) (nc_s49 _ _ _) dd_M_putWord_17 hf (fun H locs hat hf => ?_)
    refine lv_aload_n C.x C.b dd_M_putWord_18 rfl (lv_at hl 0 rfl) ?_
    refine lv_dup C.x C.b dd_M_putWord_19 rfl ?_
    refine np_get (v := .int (np_i ((np_st σ 49 (σ 29 28) 32) 29 28))) C i_M hat.1 29 (nc_o29 _) rfl 28 (by decide) tw_951 rfl rfl dd_M_putWord_20 ?_
    refine lv_iconst (v := np_i 1) C.x C.b dd_M_putWord_23 rfl ?_
    refine np_iadd C dd_M_putWord_24 ?_
    refine np_put C i_M t_M tok_M n_M hat 29 (nc_o29 _) rfl 28 (by decide) tw_951 rfl rfl (by decide +kernel) (np_narI (((np_st σ 49 (σ 29 28) 32) 29 28) + 1)) (np_fitI (((np_st σ 49 (σ 29 28) 32) 29 28) + 1)) (Nat.le_of_ble_eq_true rfl) (nc_s29_28 _ _) dd_M_putWord_25 (fun H locs hat => ?_)
    exact w_f_M_putWord_28 C hQ  _ _ _ _ _ hf hat (lv_sub hl [0, 1] rfl)
set_option maxHeartbeats 4000000 in
set_option maxRecDepth 100000 in
theorem c_M_putWord (l : Launch) {gA : Nat → Nat} {D : va_G} {q : Nat → Nat} {cA : Nat → ClassId} (x1 : Int) (σ : np_S) : np_Mv gA l D np_cl (np_ty cA) (nc_wd q cA) yy_M_putWord (.code yy_M_putWord prog_9_method_38_code 5 none :: np_al) { frames := 0, cells := 0, slots := 0, locals := 0 } [.ref (q 29), .long (np_l x1)] σ (f_M_putWord x1 σ) :=
  np_mkv (by decide +kernel) (Nat.le_of_ble_eq_true rfl) (fun o p e R s m args below meth c Q A ls hf C hQ hat hl => w_f_M_putWord C hQ x1 σ _ _ _ hf hat (lv_sub hl [0, 1] rfl))
set_option maxHeartbeats 4000000 in
set_option maxRecDepth 100000 in
theorem w_f_M_puts (C : np_Cx gA p R s m args c D np_cl (np_ty cA) A np_al "NotationParseModel" prog_9_method_40_code 2 { frames := 0, cells := 0, slots := 0, locals := 0 }) (hQ : ∀ (pc : Nat) (ls : Array Slot) (H : Heap) (locs : List Loc) {σ : np_S}, decode prog_9_method_40_code pc = .ok (.return_, 1) → some ((0 : Int), σ) = some out → np_At D np_cl A (nc_wd q cA) s σ H locs → W p l e R s m args below meth c H locs 0 0 Q (F0 m pc ls []))   : ∀ (x1 : Int) (σ : np_S) (H : Heap) (locs : List Loc) (ls : Array Slot), f_M_puts  x1 σ = some out → np_At D np_cl A (nc_wd q cA) s σ H locs → lv_has ls 2 [(0, .ref (q 29)), (1, .int (np_i x1))] → W p l e R s m args below meth c H locs 0 0 Q (F0 m 0 ls []) := by
  intro x1 σ H locs ls hf hat hl
  unfold f_M_puts at hf
  refine lv_aload_n C.x C.b dd_M_puts_0 rfl (lv_at hl 0 rfl) ?_
  refine np_get (v := .ref (q 50)) C i_M hat.1 29 (nc_o29 _) rfl 30 (by decide) tw_953 rfl rfl dd_M_puts_1 ?_
  refine lv_aload_n C.x C.b dd_M_puts_4 rfl (lv_at hl 0 rfl) ?_
  refine np_get (v := .int (np_i (σ 29 27))) C i_M hat.1 29 (nc_o29 _) rfl 27 (by decide) tw_950 rfl rfl dd_M_puts_5 ?_
  refine lv_iload_n C.x C.b dd_M_puts_8 rfl (lv_at hl 1 rfl) ?_
  refine np_iastore C hat 50 (nc_a50 _) 0 rfl (by decide) (nc_s50 _ _ _) dd_M_puts_9 hf (fun H locs hat hf => ?_)
  refine lv_aload_n C.x C.b dd_M_puts_10 rfl (lv_at hl 0 rfl) ?_
  refine lv_dup C.x C.b dd_M_puts_11 rfl ?_
  refine np_get (v := .int (np_i ((np_st σ 50 (σ 29 27) x1) 29 27))) C i_M hat.1 29 (nc_o29 _) rfl 27 (by decide) tw_950 rfl rfl dd_M_puts_12 ?_
  refine lv_iconst (v := np_i 1) C.x C.b dd_M_puts_15 rfl ?_
  refine np_iadd C dd_M_puts_16 ?_
  refine np_put C i_M t_M tok_M n_M hat 29 (nc_o29 _) rfl 27 (by decide) tw_950 rfl rfl (by decide +kernel) (np_narI (((np_st σ 50 (σ 29 27) x1) 29 27) + 1)) (np_fitI (((np_st σ 50 (σ 29 27) x1) 29 27) + 1)) (Nat.le_of_ble_eq_true rfl) (nc_s29_27 _ _) dd_M_puts_17 (fun H locs hat => ?_)
  exact hQ _ _ _ _ dd_M_puts_20 hf hat
set_option maxHeartbeats 4000000 in
set_option maxRecDepth 100000 in
theorem c_M_puts (l : Launch) {gA : Nat → Nat} {D : va_G} {q : Nat → Nat} {cA : Nat → ClassId} (x1 : Int) (σ : np_S) : np_Mv gA l D np_cl (np_ty cA) (nc_wd q cA) yy_M_puts (.code yy_M_puts prog_9_method_40_code 2 none :: np_al) { frames := 0, cells := 0, slots := 0, locals := 0 } [.ref (q 29), .int (np_i x1)] σ (f_M_puts x1 σ) :=
  np_mkv (by decide +kernel) (Nat.le_of_ble_eq_true rfl) (fun o p e R s m args below meth c Q A ls hf C hQ hat hl => w_f_M_puts C hQ x1 σ _ _ _ hf hat (lv_sub hl [0, 1] rfl))
set_option maxHeartbeats 4000000 in
set_option maxRecDepth 100000 in
theorem w_f_M_takeApart_232 (C : np_Cx gA p R s m args c D np_cl (np_ty cA) A np_al "NotationParseModel" prog_9_method_39_code 8 { frames := 1, cells := 0, slots := 0, locals := 23 }) (hQ : ∀ (pc : Nat) (ls : Array Slot) (H : Heap) (locs : List Loc) {σ : np_S}, decode prog_9_method_39_code pc = .ok (.return_, 1) → some ((0 : Int), σ) = some out → np_At D np_cl A (nc_wd q cA) s σ H locs → W p l e R s m args below meth c H locs 0 0 Q (F0 m pc ls []))   : ∀ (n : Nat), ∀ (x4 x5 : Int) (σ : np_S) (H : Heap) (locs : List Loc) (ls : Array Slot), f_M_takeApart_232  n x4 x5 σ = some out → np_At D np_cl A (nc_wd q cA) s σ H locs → lv_has ls 8 [(0, .ref (q 29)), (4, .int (np_i x4)), (5, .int (np_i x5))] → W p l e R s m args below meth c H locs 0 0 Q (F0 m 232 ls []) := by
  intro n
  induction n with
  | zero => intro x4 x5 σ H locs ls hf; cases hf
  | succ n ih =>
    intro x4 x5 σ H locs ls hf hat hl
    have h232 := ih
    have hf : f_M_takeApart_232_b  (fun x4 x5 σ => f_M_takeApart_232  n x4 x5 σ) x4 x5 σ = some out := hf
    unfold f_M_takeApart_232_b at hf
    refine lv_iload C.x C.b dd_M_takeApart_232 (lv_at hl 1 rfl) ?_
    refine lv_iload C.x C.b dd_M_takeApart_234 (lv_at hl 2 rfl) ?_
    refine np_icmp_ge (tgt := 280) C dd_M_takeApart_236 (by decide) hf (fun _ hf => ?_) (fun _ hf => ?_)
    · exact hQ _ _ _ _ dd_M_takeApart_280 hf hat
    · refine lv_aload_n C.x C.b dd_M_takeApart_239 rfl (lv_at hl 0 rfl) ?_
      refine np_get (v := .ref (q 50)) C i_M hat.1 29 (nc_o29 _) rfl 30 (by decide) tw_953 rfl rfl dd_M_takeApart_240 ?_
      refine lv_iload C.x C.b dd_M_takeApart_243 (lv_at hl 1 rfl) ?_
      refine np_iaload C hat.1 50 (nc_a50 _) 0 rfl (by decide) dd_M_takeApart_245 hf (fun hf => ?_)
      refine lv_istore (lv' := [(6, .int (np_i (σ 50 x4))), (0, .ref (q 29)), (4, .int (np_i x4)), (5, .int (np_i x5))]) C.x C.b dd_M_takeApart_246 hl (by decide) rfl (fun ls hl => ?_)
      refine lv_aload_n C.x C.b dd_M_takeApart_248 rfl (lv_at hl 1 rfl) ?_
      refine np_get (v := .ref (q 50)) C i_M hat.1 29 (nc_o29 _) rfl 30 (by decide) tw_953 rfl rfl dd_M_takeApart_249 ?_
      refine lv_iload C.x C.b dd_M_takeApart_252 (lv_at hl 2 rfl) ?_
      refine lv_aload_n C.x C.b dd_M_takeApart_254 rfl (lv_at hl 1 rfl) ?_
      refine np_get (v := .ref (q 50)) C i_M hat.1 29 (nc_o29 _) rfl 30 (by decide) tw_953 rfl rfl dd_M_takeApart_255 ?_
      refine lv_iload C.x C.b dd_M_takeApart_258 (lv_at hl 3 rfl) ?_
      refine np_iaload C hat.1 50 (nc_a50 _) 0 rfl (by decide) dd_M_takeApart_260 hf (fun hf => ?_)
      refine np_iastore C hat 50 (nc_a50 _) 0 rfl (by decide) (nc_s50 _ _ _) dd_M_takeApart_261 hf (fun H locs hat hf => ?_)
      refine lv_aload_n C.x C.b dd_M_takeApart_262 rfl (lv_at hl 1 rfl) ?_
      refine np_get (v := .ref (q 50)) C i_M hat.1 29 (nc_o29 _) rfl 30 (by decide) tw_953 rfl rfl dd_M_takeApart_263 ?_
      refine lv_iload C.x C.b dd_M_takeApart_266 (lv_at hl 3 rfl) ?_
      refine lv_iload C.x C.b dd_M_takeApart_268 (lv_at hl 0 rfl) ?_
      refine np_iastore C hat 50 (nc_a50 _) 0 rfl (by decide) (nc_s50 _ _ _) dd_M_takeApart_270 hf (fun H locs hat hf => ?_)
      refine lv_iinc (v := np_i (x4 + 1)) (lv' := [(4, .int (np_i (x4 + 1))), (6, .int (np_i (σ 50 x4))), (0, .ref (q 29)), (5, .int (np_i x5))]) C.x C.b dd_M_takeApart_271 hl (k := 2) rfl (np_inc _ _) (by decide) rfl (fun ls hl => ?_)
      refine lv_iinc (v := np_i (x5 + (-1))) (lv' := [(5, .int (np_i (x5 + (-1)))), (4, .int (np_i (x4 + 1))), (6, .int (np_i (σ 50 x4))), (0, .ref (q 29))]) C.x C.b dd_M_takeApart_274 hl (k := 3) rfl (np_inc _ _) (by decide) rfl (fun ls hl => ?_)
      refine lv_goto (tgt := 232) C.x C.b dd_M_takeApart_277 (by decide) ?_
      exact h232 _ _ _ _ _ _ hf hat (lv_sub hl [3, 1, 0] rfl)
set_option maxHeartbeats 4000000 in
set_option maxRecDepth 100000 in
theorem w_f_M_takeApart_215 (C : np_Cx gA p R s m args c D np_cl (np_ty cA) A np_al "NotationParseModel" prog_9_method_39_code 8 { frames := 1, cells := 0, slots := 0, locals := 23 }) (hQ : ∀ (pc : Nat) (ls : Array Slot) (H : Heap) (locs : List Loc) {σ : np_S}, decode prog_9_method_39_code pc = .ok (.return_, 1) → some ((0 : Int), σ) = some out → np_At D np_cl A (nc_wd q cA) s σ H locs → W p l e R s m args below meth c H locs 0 0 Q (F0 m pc ls [])) {k59 : (Int → Int → Int → Int → np_S → Option np_O)} (h59 : ∀ (x1 x2 x3 x4 : Int) (σ : np_S) (H : Heap) (locs : List Loc) (ls : Array Slot), k59 x1 x2 x3 x4 σ = some out → np_At D np_cl A (nc_wd q cA) s σ H locs → lv_has ls 8 [(0, .ref (q 29)), (1, .int (np_i x1)), (2, .int (np_i x2)), (3, .int (np_i x3)), (4, .int (np_i x4))] → W p l e R s m args below meth c H locs 0 0 Q (F0 m 59 ls [])) : ∀ (x1 x2 x3 x4 : Int) (σ : np_S) (H : Heap) (locs : List Loc) (ls : Array Slot), f_M_takeApart_215 k59 x1 x2 x3 x4 σ = some out → np_At D np_cl A (nc_wd q cA) s σ H locs → lv_has ls 8 [(0, .ref (q 29)), (1, .int (np_i x1)), (2, .int (np_i x2)), (3, .int (np_i x3)), (4, .int (np_i x4))] → W p l e R s m args below meth c H locs 0 0 Q (F0 m 215 ls []) := by
  intro x1 x2 x3 x4 σ H locs ls hf hat hl
  unfold f_M_takeApart_215 at hf
  refine lv_iinc (v := np_i (x4 + 1)) (lv' := [(4, .int (np_i (x4 + 1))), (0, .ref (q 29)), (1, .int (np_i x1)), (2, .int (np_i x2)), (3, .int (np_i x3))]) C.x C.b dd_M_takeApart_215 hl (k := 4) rfl (np_inc _ _) (by decide) rfl (fun ls hl => ?_)
  refine lv_goto (tgt := 59) C.x C.b dd_M_takeApart_218 (by decide) ?_
  exact h59 _ _ _ _ _ _ _ _ hf hat (lv_sub hl [1, 2, 3, 4, 0] rfl)
set_option maxHeartbeats 4000000 in
set_option maxRecDepth 100000 in
theorem w_f_M_takeApart_197 (C : np_Cx gA p R s m args c D np_cl (np_ty cA) A np_al "NotationParseModel" prog_9_method_39_code 8 { frames := 1, cells := 0, slots := 0, locals := 23 }) (hQ : ∀ (pc : Nat) (ls : Array Slot) (H : Heap) (locs : List Loc) {σ : np_S}, decode prog_9_method_39_code pc = .ok (.return_, 1) → some ((0 : Int), σ) = some out → np_At D np_cl A (nc_wd q cA) s σ H locs → W p l e R s m args below meth c H locs 0 0 Q (F0 m pc ls [])) {k59 : (Int → Int → Int → Int → np_S → Option np_O)} (h59 : ∀ (x1 x2 x3 x4 : Int) (σ : np_S) (H : Heap) (locs : List Loc) (ls : Array Slot), k59 x1 x2 x3 x4 σ = some out → np_At D np_cl A (nc_wd q cA) s σ H locs → lv_has ls 8 [(0, .ref (q 29)), (1, .int (np_i x1)), (2, .int (np_i x2)), (3, .int (np_i x3)), (4, .int (np_i x4))] → W p l e R s m args below meth c H locs 0 0 Q (F0 m 59 ls [])) : ∀ (x1 x2 x3 x4 x6 x7 : Int) (σ : np_S) (H : Heap) (locs : List Loc) (ls : Array Slot), f_M_takeApart_197 k59 x1 x2 x3 x4 x6 x7 σ = some out → np_At D np_cl A (nc_wd q cA) s σ H locs → lv_has ls 8 [(0, .ref (q 29)), (1, .int (np_i x1)), (2, .int (np_i x2)), (3, .int (np_i x3)), (4, .int (np_i x4)), (6, .int (np_i x6)), (7, .int (np_i x7))] → W p l e R s m args below meth c H locs 0 0 Q (F0 m 197 ls []) := by
  intro x1 x2 x3 x4 x6 x7 σ H locs ls hf hat hl
  unfold f_M_takeApart_197 at hf
  refine lv_aload_n C.x C.b dd_M_takeApart_197 rfl (lv_at hl 0 rfl) ?_
  refine lv_iload C.x C.b dd_M_takeApart_198 (lv_at hl 5 rfl) ?_
  refine np_callVv (As := [.int (np_i x6)]) (rest := []) C (c_M_puts l x6 _) np_allgood tw_1159 tw_1161 tp_46 tw_8 tw_1162 (nA := 1) (by decide +kernel) rfl ⟨rfl, rfl, Nat.le_of_ble_eq_true rfl, Nat.le_of_ble_eq_true rfl⟩ (va_recv C.k hat.1 (ci := 6) (q0 := 29) rfl (nc_o29 _)) hat rfl hl.1 (Nat.le_of_ble_eq_true rfl) dd_M_takeApart_200 hf (fun o1 H locs hf hat => ?_)
  refine lv_iload C.x C.b dd_M_takeApart_203 (lv_at hl 6 rfl) ?_
  refine np_if_eq (tgt := 215) C dd_M_takeApart_205 (by decide) hf (fun _ hf => ?_) (fun _ hf => ?_)
  · exact w_f_M_takeApart_215 C hQ h59 _ _ _ _ _ _ _ _ hf hat (lv_sub hl [0, 1, 2, 3, 4] rfl)
  · refine lv_aload_n C.x C.b dd_M_takeApart_208 rfl (lv_at hl 0 rfl) ?_
    refine lv_sipush (v := np_i 1001) C.x C.b dd_M_takeApart_209 (by decide +kernel) ?_
    refine np_callVv (As := [.int (np_i 1001)]) (rest := []) C (c_M_puts l 1001 _) np_allgood tw_1159 tw_1161 tp_46 tw_8 tw_1162 (nA := 1) (by decide +kernel) rfl ⟨rfl, rfl, Nat.le_of_ble_eq_true rfl, Nat.le_of_ble_eq_true rfl⟩ (va_recv C.k hat.1 (ci := 6) (q0 := 29) rfl (nc_o29 _)) hat rfl hl.1 (Nat.le_of_ble_eq_true rfl) dd_M_takeApart_212 hf (fun o2 H locs hf hat => ?_)
    exact w_f_M_takeApart_215 C hQ h59 _ _ _ _ _ _ _ _ hf hat (lv_sub hl [0, 1, 2, 3, 4] rfl)
set_option maxHeartbeats 4000000 in
set_option maxRecDepth 100000 in
theorem w_f_M_takeApart_183 (C : np_Cx gA p R s m args c D np_cl (np_ty cA) A np_al "NotationParseModel" prog_9_method_39_code 8 { frames := 1, cells := 0, slots := 0, locals := 23 }) (hQ : ∀ (pc : Nat) (ls : Array Slot) (H : Heap) (locs : List Loc) {σ : np_S}, decode prog_9_method_39_code pc = .ok (.return_, 1) → some ((0 : Int), σ) = some out → np_At D np_cl A (nc_wd q cA) s σ H locs → W p l e R s m args below meth c H locs 0 0 Q (F0 m pc ls [])) {k59 : (Int → Int → Int → Int → np_S → Option np_O)} (h59 : ∀ (x1 x2 x3 x4 : Int) (σ : np_S) (H : Heap) (locs : List Loc) (ls : Array Slot), k59 x1 x2 x3 x4 σ = some out → np_At D np_cl A (nc_wd q cA) s σ H locs → lv_has ls 8 [(0, .ref (q 29)), (1, .int (np_i x1)), (2, .int (np_i x2)), (3, .int (np_i x3)), (4, .int (np_i x4))] → W p l e R s m args below meth c H locs 0 0 Q (F0 m 59 ls [])) : ∀ (x1 x2 x3 x4 x6 t0 : Int) (σ : np_S) (H : Heap) (locs : List Loc) (ls : Array Slot), f_M_takeApart_183 k59 x1 x2 x3 x4 x6 t0 σ = some out → np_At D np_cl A (nc_wd q cA) s σ H locs → lv_has ls 8 [(0, .ref (q 29)), (1, .int (np_i x1)), (2, .int (np_i x2)), (3, .int (np_i x3)), (4, .int (np_i x4)), (6, .int (np_i x6))] → W p l e R s m args below meth c H locs 0 0 Q (F0 m 183 ls [.int (np_i t0)]) := by
  intro x1 x2 x3 x4 x6 t0 σ H locs ls hf hat hl
  unfold f_M_takeApart_183 at hf
  refine lv_istore (lv' := [(7, .int (np_i t0)), (0, .ref (q 29)), (1, .int (np_i x1)), (2, .int (np_i x2)), (3, .int (np_i x3)), (4, .int (np_i x4)), (6, .int (np_i x6))]) C.x C.b dd_M_takeApart_183 hl (by decide) rfl (fun ls hl => ?_)
  refine lv_iload C.x C.b dd_M_takeApart_185 (lv_at hl 0 rfl) ?_
  refine np_if_eq (tgt := 197) C dd_M_takeApart_187 (by decide) hf (fun _ hf => ?_) (fun _ hf => ?_)
  · exact w_f_M_takeApart_197 C hQ h59 _ _ _ _ _ _ _ _ _ _ hf hat (lv_sub hl [1, 2, 3, 4, 5, 6, 0] rfl)
  · refine lv_aload_n C.x C.b dd_M_takeApart_190 rfl (lv_at hl 1 rfl) ?_
    refine lv_sipush (v := np_i 1000) C.x C.b dd_M_takeApart_191 (by decide +kernel) ?_
    refine np_callVv (As := [.int (np_i 1000)]) (rest := []) C (c_M_puts l 1000 _) np_allgood tw_1159 tw_1161 tp_46 tw_8 tw_1162 (nA := 1) (by decide +kernel) rfl ⟨rfl, rfl, Nat.le_of_ble_eq_true rfl, Nat.le_of_ble_eq_true rfl⟩ (va_recv C.k hat.1 (ci := 6) (q0 := 29) rfl (nc_o29 _)) hat rfl hl.1 (Nat.le_of_ble_eq_true rfl) dd_M_takeApart_194 hf (fun o3 H locs hf hat => ?_)
    exact w_f_M_takeApart_197 C hQ h59 _ _ _ _ _ _ _ _ _ _ hf hat (lv_sub hl [1, 2, 3, 4, 5, 6, 0] rfl)
set_option maxHeartbeats 4000000 in
set_option maxRecDepth 100000 in
theorem w_f_M_takeApart_182 (C : np_Cx gA p R s m args c D np_cl (np_ty cA) A np_al "NotationParseModel" prog_9_method_39_code 8 { frames := 1, cells := 0, slots := 0, locals := 23 }) (hQ : ∀ (pc : Nat) (ls : Array Slot) (H : Heap) (locs : List Loc) {σ : np_S}, decode prog_9_method_39_code pc = .ok (.return_, 1) → some ((0 : Int), σ) = some out → np_At D np_cl A (nc_wd q cA) s σ H locs → W p l e R s m args below meth c H locs 0 0 Q (F0 m pc ls [])) {k59 : (Int → Int → Int → Int → np_S → Option np_O)} (h59 : ∀ (x1 x2 x3 x4 : Int) (σ : np_S) (H : Heap) (locs : List Loc) (ls : Array Slot), k59 x1 x2 x3 x4 σ = some out → np_At D np_cl A (nc_wd q cA) s σ H locs → lv_has ls 8 [(0, .ref (q 29)), (1, .int (np_i x1)), (2, .int (np_i x2)), (3, .int (np_i x3)), (4, .int (np_i x4))] → W p l e R s m args below meth c H locs 0 0 Q (F0 m 59 ls [])) : ∀ (x1 x2 x3 x4 x6 : Int) (σ : np_S) (H : Heap) (locs : List Loc) (ls : Array Slot), f_M_takeApart_182 k59 x1 x2 x3 x4 x6 σ = some out → np_At D np_cl A (nc_wd q cA) s σ H locs → lv_has ls 8 [(0, .ref (q 29)), (1, .int (np_i x1)), (2, .int (np_i x2)), (3, .int (np_i x3)), (4, .int (np_i x4)), (6, .int (np_i x6))] → W p l e R s m args below meth c H locs 0 0 Q (F0 m 182 ls []) := by
  intro x1 x2 x3 x4 x6 σ H locs ls hf hat hl
  unfold f_M_takeApart_182 at hf
  refine lv_iconst (v := np_i 0) C.x C.b dd_M_takeApart_182 rfl ?_
  exact w_f_M_takeApart_183 C hQ h59 _ _ _ _ _ _ _ _ _ _ hf hat (lv_sub hl [0, 1, 2, 3, 4, 5] rfl)
set_option maxHeartbeats 4000000 in
set_option maxRecDepth 100000 in
theorem w_f_M_takeApart_133 (C : np_Cx gA p R s m args c D np_cl (np_ty cA) A np_al "NotationParseModel" prog_9_method_39_code 8 { frames := 1, cells := 0, slots := 0, locals := 23 }) (hQ : ∀ (pc : Nat) (ls : Array Slot) (H : Heap) (locs : List Loc) {σ : np_S}, decode prog_9_method_39_code pc = .ok (.return_, 1) → some ((0 : Int), σ) = some out → np_At D np_cl A (nc_wd q cA) s σ H locs → W p l e R s m args below meth c H locs 0 0 Q (F0 m pc ls [])) {k59 : (Int → Int → Int → Int → np_S → Option np_O)} (h59 : ∀ (x1 x2 x3 x4 : Int) (σ : np_S) (H : Heap) (locs : List Loc) (ls : Array Slot), k59 x1 x2 x3 x4 σ = some out → np_At D np_cl A (nc_wd q cA) s σ H locs → lv_has ls 8 [(0, .ref (q 29)), (1, .int (np_i x1)), (2, .int (np_i x2)), (3, .int (np_i x3)), (4, .int (np_i x4))] → W p l e R s m args below meth c H locs 0 0 Q (F0 m 59 ls [])) : ∀ (n : Nat), ∀ (x1 x2 x3 x4 x5 x6 : Int) (σ : np_S) (H : Heap) (locs : List Loc) (ls : Array Slot), f_M_takeApart_133 k59 n x1 x2 x3 x4 x5 x6 σ = some out → np_At D np_cl A (nc_wd q cA) s σ H locs → lv_has ls 8 [(0, .ref (q 29)), (1, .int (np_i x1)), (2, .int (np_i x2)), (3, .int (np_i x3)), (4, .int (np_i x4)), (5, .int (np_i x5)), (6, .int (np_i x6))] → W p l e R s m args below meth c H locs 0 0 Q (F0 m 133 ls []) := by
  intro n
  induction n with
  | zero => intro x1 x2 x3 x4 x5 x6 σ H locs ls hf; cases hf
  | succ n ih =>
    intro x1 x2 x3 x4 x5 x6 σ H locs ls hf hat hl
    have h133 := ih
    have hf : f_M_takeApart_133_b k59 (fun x1 x2 x3 x4 x5 x6 σ => f_M_takeApart_133 k59 n x1 x2 x3 x4 x5 x6 σ) x1 x2 x3 x4 x5 x6 σ = some out := hf
    unfold f_M_takeApart_133_b at hf
    refine lv_aload_n C.x C.b dd_M_takeApart_133 rfl (lv_at hl 0 rfl) ?_
    refine np_get (v := .ref (q 41)) C i_M hat.1 29 (nc_o29 _) rfl 19 (by decide) tw_942 rfl rfl dd_M_takeApart_134 ?_
    refine lv_iload C.x C.b dd_M_takeApart_137 (lv_at hl 6 rfl) ?_
    refine np_iaload C hat.1 41 (nc_a41 _) 0 rfl (by decide) dd_M_takeApart_139 hf (fun hf => ?_)
    refine lv_bipush (v := np_i (-2)) C.x C.b dd_M_takeApart_140 (by decide +kernel) ?_
    refine np_icmp_ne (tgt := 151) C dd_M_takeApart_142 (by decide) hf (fun _ hf => ?_) (fun _ hf => ?_)
    · refine lv_aload_n C.x C.b dd_M_takeApart_151 rfl (lv_at hl 0 rfl) ?_
      refine np_get (v := .ref (q 41)) C i_M hat.1 29 (nc_o29 _) rfl 19 (by decide) tw_942 rfl rfl dd_M_takeApart_152 ?_
      refine lv_iload C.x C.b dd_M_takeApart_155 (lv_at hl 6 rfl) ?_
      refine np_iaload C hat.1 41 (nc_a41 _) 0 rfl (by decide) dd_M_takeApart_157 hf (fun hf => ?_)
      refine np_if_lt (tgt := 182) C dd_M_takeApart_158 (by decide) hf (fun _ hf => ?_) (fun _ hf => ?_)
      · exact w_f_M_takeApart_182 C hQ h59 _ _ _ _ _ _ _ _ _ hf hat (lv_sub hl [0, 1, 2, 3, 4, 6] rfl)
      · refine lv_iload C.x C.b dd_M_takeApart_161 (lv_at hl 5 rfl) ?_
        refine lv_aload_n C.x C.b dd_M_takeApart_163 rfl (lv_at hl 0 rfl) ?_
        refine np_get (v := .ref (q 33)) C i_M hat.1 29 (nc_o29 _) rfl 6 (by decide) tw_929 rfl rfl dd_M_takeApart_164 ?_
        refine lv_aload_n C.x C.b dd_M_takeApart_167 rfl (lv_at hl 0 rfl) ?_
        refine np_get (v := .ref (q 41)) C i_M hat.1 29 (nc_o29 _) rfl 19 (by decide) tw_942 rfl rfl dd_M_takeApart_168 ?_
        refine lv_iload C.x C.b dd_M_takeApart_171 (lv_at hl 6 rfl) ?_
        refine np_iaload C hat.1 41 (nc_a41 _) 0 rfl (by decide) dd_M_takeApart_173 hf (fun hf => ?_)
        refine np_iaload C hat.1 33 (nc_a33 _) 0 rfl (by decide) dd_M_takeApart_174 hf (fun hf => ?_)
        refine np_icmp_le (tgt := 182) C dd_M_takeApart_175 (by decide) hf (fun _ hf => ?_) (fun _ hf => ?_)
        · exact w_f_M_takeApart_182 C hQ h59 _ _ _ _ _ _ _ _ _ hf hat (lv_sub hl [0, 1, 2, 3, 4, 6] rfl)
        · refine lv_iconst (v := np_i 1) C.x C.b dd_M_takeApart_178 rfl ?_
          refine lv_goto (tgt := 183) C.x C.b dd_M_takeApart_179 (by decide) ?_
          exact w_f_M_takeApart_183 C hQ h59 _ _ _ _ _ _ _ _ _ _ hf hat (lv_sub hl [0, 1, 2, 3, 4, 6] rfl)
    · refine lv_iinc (v := np_i (x6 + 1)) (lv' := [(6, .int (np_i (x6 + 1))), (0, .ref (q 29)), (1, .int (np_i x1)), (2, .int (np_i x2)), (3, .int (np_i x3)), (4, .int (np_i x4)), (5, .int (np_i x5))]) C.x C.b dd_M_takeApart_145 hl (k := 6) rfl (np_inc _ _) (by decide) rfl (fun ls hl => ?_)
      refine lv_goto (tgt := 133) C.x C.b dd_M_takeApart_148 (by decide) ?_
      exact h133 _ _ _ _ _ _ _ _ _ _ hf hat (lv_sub hl [1, 2, 3, 4, 5, 6, 0] rfl)
set_option maxHeartbeats 4000000 in
set_option maxRecDepth 100000 in
theorem w_f_M_takeApart_59 (C : np_Cx gA p R s m args c D np_cl (np_ty cA) A np_al "NotationParseModel" prog_9_method_39_code 8 { frames := 1, cells := 0, slots := 0, locals := 23 }) (hQ : ∀ (pc : Nat) (ls : Array Slot) (H : Heap) (locs : List Loc) {σ : np_S}, decode prog_9_method_39_code pc = .ok (.return_, 1) → some ((0 : Int), σ) = some out → np_At D np_cl A (nc_wd q cA) s σ H locs → W p l e R s m args below meth c H locs 0 0 Q (F0 m pc ls []))   : ∀ (n : Nat), ∀ (x1 x2 x3 x4 : Int) (σ : np_S) (H : Heap) (locs : List Loc) (ls : Array Slot), f_M_takeApart_59  n x1 x2 x3 x4 σ = some out → np_At D np_cl A (nc_wd q cA) s σ H locs → lv_has ls 8 [(0, .ref (q 29)), (1, .int (np_i x1)), (2, .int (np_i x2)), (3, .int (np_i x3)), (4, .int (np_i x4))] → W p l e R s m args below meth c H locs 0 0 Q (F0 m 59 ls []) := by
  intro n
  induction n with
  | zero => intro x1 x2 x3 x4 σ H locs ls hf; cases hf
  | succ n ih =>
    intro x1 x2 x3 x4 σ H locs ls hf hat hl
    have h59 := ih
    have hf : f_M_takeApart_59_b  (fun x1 x2 x3 x4 σ => f_M_takeApart_59  n x1 x2 x3 x4 σ) x1 x2 x3 x4 σ = some out := hf
    unfold f_M_takeApart_59_b at hf
    refine lv_iload C.x C.b dd_M_takeApart_59 (lv_at hl 4 rfl) ?_
    refine lv_aload_n C.x C.b dd_M_takeApart_61 rfl (lv_at hl 0 rfl) ?_
    refine np_get (v := .ref (q 32)) C i_M hat.1 29 (nc_o29 _) rfl 5 (by decide) tw_928 rfl rfl dd_M_takeApart_62 ?_
    refine lv_aload_n C.x C.b dd_M_takeApart_65 rfl (lv_at hl 0 rfl) ?_
    refine np_get (v := .ref (q 41)) C i_M hat.1 29 (nc_o29 _) rfl 19 (by decide) tw_942 rfl rfl dd_M_takeApart_66 ?_
    refine lv_iload_n C.x C.b dd_M_takeApart_69 rfl (lv_at hl 1 rfl) ?_
    refine np_iaload C hat.1 41 (nc_a41 _) 0 rfl (by decide) dd_M_takeApart_70 hf (fun hf => ?_)
    refine np_iaload C hat.1 32 (nc_a32 _) 0 rfl (by decide) dd_M_takeApart_71 hf (fun hf => ?_)
    refine np_icmp_ge (tgt := 221) C dd_M_takeApart_72 (by decide) hf (fun _ hf => ?_) (fun _ hf => ?_)
    · refine lv_iload_n C.x C.b dd_M_takeApart_221 rfl (lv_at hl 2 rfl) ?_
      refine lv_istore (lv' := [(4, .int (np_i x2)), (0, .ref (q 29)), (1, .int (np_i x1)), (2, .int (np_i x2)), (3, .int (np_i x3))]) C.x C.b dd_M_takeApart_222 hl (by decide) rfl (fun ls hl => ?_)
      refine lv_aload_n C.x C.b dd_M_takeApart_224 rfl (lv_at hl 1 rfl) ?_
      refine np_get (v := .int (np_i (σ 29 27))) C i_M hat.1 29 (nc_o29 _) rfl 27 (by decide) tw_950 rfl rfl dd_M_takeApart_225 ?_
      refine lv_iconst (v := np_i 1) C.x C.b dd_M_takeApart_228 rfl ?_
      refine np_isub C dd_M_takeApart_229 ?_
      refine lv_istore (lv' := [(5, .int (np_i ((σ 29 27) - 1))), (4, .int (np_i x2)), (0, .ref (q 29)), (1, .int (np_i x1)), (2, .int (np_i x2)), (3, .int (np_i x3))]) C.x C.b dd_M_takeApart_230 hl (by decide) rfl (fun ls hl => ?_)
      exact w_f_M_takeApart_232 C hQ  20000 _ _ _ _ _ _ hf hat (lv_sub hl [2, 1, 0] rfl)
    · refine lv_aload_n C.x C.b dd_M_takeApart_75 rfl (lv_at hl 0 rfl) ?_
      refine np_get (v := .ref (q 30)) C i_M hat.1 29 (nc_o29 _) rfl 3 (by decide) tw_926 rfl rfl dd_M_takeApart_76 ?_
      refine lv_bipush (v := np_i 7) C.x C.b dd_M_takeApart_79 (by decide +kernel) ?_
      refine lv_aload_n C.x C.b dd_M_takeApart_81 rfl (lv_at hl 0 rfl) ?_
      refine np_get (v := .ref (q 41)) C i_M hat.1 29 (nc_o29 _) rfl 19 (by decide) tw_942 rfl rfl dd_M_takeApart_82 ?_
      refine lv_iload_n C.x C.b dd_M_takeApart_85 rfl (lv_at hl 1 rfl) ?_
      refine np_iaload C hat.1 41 (nc_a41 _) 0 rfl (by decide) dd_M_takeApart_86 hf (fun hf => ?_)
      refine np_imul C dd_M_takeApart_87 ?_
      refine lv_iload C.x C.b dd_M_takeApart_88 (lv_at hl 4 rfl) ?_
      refine np_iadd C dd_M_takeApart_90 ?_
      refine np_iaload C hat.1 30 (nc_a30 _) 0 rfl (by decide) dd_M_takeApart_91 hf (fun hf => ?_)
      refine lv_istore (lv' := [(5, .int (np_i (σ 30 ((7 * (σ 41 x1)) + x4)))), (0, .ref (q 29)), (1, .int (np_i x1)), (2, .int (np_i x2)), (3, .int (np_i x3)), (4, .int (np_i x4))]) C.x C.b dd_M_takeApart_92 hl (by decide) rfl (fun ls hl => ?_)
      refine lv_iload C.x C.b dd_M_takeApart_94 (lv_at hl 0 rfl) ?_
      refine lv_iconst (v := np_i (-1)) C.x C.b dd_M_takeApart_96 rfl ?_
      refine np_icmp_ne (tgt := 115) C dd_M_takeApart_97 (by decide) hf (fun _ hf => ?_) (fun _ hf => ?_)
      · refine lv_aload_n C.x C.b dd_M_takeApart_115 rfl (lv_at hl 1 rfl) ?_
        refine lv_iload_n C.x C.b dd_M_takeApart_116 rfl (lv_at hl 2 rfl) ?_
        refine lv_iload_n C.x C.b dd_M_takeApart_117 rfl (lv_at hl 4 rfl) ?_
        refine np_callVi (As := [.int (np_i x1), .int (np_i x3)]) (rest := []) C (c_M_childAt l x1 x3 _) np_allgood tw_1171 tw_1173 tp_49 tw_8 tw_1174 (nA := 2) (by decide +kernel) rfl ⟨rfl, rfl, Nat.le_of_ble_eq_true rfl, Nat.le_of_ble_eq_true rfl⟩ (va_recv C.k hat.1 (ci := 6) (q0 := 29) rfl (nc_o29 _)) hat rfl hl.1 (Nat.le_of_ble_eq_true rfl) dd_M_takeApart_118 hf (fun o4 H locs hf hat => ?_)
        refine lv_istore (lv' := [(6, .int (np_i o4.1)), (5, .int (np_i (σ 30 ((7 * (σ 41 x1)) + x4)))), (0, .ref (q 29)), (1, .int (np_i x1)), (2, .int (np_i x2)), (3, .int (np_i x3)), (4, .int (np_i x4))]) C.x C.b dd_M_takeApart_121 hl (by decide) rfl (fun ls hl => ?_)
        refine lv_iload_n C.x C.b dd_M_takeApart_123 rfl (lv_at hl 5 rfl) ?_
        refine lv_aload_n C.x C.b dd_M_takeApart_124 rfl (lv_at hl 2 rfl) ?_
        refine np_get (v := .ref (q 43)) C i_M hat.1 29 (nc_o29 _) rfl 21 (by decide) tw_944 rfl rfl dd_M_takeApart_125 ?_
        refine lv_iload C.x C.b dd_M_takeApart_128 (lv_at hl 0 rfl) ?_
        refine np_iaload C hat.1 43 (nc_a43 _) 0 rfl (by decide) dd_M_takeApart_130 hf (fun hf => ?_)
        refine np_iadd C dd_M_takeApart_131 ?_
        refine lv_istore_n (lv' := [(3, .int (np_i (x3 + (o4.2 43 o4.1)))), (6, .int (np_i o4.1)), (5, .int (np_i (σ 30 ((7 * (σ 41 x1)) + x4)))), (0, .ref (q 29)), (1, .int (np_i x1)), (2, .int (np_i x2)), (4, .int (np_i x4))]) C.x C.b dd_M_takeApart_132 rfl hl (by decide) rfl (fun ls hl => ?_)
        exact w_f_M_takeApart_133 C hQ h59 20000 _ _ _ _ _ _ _ _ _ _ hf hat (lv_sub hl [3, 4, 5, 0, 6, 2, 1] rfl)
      · refine lv_aload_n C.x C.b dd_M_takeApart_100 rfl (lv_at hl 1 rfl) ?_
        refine lv_sipush (v := np_i 500) C.x C.b dd_M_takeApart_101 (by decide +kernel) ?_
        refine lv_iload_n C.x C.b dd_M_takeApart_104 rfl (lv_at hl 4 rfl) ?_
        refine np_iadd C dd_M_takeApart_105 ?_
        refine np_callVv (As := [.int (np_i (500 + x3))]) (rest := []) C (c_M_puts l (500 + x3) _) np_allgood tw_1159 tw_1161 tp_46 tw_8 tw_1162 (nA := 1) (by decide +kernel) rfl ⟨rfl, rfl, Nat.le_of_ble_eq_true rfl, Nat.le_of_ble_eq_true rfl⟩ (va_recv C.k hat.1 (ci := 6) (q0 := 29) rfl (nc_o29 _)) hat rfl hl.1 (Nat.le_of_ble_eq_true rfl) dd_M_takeApart_106 hf (fun o5 H locs hf hat => ?_)
        refine lv_iinc (v := np_i (x3 + 1)) (lv' := [(3, .int (np_i (x3 + 1))), (5, .int (np_i (σ 30 ((7 * (σ 41 x1)) + x4)))), (0, .ref (q 29)), (1, .int (np_i x1)), (2, .int (np_i x2)), (4, .int (np_i x4))]) C.x C.b dd_M_takeApart_109 hl (k := 4) rfl (np_inc _ _) (by decide) rfl (fun ls hl => ?_)
        refine lv_goto (tgt := 215) C.x C.b dd_M_takeApart_112 (by decide) ?_
        exact w_f_M_takeApart_215 C hQ h59 _ _ _ _ _ _ _ _ hf hat (lv_sub hl [2, 3, 4, 0, 5] rfl)
set_option maxHeartbeats 4000000 in
set_option maxRecDepth 100000 in
theorem w_f_M_takeApart (C : np_Cx gA p R s m args c D np_cl (np_ty cA) A np_al "NotationParseModel" prog_9_method_39_code 8 { frames := 1, cells := 0, slots := 0, locals := 23 }) (hQ : ∀ (pc : Nat) (ls : Array Slot) (H : Heap) (locs : List Loc) {σ : np_S}, decode prog_9_method_39_code pc = .ok (.return_, 1) → some ((0 : Int), σ) = some out → np_At D np_cl A (nc_wd q cA) s σ H locs → W p l e R s m args below meth c H locs 0 0 Q (F0 m pc ls []))   : ∀ (x1 : Int) (σ : np_S) (H : Heap) (locs : List Loc) (ls : Array Slot), f_M_takeApart  x1 σ = some out → np_At D np_cl A (nc_wd q cA) s σ H locs → lv_has ls 8 [(0, .ref (q 29)), (1, .int (np_i x1))] → W p l e R s m args below meth c H locs 0 0 Q (F0 m 0 ls []) := by
  intro x1 σ H locs ls hf hat hl
  unfold f_M_takeApart at hf
  refine lv_aload_n C.x C.b dd_M_takeApart_0 rfl (lv_at hl 0 rfl) ?_
  refine np_get (v := .ref (q 41)) C i_M hat.1 29 (nc_o29 _) rfl 19 (by decide) tw_942 rfl rfl dd_M_takeApart_1 ?_
  refine lv_iload_n C.x C.b dd_M_takeApart_4 rfl (lv_at hl 1 rfl) ?_
  refine np_iaload C hat.1 41 (nc_a41 _) 0 rfl (by decide) dd_M_takeApart_5 hf (fun hf => ?_)
  refine lv_iconst (v := np_i (-1)) C.x C.b dd_M_takeApart_6 rfl ?_
  refine np_icmp_ne (tgt := 25) C dd_M_takeApart_7 (by decide) hf (fun _ hf => ?_) (fun _ hf => ?_)
  · refine lv_aload_n C.x C.b dd_M_takeApart_25 rfl (lv_at hl 0 rfl) ?_
    refine np_get (v := .ref (q 41)) C i_M hat.1 29 (nc_o29 _) rfl 19 (by decide) tw_942 rfl rfl dd_M_takeApart_26 ?_
    refine lv_iload_n C.x C.b dd_M_takeApart_29 rfl (lv_at hl 1 rfl) ?_
    refine np_iaload C hat.1 41 (nc_a41 _) 0 rfl (by decide) dd_M_takeApart_30 hf (fun hf => ?_)
    refine lv_bipush (v := np_i (-2)) C.x C.b dd_M_takeApart_31 (by decide +kernel) ?_
    refine np_icmp_ne (tgt := 44) C dd_M_takeApart_33 (by decide) hf (fun _ hf => ?_) (fun _ hf => ?_)
    · refine lv_aload_n C.x C.b dd_M_takeApart_44 rfl (lv_at hl 0 rfl) ?_
      refine np_get (v := .int (np_i (σ 29 27))) C i_M hat.1 29 (nc_o29 _) rfl 27 (by decide) tw_950 rfl rfl dd_M_takeApart_45 ?_
      refine lv_istore_n (lv' := [(2, .int (np_i (σ 29 27))), (0, .ref (q 29)), (1, .int (np_i x1))]) C.x C.b dd_M_takeApart_48 rfl hl (by decide) rfl (fun ls hl => ?_)
      refine lv_aload_n C.x C.b dd_M_takeApart_49 rfl (lv_at hl 1 rfl) ?_
      refine np_get (v := .ref (q 42)) C i_M hat.1 29 (nc_o29 _) rfl 20 (by decide) tw_943 rfl rfl dd_M_takeApart_50 ?_
      refine lv_iload_n C.x C.b dd_M_takeApart_53 rfl (lv_at hl 2 rfl) ?_
      refine np_iaload C hat.1 42 (nc_a42 _) 0 rfl (by decide) dd_M_takeApart_54 hf (fun hf => ?_)
      refine lv_istore_n (lv' := [(3, .int (np_i (σ 42 x1))), (2, .int (np_i (σ 29 27))), (0, .ref (q 29)), (1, .int (np_i x1))]) C.x C.b dd_M_takeApart_55 rfl hl (by decide) rfl (fun ls hl => ?_)
      refine lv_iconst (v := np_i 0) C.x C.b dd_M_takeApart_56 rfl ?_
      refine lv_istore (lv' := [(4, .int (np_i 0)), (3, .int (np_i (σ 42 x1))), (2, .int (np_i (σ 29 27))), (0, .ref (q 29)), (1, .int (np_i x1))]) C.x C.b dd_M_takeApart_57 hl (by decide) rfl (fun ls hl => ?_)
      exact w_f_M_takeApart_59 C hQ  20000 _ _ _ _ _ _ _ _ hf hat (lv_sub hl [3, 4, 2, 1, 0] rfl)
    · refine lv_aload_n C.x C.b dd_M_takeApart_36 rfl (lv_at hl 0 rfl) ?_
      refine lv_iload_n C.x C.b dd_M_takeApart_37 rfl (lv_at hl 1 rfl) ?_
      refine lv_iconst (v := np_i 1) C.x C.b dd_M_takeApart_38 rfl ?_
      refine np_iadd C dd_M_takeApart_39 ?_
      refine np_callVv (As := [.int (np_i (x1 + 1))]) (rest := []) C (c_M_puts l (x1 + 1) _) np_allgood tw_1159 tw_1161 tp_46 tw_8 tw_1162 (nA := 1) (by decide +kernel) rfl ⟨rfl, rfl, Nat.le_of_ble_eq_true rfl, Nat.le_of_ble_eq_true rfl⟩ (va_recv C.k hat.1 (ci := 6) (q0 := 29) rfl (nc_o29 _)) hat rfl hl.1 (Nat.le_of_ble_eq_true rfl) dd_M_takeApart_40 hf (fun o6 H locs hf hat => ?_)
      exact hQ _ _ _ _ dd_M_takeApart_43 hf hat
  · refine lv_aload_n C.x C.b dd_M_takeApart_10 rfl (lv_at hl 0 rfl) ?_
    refine lv_sipush (v := np_i 500) C.x C.b dd_M_takeApart_11 (by decide +kernel) ?_
    refine lv_aload_n C.x C.b dd_M_takeApart_14 rfl (lv_at hl 0 rfl) ?_
    refine np_get (v := .ref (q 42)) C i_M hat.1 29 (nc_o29 _) rfl 20 (by decide) tw_943 rfl rfl dd_M_takeApart_15 ?_
    refine lv_iload_n C.x C.b dd_M_takeApart_18 rfl (lv_at hl 1 rfl) ?_
    refine np_iaload C hat.1 42 (nc_a42 _) 0 rfl (by decide) dd_M_takeApart_19 hf (fun hf => ?_)
    refine np_iadd C dd_M_takeApart_20 ?_
    refine np_callVv (As := [.int (np_i (500 + (σ 42 x1)))]) (rest := []) C (c_M_puts l (500 + (σ 42 x1)) _) np_allgood tw_1159 tw_1161 tp_46 tw_8 tw_1162 (nA := 1) (by decide +kernel) rfl ⟨rfl, rfl, Nat.le_of_ble_eq_true rfl, Nat.le_of_ble_eq_true rfl⟩ (va_recv C.k hat.1 (ci := 6) (q0 := 29) rfl (nc_o29 _)) hat rfl hl.1 (Nat.le_of_ble_eq_true rfl) dd_M_takeApart_21 hf (fun o7 H locs hf hat => ?_)
    exact hQ _ _ _ _ dd_M_takeApart_24 hf hat
set_option maxHeartbeats 4000000 in
set_option maxRecDepth 100000 in
theorem c_M_takeApart (l : Launch) {gA : Nat → Nat} {D : va_G} {q : Nat → Nat} {cA : Nat → ClassId} (x1 : Int) (σ : np_S) : np_Mv gA l D np_cl (np_ty cA) (nc_wd q cA) yy_M_takeApart (.code yy_M_takeApart prog_9_method_39_code 8 none :: np_al) { frames := 1, cells := 0, slots := 0, locals := 23 } [.ref (q 29), .int (np_i x1)] σ (f_M_takeApart x1 σ) :=
  np_mkv (by decide +kernel) (Nat.le_of_ble_eq_true rfl) (fun o p e R s m args below meth c Q A ls hf C hQ hat hl => w_f_M_takeApart C hQ x1 σ _ _ _ hf hat (lv_sub hl [0, 1] rfl))
set_option maxHeartbeats 4000000 in
set_option maxRecDepth 100000 in
theorem w_f_M_print_133 (C : np_Cx gA p R s m args c D np_cl (np_ty cA) A np_al "NotationParseModel" prog_9_method_41_code 2 { frames := 2, cells := 0, slots := 0, locals := 50 }) (hQ : ∀ (pc : Nat) (ls : Array Slot) (H : Heap) (locs : List Loc) (v : Int) {σ : np_S}, decode prog_9_method_41_code pc = .ok (.ireturn, 1) → some (v, σ) = some out → np_At D np_cl A (nc_wd q cA) s σ H locs → W p l e R s m args below meth c H locs 0 0 Q (F0 m pc ls [.int (np_i v)])) {k40 : (np_S → Option np_O)} (h40 : ∀ (σ : np_S) (H : Heap) (locs : List Loc) (ls : Array Slot), k40  σ = some out → np_At D np_cl A (nc_wd q cA) s σ H locs → lv_has ls 2 [(0, .ref (q 29))] → W p l e R s m args below meth c H locs 0 0 Q (F0 m 40 ls [])) : ∀ (σ : np_S) (H : Heap) (locs : List Loc) (ls : Array Slot), f_M_print_133 k40 σ = some out → np_At D np_cl A (nc_wd q cA) s σ H locs → lv_has ls 2 [(0, .ref (q 29))] → W p l e R s m args below meth c H locs 0 0 Q (F0 m 133 ls []) := by
  intro σ H locs ls hf hat hl
  unfold f_M_print_133 at hf
  refine lv_goto (tgt := 40) C.x C.b dd_M_print_133 (by decide) ?_
  exact h40  _ _ _ _ hf hat (lv_sub hl [0] rfl)
set_option maxHeartbeats 4000000 in
set_option maxRecDepth 100000 in
theorem w_f_M_print_98 (C : np_Cx gA p R s m args c D np_cl (np_ty cA) A np_al "NotationParseModel" prog_9_method_41_code 2 { frames := 2, cells := 0, slots := 0, locals := 50 }) (hQ : ∀ (pc : Nat) (ls : Array Slot) (H : Heap) (locs : List Loc) (v : Int) {σ : np_S}, decode prog_9_method_41_code pc = .ok (.ireturn, 1) → some (v, σ) = some out → np_At D np_cl A (nc_wd q cA) s σ H locs → W p l e R s m args below meth c H locs 0 0 Q (F0 m pc ls [.int (np_i v)])) {k40 : (np_S → Option np_O)} (h40 : ∀ (σ : np_S) (H : Heap) (locs : List Loc) (ls : Array Slot), k40  σ = some out → np_At D np_cl A (nc_wd q cA) s σ H locs → lv_has ls 2 [(0, .ref (q 29))] → W p l e R s m args below meth c H locs 0 0 Q (F0 m 40 ls [])) : ∀ (t1 : Int) (σ : np_S) (H : Heap) (locs : List Loc) (ls : Array Slot), f_M_print_98 k40 t1 σ = some out → np_At D np_cl A (nc_wd q cA) s σ H locs → lv_has ls 2 [(0, .ref (q 29))] → W p l e R s m args below meth c H locs 0 0 Q (F0 m 98 ls [.long (np_l t1), .ref (q 29)]) := by
  intro t1 σ H locs ls hf hat hl
  unfold f_M_print_98 at hf
  refine np_callVv (As := [.long (np_l t1)]) (rest := []) C (c_M_putWord l t1 _) np_allgood tw_1163 tw_1165 tp_47 tw_8 tw_1166 (nA := 1) (by decide +kernel) rfl ⟨rfl, rfl, Nat.le_of_ble_eq_true rfl, Nat.le_of_ble_eq_true rfl⟩ (va_recv C.k hat.1 (ci := 6) (q0 := 29) rfl (nc_o29 _)) hat rfl hl.1 (Nat.le_of_ble_eq_true rfl) dd_M_print_98 hf (fun o1 H locs hf hat => ?_)
  refine lv_goto (tgt := 133) C.x C.b dd_M_print_101 (by decide) ?_
  exact w_f_M_print_133 C hQ h40  _ _ _ _ hf hat (lv_sub hl [0] rfl)
set_option maxHeartbeats 4000000 in
set_option maxRecDepth 100000 in
theorem w_f_M_print_81 (C : np_Cx gA p R s m args c D np_cl (np_ty cA) A np_al "NotationParseModel" prog_9_method_41_code 2 { frames := 2, cells := 0, slots := 0, locals := 50 }) (hQ : ∀ (pc : Nat) (ls : Array Slot) (H : Heap) (locs : List Loc) (v : Int) {σ : np_S}, decode prog_9_method_41_code pc = .ok (.ireturn, 1) → some (v, σ) = some out → np_At D np_cl A (nc_wd q cA) s σ H locs → W p l e R s m args below meth c H locs 0 0 Q (F0 m pc ls [.int (np_i v)])) {k40 : (np_S → Option np_O)} (h40 : ∀ (σ : np_S) (H : Heap) (locs : List Loc) (ls : Array Slot), k40  σ = some out → np_At D np_cl A (nc_wd q cA) s σ H locs → lv_has ls 2 [(0, .ref (q 29))] → W p l e R s m args below meth c H locs 0 0 Q (F0 m 40 ls [])) : ∀ (x1 : Int) (σ : np_S) (H : Heap) (locs : List Loc) (ls : Array Slot), f_M_print_81 k40 x1 σ = some out → np_At D np_cl A (nc_wd q cA) s σ H locs → lv_has ls 2 [(0, .ref (q 29)), (1, .int (np_i x1))] → W p l e R s m args below meth c H locs 0 0 Q (F0 m 81 ls []) := by
  intro x1 σ H locs ls hf hat hl
  unfold f_M_print_81 at hf
  refine lv_aload_n C.x C.b dd_M_print_81 rfl (lv_at hl 0 rfl) ?_
  refine lv_iload_n C.x C.b dd_M_print_82 rfl (lv_at hl 1 rfl) ?_
  refine lv_sipush (v := np_i 1000) C.x C.b dd_M_print_83 (by decide +kernel) ?_
  refine np_icmp_ne (tgt := 95) C dd_M_print_86 (by decide) hf (fun _ hf => ?_) (fun _ hf => ?_)
  · refine np_ldc2 (v := 41) C tw_1054 dd_M_print_95 ?_
    exact w_f_M_print_98 C hQ h40 _ _ _ _ _ hf hat (lv_sub hl [0] rfl)
  · refine np_ldc2 (v := 40) C tw_1053 dd_M_print_89 ?_
    refine lv_goto (tgt := 98) C.x C.b dd_M_print_92 (by decide) ?_
    exact w_f_M_print_98 C hQ h40 _ _ _ _ _ hf hat (lv_sub hl [0] rfl)
set_option maxHeartbeats 4000000 in
set_option maxRecDepth 100000 in
theorem w_f_M_print_40 (C : np_Cx gA p R s m args c D np_cl (np_ty cA) A np_al "NotationParseModel" prog_9_method_41_code 2 { frames := 2, cells := 0, slots := 0, locals := 50 }) (hQ : ∀ (pc : Nat) (ls : Array Slot) (H : Heap) (locs : List Loc) (v : Int) {σ : np_S}, decode prog_9_method_41_code pc = .ok (.ireturn, 1) → some (v, σ) = some out → np_At D np_cl A (nc_wd q cA) s σ H locs → W p l e R s m args below meth c H locs 0 0 Q (F0 m pc ls [.int (np_i v)]))   : ∀ (n : Nat), ∀ (σ : np_S) (H : Heap) (locs : List Loc) (ls : Array Slot), f_M_print_40  n σ = some out → np_At D np_cl A (nc_wd q cA) s σ H locs → lv_has ls 2 [(0, .ref (q 29))] → W p l e R s m args below meth c H locs 0 0 Q (F0 m 40 ls []) := by
  intro n
  induction n with
  | zero => intro σ H locs ls hf; cases hf
  | succ n ih =>
    intro σ H locs ls hf hat hl
    have h40 := ih
    have hf : f_M_print_40_b  (fun σ => f_M_print_40  n σ) σ = some out := hf
    unfold f_M_print_40_b at hf
    refine lv_aload_n C.x C.b dd_M_print_40 rfl (lv_at hl 0 rfl) ?_
    refine np_get (v := .int (np_i (σ 29 27))) C i_M hat.1 29 (nc_o29 _) rfl 27 (by decide) tw_950 rfl rfl dd_M_print_41 ?_
    refine np_if_le (tgt := 136) C dd_M_print_44 (by decide) hf (fun _ hf => ?_) (fun _ hf => ?_)
    · refine lv_aload_n C.x C.b dd_M_print_136 rfl (lv_at hl 0 rfl) ?_
      refine np_get (v := .int (np_i (σ 29 28))) C i_M hat.1 29 (nc_o29 _) rfl 28 (by decide) tw_951 rfl rfl dd_M_print_137 ?_
      exact hQ _ _ _ _ _ dd_M_print_140 hf hat
    · refine lv_aload_n C.x C.b dd_M_print_47 rfl (lv_at hl 0 rfl) ?_
      refine lv_dup C.x C.b dd_M_print_48 rfl ?_
      refine np_get (v := .int (np_i (σ 29 27))) C i_M hat.1 29 (nc_o29 _) rfl 27 (by decide) tw_950 rfl rfl dd_M_print_49 ?_
      refine lv_iconst (v := np_i 1) C.x C.b dd_M_print_52 rfl ?_
      refine np_isub C dd_M_print_53 ?_
      refine np_put C i_M t_M tok_M n_M hat 29 (nc_o29 _) rfl 27 (by decide) tw_950 rfl rfl (by decide +kernel) (np_narI ((σ 29 27) - 1)) (np_fitI ((σ 29 27) - 1)) (Nat.le_of_ble_eq_true rfl) (nc_s29_27 _ _) dd_M_print_54 (fun H locs hat => ?_)
      refine lv_aload_n C.x C.b dd_M_print_57 rfl (lv_at hl 0 rfl) ?_
      refine np_get (v := .ref (q 50)) C i_M hat.1 29 (nc_o29 _) rfl 30 (by decide) tw_953 rfl rfl dd_M_print_58 ?_
      refine lv_aload_n C.x C.b dd_M_print_61 rfl (lv_at hl 0 rfl) ?_
      refine np_get (v := .int (np_i ((np_st σ 29 27 ((σ 29 27) - 1)) 29 27))) C i_M hat.1 29 (nc_o29 _) rfl 27 (by decide) tw_950 rfl rfl dd_M_print_62 ?_
      refine np_iaload C hat.1 50 (nc_a50 _) 0 rfl (by decide) dd_M_print_65 hf (fun hf => ?_)
      refine lv_istore_n (lv' := [(1, .int (np_i ((np_st σ 29 27 ((σ 29 27) - 1)) 50 ((np_st σ 29 27 ((σ 29 27) - 1)) 29 27)))), (0, .ref (q 29))]) C.x C.b dd_M_print_66 rfl hl (by decide) rfl (fun ls hl => ?_)
      refine lv_iload_n C.x C.b dd_M_print_67 rfl (lv_at hl 0 rfl) ?_
      refine lv_sipush (v := np_i 1000) C.x C.b dd_M_print_68 (by decide +kernel) ?_
      refine np_icmp_eq (tgt := 81) C dd_M_print_71 (by decide) hf (fun _ hf => ?_) (fun _ hf => ?_)
      · exact w_f_M_print_81 C hQ h40 _ _ _ _ _ hf hat (lv_sub hl [1, 0] rfl)
      · refine lv_iload_n C.x C.b dd_M_print_74 rfl (lv_at hl 0 rfl) ?_
        refine lv_sipush (v := np_i 1001) C.x C.b dd_M_print_75 (by decide +kernel) ?_
        refine np_icmp_ne (tgt := 104) C dd_M_print_78 (by decide) hf (fun _ hf => ?_) (fun _ hf => ?_)
        · refine lv_iload_n C.x C.b dd_M_print_104 rfl (lv_at hl 0 rfl) ?_
          refine lv_sipush (v := np_i 500) C.x C.b dd_M_print_105 (by decide +kernel) ?_
          refine np_icmp_lt (tgt := 128) C dd_M_print_108 (by decide) hf (fun _ hf => ?_) (fun _ hf => ?_)
          · refine lv_aload_n C.x C.b dd_M_print_128 rfl (lv_at hl 1 rfl) ?_
            refine lv_iload_n C.x C.b dd_M_print_129 rfl (lv_at hl 0 rfl) ?_
            refine np_callVv (As := [.int (np_i ((np_st σ 29 27 ((σ 29 27) - 1)) 50 ((np_st σ 29 27 ((σ 29 27) - 1)) 29 27)))]) (rest := []) C (c_M_takeApart l ((np_st σ 29 27 ((σ 29 27) - 1)) 50 ((np_st σ 29 27 ((σ 29 27) - 1)) 29 27)) _) np_allgood tw_1167 tw_1169 tp_48 tw_8 tw_1170 (nA := 1) (by decide +kernel) rfl ⟨rfl, rfl, Nat.le_of_ble_eq_true rfl, Nat.le_of_ble_eq_true rfl⟩ (va_recv C.k hat.1 (ci := 6) (q0 := 29) rfl (nc_o29 _)) hat rfl hl.1 (Nat.le_of_ble_eq_true rfl) dd_M_print_130 hf (fun o2 H locs hf hat => ?_)
            exact w_f_M_print_133 C hQ h40  _ _ _ _ hf hat (lv_sub hl [1] rfl)
          · refine lv_aload_n C.x C.b dd_M_print_111 rfl (lv_at hl 1 rfl) ?_
            refine lv_aload_n C.x C.b dd_M_print_112 rfl (lv_at hl 1 rfl) ?_
            refine np_get (v := .ref (q 35)) C i_M hat.1 29 (nc_o29 _) rfl 12 (by decide) tw_935 rfl rfl dd_M_print_113 ?_
            refine lv_iload_n C.x C.b dd_M_print_116 rfl (lv_at hl 0 rfl) ?_
            refine lv_sipush (v := np_i 500) C.x C.b dd_M_print_117 (by decide +kernel) ?_
            refine np_isub C dd_M_print_120 ?_
            refine np_laload C hat.1 35 (nc_a35 _) 1 rfl (by decide) dd_M_print_121 hf (fun hf => ?_)
            refine np_callVv (As := [.long (np_l ((np_st σ 29 27 ((σ 29 27) - 1)) 35 (((np_st σ 29 27 ((σ 29 27) - 1)) 50 ((np_st σ 29 27 ((σ 29 27) - 1)) 29 27)) - 500)))]) (rest := []) C (c_M_putWord l ((np_st σ 29 27 ((σ 29 27) - 1)) 35 (((np_st σ 29 27 ((σ 29 27) - 1)) 50 ((np_st σ 29 27 ((σ 29 27) - 1)) 29 27)) - 500)) _) np_allgood tw_1163 tw_1165 tp_47 tw_8 tw_1166 (nA := 1) (by decide +kernel) rfl ⟨rfl, rfl, Nat.le_of_ble_eq_true rfl, Nat.le_of_ble_eq_true rfl⟩ (va_recv C.k hat.1 (ci := 6) (q0 := 29) rfl (nc_o29 _)) hat rfl hl.1 (Nat.le_of_ble_eq_true rfl) dd_M_print_122 hf (fun o3 H locs hf hat => ?_)
            refine lv_goto (tgt := 133) C.x C.b dd_M_print_125 (by decide) ?_
            exact w_f_M_print_133 C hQ h40  _ _ _ _ hf hat (lv_sub hl [1] rfl)
        · exact w_f_M_print_81 C hQ h40 _ _ _ _ _ hf hat (lv_sub hl [1, 0] rfl)
set_option maxHeartbeats 4000000 in
set_option maxRecDepth 100000 in
theorem w_f_M_print_13 (C : np_Cx gA p R s m args c D np_cl (np_ty cA) A np_al "NotationParseModel" prog_9_method_41_code 2 { frames := 2, cells := 0, slots := 0, locals := 50 }) (hQ : ∀ (pc : Nat) (ls : Array Slot) (H : Heap) (locs : List Loc) (v : Int) {σ : np_S}, decode prog_9_method_41_code pc = .ok (.ireturn, 1) → some (v, σ) = some out → np_At D np_cl A (nc_wd q cA) s σ H locs → W p l e R s m args below meth c H locs 0 0 Q (F0 m pc ls [.int (np_i v)]))   : ∀ (t1 : Int) (σ : np_S) (H : Heap) (locs : List Loc) (ls : Array Slot), f_M_print_13  t1 σ = some out → np_At D np_cl A (nc_wd q cA) s σ H locs → lv_has ls 2 [(0, .ref (q 29))] → W p l e R s m args below meth c H locs 0 0 Q (F0 m 13 ls [.int (np_i t1), .ref (q 29)]) := by
  intro t1 σ H locs ls hf hat hl
  unfold f_M_print_13 at hf
  refine np_put C i_M t_M tok_M n_M hat 29 (nc_o29 _) rfl 0 (by decide) tw_923 rfl rfl (by decide +kernel) (np_narI t1) (np_fitI t1) (Nat.le_of_ble_eq_true rfl) (nc_s29_0 _ _) dd_M_print_13 (fun H locs hat => ?_)
  refine lv_aload_n C.x C.b dd_M_print_16 rfl (lv_at hl 0 rfl) ?_
  refine np_get (v := .int (np_i ((np_st σ 29 0 t1) 29 0))) C i_M hat.1 29 (nc_o29 _) rfl 0 (by decide) tw_923 rfl rfl dd_M_print_17 ?_
  refine np_if_le (tgt := 25) C dd_M_print_20 (by decide) hf (fun _ hf => ?_) (fun _ hf => ?_)
  · refine lv_aload_n C.x C.b dd_M_print_25 rfl (lv_at hl 0 rfl) ?_
    refine lv_iconst (v := np_i 0) C.x C.b dd_M_print_26 rfl ?_
    refine np_put C i_M t_M tok_M n_M hat 29 (nc_o29 _) rfl 28 (by decide) tw_951 rfl rfl (by decide +kernel) (np_narI 0) (np_fitI 0) (Nat.le_of_ble_eq_true rfl) (nc_s29_28 _ _) dd_M_print_27 (fun H locs hat => ?_)
    refine lv_aload_n C.x C.b dd_M_print_30 rfl (lv_at hl 0 rfl) ?_
    refine lv_iconst (v := np_i 0) C.x C.b dd_M_print_31 rfl ?_
    refine np_put C i_M t_M tok_M n_M hat 29 (nc_o29 _) rfl 27 (by decide) tw_950 rfl rfl (by decide +kernel) (np_narI 0) (np_fitI 0) (Nat.le_of_ble_eq_true rfl) (nc_s29_27 _ _) dd_M_print_32 (fun H locs hat => ?_)
    refine lv_aload_n C.x C.b dd_M_print_35 rfl (lv_at hl 0 rfl) ?_
    refine lv_iconst (v := np_i 0) C.x C.b dd_M_print_36 rfl ?_
    refine np_callVv (As := [.int (np_i 0)]) (rest := []) C (c_M_puts l 0 _) np_allgood tw_1159 tw_1161 tp_46 tw_8 tw_1162 (nA := 1) (by decide +kernel) rfl ⟨rfl, rfl, Nat.le_of_ble_eq_true rfl, Nat.le_of_ble_eq_true rfl⟩ (va_recv C.k hat.1 (ci := 6) (q0 := 29) rfl (nc_o29 _)) hat rfl hl.1 (Nat.le_of_ble_eq_true rfl) dd_M_print_37 hf (fun o4 H locs hf hat => ?_)
    exact w_f_M_print_40 C hQ  20000  _ _ _ _ hf hat (lv_sub hl [0] rfl)
  · refine lv_iconst (v := np_i 0) C.x C.b dd_M_print_23 rfl ?_
    exact hQ _ _ _ _ _ dd_M_print_24 hf hat
set_option maxHeartbeats 4000000 in
set_option maxRecDepth 100000 in
theorem w_f_M_print (C : np_Cx gA p R s m args c D np_cl (np_ty cA) A np_al "NotationParseModel" prog_9_method_41_code 2 { frames := 2, cells := 0, slots := 0, locals := 50 }) (hQ : ∀ (pc : Nat) (ls : Array Slot) (H : Heap) (locs : List Loc) (v : Int) {σ : np_S}, decode prog_9_method_41_code pc = .ok (.ireturn, 1) → some (v, σ) = some out → np_At D np_cl A (nc_wd q cA) s σ H locs → W p l e R s m args below meth c H locs 0 0 Q (F0 m pc ls [.int (np_i v)]))   : ∀ (σ : np_S) (H : Heap) (locs : List Loc) (ls : Array Slot), f_M_print  σ = some out → np_At D np_cl A (nc_wd q cA) s σ H locs → lv_has ls 2 [(0, .ref (q 29))] → W p l e R s m args below meth c H locs 0 0 Q (F0 m 0 ls []) := by
  intro σ H locs ls hf hat hl
  unfold f_M_print at hf
  refine lv_aload_n C.x C.b dd_M_print_0 rfl (lv_at hl 0 rfl) ?_
  refine lv_aload_n C.x C.b dd_M_print_1 rfl (lv_at hl 0 rfl) ?_
  refine np_get (v := .int (np_i (σ 29 18))) C i_M hat.1 29 (nc_o29 _) rfl 18 (by decide) tw_941 rfl rfl dd_M_print_2 ?_
  refine np_if_ne (tgt := 12) C dd_M_print_5 (by decide) hf (fun _ hf => ?_) (fun _ hf => ?_)
  · refine lv_iconst (v := np_i 0) C.x C.b dd_M_print_12 rfl ?_
    exact w_f_M_print_13 C hQ  _ _ _ _ _ hf hat (lv_sub hl [0] rfl)
  · refine lv_iconst (v := np_i 1) C.x C.b dd_M_print_8 rfl ?_
    refine lv_goto (tgt := 13) C.x C.b dd_M_print_9 (by decide) ?_
    exact w_f_M_print_13 C hQ  _ _ _ _ _ hf hat (lv_sub hl [0] rfl)
set_option maxHeartbeats 4000000 in
set_option maxRecDepth 100000 in
theorem c_M_print (l : Launch) {gA : Nat → Nat} {D : va_G} {q : Nat → Nat} {cA : Nat → ClassId} (σ : np_S) : np_Mi gA l D np_cl (np_ty cA) (nc_wd q cA) yy_M_print (.code yy_M_print prog_9_method_41_code 2 (some .int) :: np_al) { frames := 2, cells := 0, slots := 0, locals := 50 } [.ref (q 29)] σ (f_M_print  σ) :=
  np_mki (by decide +kernel) (Nat.le_of_ble_eq_true rfl) (fun o p e R s m args below meth c Q A ls hf C hQ hat hl => w_f_M_print C hQ  σ _ _ _ hf hat (lv_sub hl [0] rfl))
set_option maxHeartbeats 4000000 in
set_option maxRecDepth 100000 in
theorem w_f_M_at_27 (C : np_Cx gA p R s m args c D np_cl (np_ty cA) A np_al "NotationParseModel" prog_9_method_42_code 2 { frames := 0, cells := 0, slots := 0, locals := 0 }) (hQ : ∀ (pc : Nat) (ls : Array Slot) (H : Heap) (locs : List Loc) (v : Int) {σ : np_S}, decode prog_9_method_42_code pc = .ok (.ireturn, 1) → some (v, σ) = some out → np_At D np_cl A (nc_wd q cA) s σ H locs → W p l e R s m args below meth c H locs 0 0 Q (F0 m pc ls [.int (np_i v)]))   : ∀ (t0 : Int) (σ : np_S) (H : Heap) (locs : List Loc) (ls : Array Slot), f_M_at_27  t0 σ = some out → np_At D np_cl A (nc_wd q cA) s σ H locs → lv_has ls 2 [] → W p l e R s m args below meth c H locs 0 0 Q (F0 m 27 ls [.int (np_i t0)]) := by
  intro t0 σ H locs ls hf hat hl
  unfold f_M_at_27 at hf
  exact hQ _ _ _ _ _ dd_M_at_27 hf hat
set_option maxHeartbeats 4000000 in
set_option maxRecDepth 100000 in
theorem w_f_M_at_17 (C : np_Cx gA p R s m args c D np_cl (np_ty cA) A np_al "NotationParseModel" prog_9_method_42_code 2 { frames := 0, cells := 0, slots := 0, locals := 0 }) (hQ : ∀ (pc : Nat) (ls : Array Slot) (H : Heap) (locs : List Loc) (v : Int) {σ : np_S}, decode prog_9_method_42_code pc = .ok (.ireturn, 1) → some (v, σ) = some out → np_At D np_cl A (nc_wd q cA) s σ H locs → W p l e R s m args below meth c H locs 0 0 Q (F0 m pc ls [.int (np_i v)]))   : ∀ (σ : np_S) (H : Heap) (locs : List Loc) (ls : Array Slot), f_M_at_17  σ = some out → np_At D np_cl A (nc_wd q cA) s σ H locs → lv_has ls 2 [] → W p l e R s m args below meth c H locs 0 0 Q (F0 m 17 ls []) := by
  intro σ H locs ls hf hat hl
  unfold f_M_at_17 at hf
  refine lv_iconst (v := np_i (-1)) C.x C.b dd_M_at_17 rfl ?_
  refine lv_goto (tgt := 27) C.x C.b dd_M_at_18 (by decide) ?_
  exact w_f_M_at_27 C hQ  _ _ _ _ _ hf hat (lv_sub hl [] rfl)
set_option maxHeartbeats 4000000 in
set_option maxRecDepth 100000 in
theorem w_f_M_at (C : np_Cx gA p R s m args c D np_cl (np_ty cA) A np_al "NotationParseModel" prog_9_method_42_code 2 { frames := 0, cells := 0, slots := 0, locals := 0 }) (hQ : ∀ (pc : Nat) (ls : Array Slot) (H : Heap) (locs : List Loc) (v : Int) {σ : np_S}, decode prog_9_method_42_code pc = .ok (.ireturn, 1) → some (v, σ) = some out → np_At D np_cl A (nc_wd q cA) s σ H locs → W p l e R s m args below meth c H locs 0 0 Q (F0 m pc ls [.int (np_i v)]))   : ∀ (x1 : Int) (σ : np_S) (H : Heap) (locs : List Loc) (ls : Array Slot), f_M_at  x1 σ = some out → np_At D np_cl A (nc_wd q cA) s σ H locs → lv_has ls 2 [(0, .ref (q 29)), (1, .int (np_i x1))] → W p l e R s m args below meth c H locs 0 0 Q (F0 m 0 ls []) := by
  intro x1 σ H locs ls hf hat hl
  unfold f_M_at at hf
  refine lv_aload_n C.x C.b dd_M_at_0 rfl (lv_at hl 0 rfl) ?_
  refine lv_iconst (v := np_i 0) C.x C.b dd_M_at_1 rfl ?_
  refine np_put C i_M t_M tok_M n_M hat 29 (nc_o29 _) rfl 0 (by decide) tw_923 rfl rfl (by decide +kernel) (np_narI 0) (np_fitI 0) (Nat.le_of_ble_eq_true rfl) (nc_s29_0 _ _) dd_M_at_2 (fun H locs hat => ?_)
  refine lv_iload_n C.x C.b dd_M_at_5 rfl (lv_at hl 1 rfl) ?_
  refine np_if_lt (tgt := 17) C dd_M_at_6 (by decide) hf (fun _ hf => ?_) (fun _ hf => ?_)
  · exact w_f_M_at_17 C hQ   _ _ _ _ hf hat (lv_sub hl [] rfl)
  · refine lv_iload_n C.x C.b dd_M_at_9 rfl (lv_at hl 1 rfl) ?_
    refine lv_aload_n C.x C.b dd_M_at_10 rfl (lv_at hl 0 rfl) ?_
    refine np_get (v := .int (np_i ((np_st σ 29 0 0) 29 28))) C i_M hat.1 29 (nc_o29 _) rfl 28 (by decide) tw_951 rfl rfl dd_M_at_11 ?_
    refine np_icmp_lt (tgt := 21) C dd_M_at_14 (by decide) hf (fun _ hf => ?_) (fun _ hf => ?_)
    · refine lv_aload_n C.x C.b dd_M_at_21 rfl (lv_at hl 0 rfl) ?_
      refine np_get (v := .ref (q 49)) C i_M hat.1 29 (nc_o29 _) rfl 29 (by decide) tw_952 rfl rfl dd_M_at_22 ?_
      refine lv_iload_n C.x C.b dd_M_at_25 rfl (lv_at hl 1 rfl) ?_
      refine np_iaload C hat.1 49 (nc_a49 _) 0 rfl (by decide) dd_M_at_26 hf (fun hf => ?_)
      exact w_f_M_at_27 C hQ  _ _ _ _ _ hf hat (lv_sub hl [] rfl)
    · exact w_f_M_at_17 C hQ   _ _ _ _ hf hat (lv_sub hl [] rfl)
set_option maxHeartbeats 4000000 in
set_option maxRecDepth 100000 in
theorem c_M_at (l : Launch) {gA : Nat → Nat} {D : va_G} {q : Nat → Nat} {cA : Nat → ClassId} (x1 : Int) (σ : np_S) : np_Mi gA l D np_cl (np_ty cA) (nc_wd q cA) yy_M_at (.code yy_M_at prog_9_method_42_code 2 (some .int) :: np_al) { frames := 0, cells := 0, slots := 0, locals := 0 } [.ref (q 29), .int (np_i x1)] σ (f_M_at x1 σ) :=
  np_mki (by decide +kernel) (Nat.le_of_ble_eq_true rfl) (fun o p e R s m args below meth c Q A ls hf C hQ hat hl => w_f_M_at C hQ x1 σ _ _ _ hf hat (lv_sub hl [0, 1] rfl))
set_option maxHeartbeats 4000000 in
set_option maxRecDepth 100000 in
theorem w_f_M_isKey_30 (C : np_Cx gA p R s m args c D np_cl (np_ty cA) A np_al "NotationParseModel" prog_9_method_43_code 4 { frames := 3, cells := 0, slots := 0, locals := 65 }) (hQ : ∀ (pc : Nat) (ls : Array Slot) (H : Heap) (locs : List Loc) (v : Int) {σ : np_S}, decode prog_9_method_43_code pc = .ok (.ireturn, 1) → np_ck (v = 0 ∨ v = 1) (some (v, σ)) = some out → np_At D np_cl A (nc_wd q cA) s σ H locs → W p l e R s m args below meth c H locs 0 0 Q (F0 m pc ls [.int (np_i v)]))   : ∀ (t0 : Int) (σ : np_S) (H : Heap) (locs : List Loc) (ls : Array Slot), f_M_isKey_30  t0 σ = some out → np_At D np_cl A (nc_wd q cA) s σ H locs → lv_has ls 4 [] → W p l e R s m args below meth c H locs 0 0 Q (F0 m 30 ls [.int (np_i t0)]) := by
  intro t0 σ H locs ls hf hat hl
  unfold f_M_isKey_30 at hf
  exact hQ _ _ _ _ _ dd_M_isKey_30 hf hat
set_option maxHeartbeats 4000000 in
set_option maxRecDepth 100000 in
theorem w_f_M_isKey_29 (C : np_Cx gA p R s m args c D np_cl (np_ty cA) A np_al "NotationParseModel" prog_9_method_43_code 4 { frames := 3, cells := 0, slots := 0, locals := 65 }) (hQ : ∀ (pc : Nat) (ls : Array Slot) (H : Heap) (locs : List Loc) (v : Int) {σ : np_S}, decode prog_9_method_43_code pc = .ok (.ireturn, 1) → np_ck (v = 0 ∨ v = 1) (some (v, σ)) = some out → np_At D np_cl A (nc_wd q cA) s σ H locs → W p l e R s m args below meth c H locs 0 0 Q (F0 m pc ls [.int (np_i v)]))   : ∀ (σ : np_S) (H : Heap) (locs : List Loc) (ls : Array Slot), f_M_isKey_29  σ = some out → np_At D np_cl A (nc_wd q cA) s σ H locs → lv_has ls 4 [] → W p l e R s m args below meth c H locs 0 0 Q (F0 m 29 ls []) := by
  intro σ H locs ls hf hat hl
  unfold f_M_isKey_29 at hf
  refine lv_iconst (v := np_i 0) C.x C.b dd_M_isKey_29 rfl ?_
  exact w_f_M_isKey_30 C hQ  _ _ _ _ _ hf hat (lv_sub hl [] rfl)
set_option maxHeartbeats 4000000 in
set_option maxRecDepth 100000 in
theorem w_f_M_isKey (C : np_Cx gA p R s m args c D np_cl (np_ty cA) A np_al "NotationParseModel" prog_9_method_43_code 4 { frames := 3, cells := 0, slots := 0, locals := 65 }) (hQ : ∀ (pc : Nat) (ls : Array Slot) (H : Heap) (locs : List Loc) (v : Int) {σ : np_S}, decode prog_9_method_43_code pc = .ok (.ireturn, 1) → np_ck (v = 0 ∨ v = 1) (some (v, σ)) = some out → np_At D np_cl A (nc_wd q cA) s σ H locs → W p l e R s m args below meth c H locs 0 0 Q (F0 m pc ls [.int (np_i v)]))   : ∀ (x1 x3 : Int) (σ : np_S) (H : Heap) (locs : List Loc) (ls : Array Slot), f_M_isKey  x1 x3 σ = some out → np_At D np_cl A (nc_wd q cA) s σ H locs → lv_has ls 4 [(0, .ref (q 29)), (1, .long (np_l x1)), (3, .int (np_i x3))] → W p l e R s m args below meth c H locs 0 0 Q (F0 m 0 ls []) := by
  intro x1 x3 σ H locs ls hf hat hl
  unfold f_M_isKey at hf
  refine lv_aload_n C.x C.b dd_M_isKey_0 rfl (lv_at hl 0 rfl) ?_
  refine lv_iconst (v := np_i 0) C.x C.b dd_M_isKey_1 rfl ?_
  refine np_put C i_M t_M tok_M n_M hat 29 (nc_o29 _) rfl 0 (by decide) tw_923 rfl rfl (by decide +kernel) (np_narI 0) (np_fitI 0) (Nat.le_of_ble_eq_true rfl) (nc_s29_0 _ _) dd_M_isKey_2 (fun H locs hat => ?_)
  refine lv_lload_n C.x C.b dd_M_isKey_5 rfl (lv_at hl 1 rfl) ?_
  refine lv_iload_n C.x C.b dd_M_isKey_6 rfl (lv_at hl 2 rfl) ?_
  refine np_callSi (As := [.long (np_l x1), .int (np_i x3)]) (rest := []) C (c_M_isWord l x1 x3 _) np_allgood tw_1034 tw_1035 tw_8 tw_1036 (nA := 2) (by decide +kernel) rfl ⟨rfl, rfl, Nat.le_of_ble_eq_true rfl, Nat.le_of_ble_eq_true rfl⟩ hat rfl hl.1 (Nat.le_of_ble_eq_true rfl) dd_M_isKey_7 hf (fun o1 H locs hf hat => ?_)
  refine np_if_eq (tgt := 29) C dd_M_isKey_10 (by decide) hf (fun _ hf => ?_) (fun _ hf => ?_)
  · exact w_f_M_isKey_29 C hQ   _ _ _ _ hf hat (lv_sub hl [] rfl)
  · refine lv_aload_n C.x C.b dd_M_isKey_13 rfl (lv_at hl 0 rfl) ?_
    refine lv_lload_n C.x C.b dd_M_isKey_14 rfl (lv_at hl 1 rfl) ?_
    refine lv_iload_n C.x C.b dd_M_isKey_15 rfl (lv_at hl 2 rfl) ?_
    refine np_callSl (As := [.long (np_l x1), .int (np_i x3)]) (rest := [.ref (q 29)]) C (c_M_lowest l x1 x3 _) np_allgood tw_1050 tw_1051 tw_8 tw_1052 (nA := 2) (by decide +kernel) rfl ⟨rfl, rfl, Nat.le_of_ble_eq_true rfl, Nat.le_of_ble_eq_true rfl⟩ hat rfl hl.1 (Nat.le_of_ble_eq_true rfl) dd_M_isKey_16 hf (fun o2 H locs hf hat => ?_)
    refine np_callVi (As := [.long (np_l o2.1)]) (rest := []) C (c_M_isKeyWord l o2.1 _) np_allgood tw_1099 tw_1101 tp_34 tw_8 tw_1102 (nA := 1) (by decide +kernel) rfl ⟨rfl, rfl, Nat.le_of_ble_eq_true rfl, Nat.le_of_ble_eq_true rfl⟩ (va_recv C.k hat.1 (ci := 6) (q0 := 29) rfl (nc_o29 _)) hat rfl hl.1 (Nat.le_of_ble_eq_true rfl) dd_M_isKey_19 hf (fun o3 H locs hf hat => ?_)
    refine np_if_eq (tgt := 29) C dd_M_isKey_22 (by decide) hf (fun _ hf => ?_) (fun _ hf => ?_)
    · exact w_f_M_isKey_29 C hQ   _ _ _ _ hf hat (lv_sub hl [] rfl)
    · refine lv_iconst (v := np_i 1) C.x C.b dd_M_isKey_25 rfl ?_
      refine lv_goto (tgt := 30) C.x C.b dd_M_isKey_26 (by decide) ?_
      exact w_f_M_isKey_30 C hQ  _ _ _ _ _ hf hat (lv_sub hl [] rfl)
set_option maxHeartbeats 4000000 in
set_option maxRecDepth 100000 in
theorem c_M_isKey (l : Launch) {gA : Nat → Nat} {D : va_G} {q : Nat → Nat} {cA : Nat → ClassId} (x1 x3 : Int) (σ : np_S) : np_Mi gA l D np_cl (np_ty cA) (nc_wd q cA) yy_M_isKey (.code yy_M_isKey prog_9_method_43_code 4 (some .boolean) :: np_al) { frames := 3, cells := 0, slots := 0, locals := 65 } [.ref (q 29), .long (np_l x1), .int (np_i x3)] σ (f_M_isKey x1 x3 σ) :=
  np_mkz (by decide +kernel) (Nat.le_of_ble_eq_true rfl) (fun o p e R s m args below meth c Q A ls hf C hQ hat hl => w_f_M_isKey C hQ x1 x3 σ _ _ _ hf hat (lv_sub hl [0, 1, 2] rfl))
set_option maxHeartbeats 4000000 in
set_option maxRecDepth 100000 in
theorem w_f_M_about (C : np_Cx gA p R s m args c D np_cl (np_ty cA) A np_al "NotationParseModel" prog_9_method_44_code 2 { frames := 0, cells := 0, slots := 0, locals := 0 }) (hQ : ∀ (pc : Nat) (ls : Array Slot) (H : Heap) (locs : List Loc) (v : Int) {σ : np_S}, decode prog_9_method_44_code pc = .ok (.ireturn, 1) → some (v, σ) = some out → np_At D np_cl A (nc_wd q cA) s σ H locs → W p l e R s m args below meth c H locs 0 0 Q (F0 m pc ls [.int (np_i v)]))   : ∀ (x1 : Int) (σ : np_S) (H : Heap) (locs : List Loc) (ls : Array Slot), f_M_about  x1 σ = some out → np_At D np_cl A (nc_wd q cA) s σ H locs → lv_has ls 2 [(0, .ref (q 29)), (1, .int (np_i x1))] → W p l e R s m args below meth c H locs 0 0 Q (F0 m 0 ls []) := by
  intro x1 σ H locs ls hf hat hl
  unfold f_M_about at hf
  refine lv_aload_n C.x C.b dd_M_about_0 rfl (lv_at hl 0 rfl) ?_
  refine lv_iconst (v := np_i 0) C.x C.b dd_M_about_1 rfl ?_
  refine np_put C i_M t_M tok_M n_M hat 29 (nc_o29 _) rfl 0 (by decide) tw_923 rfl rfl (by decide +kernel) (np_narI 0) (np_fitI 0) (Nat.le_of_ble_eq_true rfl) (nc_s29_0 _ _) dd_M_about_2 (fun H locs hat => ?_)
  refine lv_iload_n C.x C.b dd_M_about_5 rfl (lv_at hl 1 rfl) ?_
  obtain ⟨hR, hf⟩ := np_ck_e hf
  refine np_case hf (fun hx hf => ?_) (fun n0 hf => ?_)
  · refine np_tswI (tgt := 40) (off := 34) C dd_M_about_6 hx (by decide +kernel) (by decide +kernel) (by decide +kernel) (by decide) ?_
    refine lv_aload_n C.x C.b dd_M_about_40 rfl (lv_at hl 0 rfl) ?_
    refine np_get (v := .int (np_i ((np_st σ 29 0 0) 29 2))) C i_M hat.1 29 (nc_o29 _) rfl 2 (by decide) tw_925 rfl rfl dd_M_about_41 ?_
    exact hQ _ _ _ _ _ dd_M_about_44 hf hat
  refine np_case hf (fun hx hf => ?_) (fun n1 hf => ?_)
  · refine np_tswI (tgt := 45) (off := 39) C dd_M_about_6 hx (by decide +kernel) (by decide +kernel) (by decide +kernel) (by decide) ?_
    refine lv_aload_n C.x C.b dd_M_about_45 rfl (lv_at hl 0 rfl) ?_
    refine np_get (v := .int (np_i ((np_st σ 29 0 0) 29 1))) C i_M hat.1 29 (nc_o29 _) rfl 1 (by decide) tw_924 rfl rfl dd_M_about_46 ?_
    exact hQ _ _ _ _ _ dd_M_about_49 hf hat
  refine np_case hf (fun hx hf => ?_) (fun n2 hf => ?_)
  · refine np_tswI (tgt := 50) (off := 44) C dd_M_about_6 hx (by decide +kernel) (by decide +kernel) (by decide +kernel) (by decide) ?_
    refine lv_aload_n C.x C.b dd_M_about_50 rfl (lv_at hl 0 rfl) ?_
    refine np_get (v := .int (np_i ((np_st σ 29 0 0) 29 8))) C i_M hat.1 29 (nc_o29 _) rfl 8 (by decide) tw_931 rfl rfl dd_M_about_51 ?_
    exact hQ _ _ _ _ _ dd_M_about_54 hf hat
  refine np_case hf (fun hx hf => ?_) (fun n3 hf => ?_)
  · refine np_tswI (tgt := 55) (off := 49) C dd_M_about_6 hx (by decide +kernel) (by decide +kernel) (by decide +kernel) (by decide) ?_
    refine lv_aload_n C.x C.b dd_M_about_55 rfl (lv_at hl 0 rfl) ?_
    refine np_get (v := .int (np_i ((np_st σ 29 0 0) 29 18))) C i_M hat.1 29 (nc_o29 _) rfl 18 (by decide) tw_941 rfl rfl dd_M_about_56 ?_
    exact hQ _ _ _ _ _ dd_M_about_59 hf hat
  refine np_case hf (fun hx hf => ?_) (fun n4 hf => ?_)
  · refine np_tswI (tgt := 60) (off := 54) C dd_M_about_6 hx (by decide +kernel) (by decide +kernel) (by decide +kernel) (by decide) ?_
    refine lv_aload_n C.x C.b dd_M_about_60 rfl (lv_at hl 0 rfl) ?_
    refine np_get (v := .int (np_i ((np_st σ 29 0 0) 29 28))) C i_M hat.1 29 (nc_o29 _) rfl 28 (by decide) tw_951 rfl rfl dd_M_about_61 ?_
    exact hQ _ _ _ _ _ dd_M_about_64 hf hat
  refine np_tswO (tgt := 65) C dd_M_about_6 hR (by omega) (by decide) ?_
  refine lv_iconst (v := np_i (-1)) C.x C.b dd_M_about_65 rfl ?_
  exact hQ _ _ _ _ _ dd_M_about_66 hf hat
set_option maxHeartbeats 4000000 in
set_option maxRecDepth 100000 in
theorem c_M_about (l : Launch) {gA : Nat → Nat} {D : va_G} {q : Nat → Nat} {cA : Nat → ClassId} (x1 : Int) (σ : np_S) : np_Mi gA l D np_cl (np_ty cA) (nc_wd q cA) yy_M_about (.code yy_M_about prog_9_method_44_code 2 (some .int) :: np_al) { frames := 0, cells := 0, slots := 0, locals := 0 } [.ref (q 29), .int (np_i x1)] σ (f_M_about x1 σ) :=
  np_mki (by decide +kernel) (Nat.le_of_ble_eq_true rfl) (fun o p e R s m args below meth c Q A ls hf C hQ hat hl => w_f_M_about C hQ x1 σ _ _ _ hf hat (lv_sub hl [0, 1] rfl))
end NW10
