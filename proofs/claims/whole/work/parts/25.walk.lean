section NW5
variable {p : Program} {l : Launch} {e : Env} {R : Room} {s : State} {m : MethodId} {args : Array Value} {below : List Frame} {meth : Method} {c : Code} {Q : State → Prop} {D : va_G} {A : Nat → Prop} {q : Nat → Nat} {cA : Nat → ClassId} {out : np_O} {gA : Nat → Nat}
set_option maxHeartbeats 4000000 in
set_option maxRecDepth 100000 in
theorem w_f_Output_addByte_33 (C : np_Cx gA p R s m args c D np_cl (np_ty cA) A np_al "NotationParse$Output" prog_4_method_4_code 2 { frames := 0, cells := 0, slots := 0, locals := 0 }) (hQ : ∀ (pc : Nat) (ls : Array Slot) (H : Heap) (locs : List Loc) {σ : np_S}, decode prog_4_method_4_code pc = .ok (.return_, 1) → some ((0 : Int), σ) = some out → np_At D np_cl A (nc_wd q cA) s σ H locs → W p l e R s m args below meth c H locs 0 0 Q (F0 m pc ls []))   : ∀ (σ : np_S) (H : Heap) (locs : List Loc) (ls : Array Slot), f_Output_addByte_33  σ = some out → np_At D np_cl A (nc_wd q cA) s σ H locs → lv_has ls 2 [] → W p l e R s m args below meth c H locs 0 0 Q (F0 m 33 ls []) := by
  intro σ H locs ls hf hat hl
  unfold f_Output_addByte_33 at hf
  exact hQ _ _ _ _ dd_Output_addByte_33 hf hat
set_option maxHeartbeats 4000000 in
set_option maxRecDepth 100000 in
theorem w_f_Output_addByte (C : np_Cx gA p R s m args c D np_cl (np_ty cA) A np_al "NotationParse$Output" prog_4_method_4_code 2 { frames := 0, cells := 0, slots := 0, locals := 0 }) (hQ : ∀ (pc : Nat) (ls : Array Slot) (H : Heap) (locs : List Loc) {σ : np_S}, decode prog_4_method_4_code pc = .ok (.return_, 1) → some ((0 : Int), σ) = some out → np_At D np_cl A (nc_wd q cA) s σ H locs → W p l e R s m args below meth c H locs 0 0 Q (F0 m pc ls []))   : ∀ (x1 : Int) (σ : np_S) (H : Heap) (locs : List Loc) (ls : Array Slot), f_Output_addByte  x1 σ = some out → np_At D np_cl A (nc_wd q cA) s σ H locs → lv_has ls 2 [(0, .ref (q 26)), (1, .int (np_i x1))] → W p l e R s m args below meth c H locs 0 0 Q (F0 m 0 ls []) := by
  intro x1 σ H locs ls hf hat hl
  unfold f_Output_addByte at hf
  refine lv_aload_n C.x C.b dd_Output_addByte_0 rfl (lv_at hl 0 rfl) ?_
  refine np_get (v := .int (np_i (σ 26 1))) C i_Output hat.1 26 (nc_o26 _) rfl 1 (by decide) tw_197 rfl rfl dd_Output_addByte_1 ?_
  refine lv_aload_n C.x C.b dd_Output_addByte_4 rfl (lv_at hl 0 rfl) ?_
  refine np_get (v := .ref (q 27)) C i_Output hat.1 26 (nc_o26 _) rfl 0 (by decide) tw_195 rfl rfl dd_Output_addByte_5 ?_
  refine np_alen (n := 230) C hat.1 27 (nc_a27 _) 2 rfl (show Int32.ofNat 230 = np_i 230 by decide +kernel) dd_Output_addByte_8 ?_
  refine np_icmp_ge (tgt := 33) C dd_Output_addByte_9 (by decide) hf (fun _ hf => ?_) (fun _ hf => ?_)
  · exact w_f_Output_addByte_33 C hQ   _ _ _ _ hf hat (lv_sub hl [] rfl)
  · refine lv_aload_n C.x C.b dd_Output_addByte_12 rfl (lv_at hl 0 rfl) ?_
    refine np_get (v := .ref (q 27)) C i_Output hat.1 26 (nc_o26 _) rfl 0 (by decide) tw_195 rfl rfl dd_Output_addByte_13 ?_
    refine lv_aload_n C.x C.b dd_Output_addByte_16 rfl (lv_at hl 0 rfl) ?_
    refine np_get (v := .int (np_i (σ 26 1))) C i_Output hat.1 26 (nc_o26 _) rfl 1 (by decide) tw_197 rfl rfl dd_Output_addByte_17 ?_
    refine lv_iload_n C.x C.b dd_Output_addByte_20 rfl (lv_at hl 1 rfl) ?_
    refine np_i2b C dd_Output_addByte_21 ?_
    refine np_bastore C hat 27 (nc_a27 _) 2 rfl (by decide) (nc_s27 _ _ _) dd_Output_addByte_22 hf (fun H locs hat hf => ?_)
    refine lv_aload_n C.x C.b dd_Output_addByte_23 rfl (lv_at hl 0 rfl) ?_
    refine lv_dup C.x C.b dd_Output_addByte_24 rfl ?_
    refine np_get (v := .int (np_i ((np_st σ 27 (σ 26 1) (Int.bmod (Int.bmod x1 256) 256)) 26 1))) C i_Output hat.1 26 (nc_o26 _) rfl 1 (by decide) tw_197 rfl rfl dd_Output_addByte_25 ?_
    refine lv_iconst (v := np_i 1) C.x C.b dd_Output_addByte_28 rfl ?_
    refine np_iadd C dd_Output_addByte_29 ?_
    refine np_put C i_Output t_Output tok_Output n_Output hat 26 (nc_o26 _) rfl 1 (by decide) tw_197 rfl rfl (by decide +kernel) (np_narI (((np_st σ 27 (σ 26 1) (Int.bmod (Int.bmod x1 256) 256)) 26 1) + 1)) (np_fitI (((np_st σ 27 (σ 26 1) (Int.bmod (Int.bmod x1 256) 256)) 26 1) + 1)) (Nat.le_of_ble_eq_true rfl) (nc_s26_1 _ _) dd_Output_addByte_30 (fun H locs hat => ?_)
    exact w_f_Output_addByte_33 C hQ   _ _ _ _ hf hat (lv_sub hl [] rfl)
set_option maxHeartbeats 4000000 in
set_option maxRecDepth 100000 in
theorem c_Output_addByte (l : Launch) {gA : Nat → Nat} {D : va_G} {q : Nat → Nat} {cA : Nat → ClassId} (x1 : Int) (σ : np_S) : np_Mv gA l D np_cl (np_ty cA) (nc_wd q cA) yy_Output_addByte (.code yy_Output_addByte prog_4_method_4_code 2 none :: np_al) { frames := 0, cells := 0, slots := 0, locals := 0 } [.ref (q 26), .int (np_i x1)] σ (f_Output_addByte x1 σ) :=
  np_mkv (by decide +kernel) (Nat.le_of_ble_eq_true rfl) (fun o p e R s m args below meth c Q A ls hf C hQ hat hl => w_f_Output_addByte C hQ x1 σ _ _ _ hf hat (lv_sub hl [0, 1] rfl))
set_option maxHeartbeats 4000000 in
set_option maxRecDepth 100000 in
theorem w_f_Output_writeWord_25 (C : np_Cx gA p R s m args c D np_cl (np_ty cA) A np_al "NotationParse$Output" prog_4_method_3_code 5 { frames := 1, cells := 0, slots := 0, locals := 22 }) (hQ : ∀ (pc : Nat) (ls : Array Slot) (H : Heap) (locs : List Loc) {σ : np_S}, decode prog_4_method_3_code pc = .ok (.return_, 1) → some ((0 : Int), σ) = some out → np_At D np_cl A (nc_wd q cA) s σ H locs → W p l e R s m args below meth c H locs 0 0 Q (F0 m pc ls [])) {k3 : (Int → Int → np_S → Option np_O)} (h3 : ∀ (x1 x3 : Int) (σ : np_S) (H : Heap) (locs : List Loc) (ls : Array Slot), k3 x1 x3 σ = some out → np_At D np_cl A (nc_wd q cA) s σ H locs → lv_has ls 5 [(0, .ref (q 26)), (1, .long (np_l x1)), (3, .int (np_i x3))] → W p l e R s m args below meth c H locs 0 0 Q (F0 m 3 ls [])) : ∀ (x1 x3 : Int) (σ : np_S) (H : Heap) (locs : List Loc) (ls : Array Slot), f_Output_writeWord_25 k3 x1 x3 σ = some out → np_At D np_cl A (nc_wd q cA) s σ H locs → lv_has ls 5 [(0, .ref (q 26)), (1, .long (np_l x1)), (3, .int (np_i x3))] → W p l e R s m args below meth c H locs 0 0 Q (F0 m 25 ls []) := by
  intro x1 x3 σ H locs ls hf hat hl
  unfold f_Output_writeWord_25 at hf
  refine lv_iinc (v := np_i (x3 + (-1))) (lv' := [(3, .int (np_i (x3 + (-1)))), (0, .ref (q 26)), (1, .long (np_l x1))]) C.x C.b dd_Output_writeWord_25 hl (k := 2) rfl (np_inc _ _) (by decide) rfl (fun ls hl => ?_)
  refine lv_goto (tgt := 3) C.x C.b dd_Output_writeWord_28 (by decide) ?_
  exact h3 _ _ _ _ _ _ hf hat (lv_sub hl [1, 2, 0] rfl)
set_option maxHeartbeats 4000000 in
set_option maxRecDepth 100000 in
theorem w_f_Output_writeWord_3 (C : np_Cx gA p R s m args c D np_cl (np_ty cA) A np_al "NotationParse$Output" prog_4_method_3_code 5 { frames := 1, cells := 0, slots := 0, locals := 22 }) (hQ : ∀ (pc : Nat) (ls : Array Slot) (H : Heap) (locs : List Loc) {σ : np_S}, decode prog_4_method_3_code pc = .ok (.return_, 1) → some ((0 : Int), σ) = some out → np_At D np_cl A (nc_wd q cA) s σ H locs → W p l e R s m args below meth c H locs 0 0 Q (F0 m pc ls []))   : ∀ (n : Nat), ∀ (x1 x3 : Int) (σ : np_S) (H : Heap) (locs : List Loc) (ls : Array Slot), f_Output_writeWord_3  n x1 x3 σ = some out → np_At D np_cl A (nc_wd q cA) s σ H locs → lv_has ls 5 [(0, .ref (q 26)), (1, .long (np_l x1)), (3, .int (np_i x3))] → W p l e R s m args below meth c H locs 0 0 Q (F0 m 3 ls []) := by
  intro n
  induction n with
  | zero => intro x1 x3 σ H locs ls hf; cases hf
  | succ n ih =>
    intro x1 x3 σ H locs ls hf hat hl
    have h3 := ih
    have hf : f_Output_writeWord_3_b  (fun x1 x3 σ => f_Output_writeWord_3  n x1 x3 σ) x1 x3 σ = some out := hf
    unfold f_Output_writeWord_3_b at hf
    refine lv_iload_n C.x C.b dd_Output_writeWord_3 rfl (lv_at hl 2 rfl) ?_
    refine np_if_lt (tgt := 31) C dd_Output_writeWord_4 (by decide) hf (fun _ hf => ?_) (fun _ hf => ?_)
    · exact hQ _ _ _ _ dd_Output_writeWord_31 hf hat
    · refine lv_lload_n C.x C.b dd_Output_writeWord_7 rfl (lv_at hl 1 rfl) ?_
      refine lv_iload_n C.x C.b dd_Output_writeWord_8 rfl (lv_at hl 2 rfl) ?_
      refine np_callSi (As := [.long (np_l x1), .int (np_i x3)]) (rest := []) C (c_Spelling_byteOf l x1 x3 _) np_allgood tw_915 tw_235 tw_14 tw_236 (nA := 2) (by decide +kernel) rfl ⟨rfl, rfl, Nat.le_of_ble_eq_true rfl, Nat.le_of_ble_eq_true rfl⟩ hat rfl hl.1 (Nat.le_of_ble_eq_true rfl) dd_Output_writeWord_9 hf (fun o1 H locs hf hat => ?_)
      refine lv_istore (lv' := [(4, .int (np_i o1.1)), (0, .ref (q 26)), (1, .long (np_l x1)), (3, .int (np_i x3))]) C.x C.b dd_Output_writeWord_12 hl (by decide) rfl (fun ls hl => ?_)
      refine lv_iload C.x C.b dd_Output_writeWord_14 (lv_at hl 0 rfl) ?_
      refine np_if_eq (tgt := 25) C dd_Output_writeWord_16 (by decide) hf (fun _ hf => ?_) (fun _ hf => ?_)
      · exact w_f_Output_writeWord_25 C hQ h3 _ _ _ _ _ _ hf hat (lv_sub hl [1, 2, 3] rfl)
      · refine lv_aload_n C.x C.b dd_Output_writeWord_19 rfl (lv_at hl 1 rfl) ?_
        refine lv_iload C.x C.b dd_Output_writeWord_20 (lv_at hl 0 rfl) ?_
        refine np_callVv (As := [.int (np_i o1.1)]) (rest := []) C (c_Output_addByte l o1.1 _) np_allgood tw_907 tw_909 tp_26 tw_7 tw_910 (nA := 1) (by decide +kernel) rfl ⟨rfl, rfl, Nat.le_of_ble_eq_true rfl, Nat.le_of_ble_eq_true rfl⟩ (va_recv C.k hat.1 (ci := 5) (q0 := 26) rfl (nc_o26 _)) hat rfl hl.1 (Nat.le_of_ble_eq_true rfl) dd_Output_writeWord_22 hf (fun o2 H locs hf hat => ?_)
        exact w_f_Output_writeWord_25 C hQ h3 _ _ _ _ _ _ hf hat (lv_sub hl [1, 2, 3] rfl)
set_option maxHeartbeats 4000000 in
set_option maxRecDepth 100000 in
theorem w_f_Output_writeWord (C : np_Cx gA p R s m args c D np_cl (np_ty cA) A np_al "NotationParse$Output" prog_4_method_3_code 5 { frames := 1, cells := 0, slots := 0, locals := 22 }) (hQ : ∀ (pc : Nat) (ls : Array Slot) (H : Heap) (locs : List Loc) {σ : np_S}, decode prog_4_method_3_code pc = .ok (.return_, 1) → some ((0 : Int), σ) = some out → np_At D np_cl A (nc_wd q cA) s σ H locs → W p l e R s m args below meth c H locs 0 0 Q (F0 m pc ls []))   : ∀ (x1 : Int) (σ : np_S) (H : Heap) (locs : List Loc) (ls : Array Slot), f_Output_writeWord  x1 σ = some out → np_At D np_cl A (nc_wd q cA) s σ H locs → lv_has ls 5 [(0, .ref (q 26)), (1, .long (np_l x1))] → W p l e R s m args below meth c H locs 0 0 Q (F0 m 0 ls []) := by
  intro x1 σ H locs ls hf hat hl
  unfold f_Output_writeWord at hf
  refine lv_bipush (v := np_i 7) C.x C.b dd_Output_writeWord_0 (by decide +kernel) ?_
  refine lv_istore_n (lv' := [(3, .int (np_i 7)), (0, .ref (q 26)), (1, .long (np_l x1))]) C.x C.b dd_Output_writeWord_2 rfl hl (by decide) rfl (fun ls hl => ?_)
  exact w_f_Output_writeWord_3 C hQ  20000 _ _ _ _ _ _ hf hat (lv_sub hl [1, 2, 0] rfl)
set_option maxHeartbeats 4000000 in
set_option maxRecDepth 100000 in
theorem c_Output_writeWord (l : Launch) {gA : Nat → Nat} {D : va_G} {q : Nat → Nat} {cA : Nat → ClassId} (x1 : Int) (σ : np_S) : np_Mv gA l D np_cl (np_ty cA) (nc_wd q cA) yy_Output_writeWord (.code yy_Output_writeWord prog_4_method_3_code 5 none :: np_al) { frames := 1, cells := 0, slots := 0, locals := 22 } [.ref (q 26), .long (np_l x1)] σ (f_Output_writeWord x1 σ) :=
  np_mkv (by decide +kernel) (Nat.le_of_ble_eq_true rfl) (fun o p e R s m args below meth c Q A ls hf C hQ hat hl => w_f_Output_writeWord C hQ x1 σ _ _ _ hf hat (lv_sub hl [0, 1] rfl))
set_option maxHeartbeats 4000000 in
set_option maxRecDepth 100000 in
theorem w_f_Output_writeWords_46 (C : np_Cx gA p R s m args c D np_cl (np_ty cA) A np_al "NotationParse$Output" prog_4_method_2_code 4 { frames := 2, cells := 0, slots := 0, locals := 46 }) (hQ : ∀ (pc : Nat) (ls : Array Slot) (H : Heap) (locs : List Loc) {σ : np_S}, decode prog_4_method_2_code pc = .ok (.return_, 1) → some ((0 : Int), σ) = some out → np_At D np_cl A (nc_wd q cA) s σ H locs → W p l e R s m args below meth c H locs 0 0 Q (F0 m pc ls [])) {k7 : (Int → Int → np_S → Option np_O)} (h7 : ∀ (x2 x3 : Int) (σ : np_S) (H : Heap) (locs : List Loc) (ls : Array Slot), k7 x2 x3 σ = some out → np_At D np_cl A (nc_wd q cA) s σ H locs → lv_has ls 4 [(0, .ref (q 26)), (1, .ref (q 6)), (2, .int (np_i x2)), (3, .int (np_i x3))] → W p l e R s m args below meth c H locs 0 0 Q (F0 m 7 ls [])) : ∀ (x2 x3 : Int) (σ : np_S) (H : Heap) (locs : List Loc) (ls : Array Slot), f_Output_writeWords_46 k7 x2 x3 σ = some out → np_At D np_cl A (nc_wd q cA) s σ H locs → lv_has ls 4 [(0, .ref (q 26)), (1, .ref (q 6)), (2, .int (np_i x2)), (3, .int (np_i x3))] → W p l e R s m args below meth c H locs 0 0 Q (F0 m 46 ls []) := by
  intro x2 x3 σ H locs ls hf hat hl
  unfold f_Output_writeWords_46 at hf
  refine lv_iinc (v := np_i (x3 + 1)) (lv' := [(3, .int (np_i (x3 + 1))), (0, .ref (q 26)), (1, .ref (q 6)), (2, .int (np_i x2))]) C.x C.b dd_Output_writeWords_46 hl (k := 3) rfl (np_inc _ _) (by decide) rfl (fun ls hl => ?_)
  refine lv_goto (tgt := 7) C.x C.b dd_Output_writeWords_49 (by decide) ?_
  exact h7 _ _ _ _ _ _ hf hat (lv_sub hl [1, 2, 3, 0] rfl)
set_option maxHeartbeats 4000000 in
set_option maxRecDepth 100000 in
theorem w_f_Output_writeWords_36 (C : np_Cx gA p R s m args c D np_cl (np_ty cA) A np_al "NotationParse$Output" prog_4_method_2_code 4 { frames := 2, cells := 0, slots := 0, locals := 46 }) (hQ : ∀ (pc : Nat) (ls : Array Slot) (H : Heap) (locs : List Loc) {σ : np_S}, decode prog_4_method_2_code pc = .ok (.return_, 1) → some ((0 : Int), σ) = some out → np_At D np_cl A (nc_wd q cA) s σ H locs → W p l e R s m args below meth c H locs 0 0 Q (F0 m pc ls [])) {k7 : (Int → Int → np_S → Option np_O)} (h7 : ∀ (x2 x3 : Int) (σ : np_S) (H : Heap) (locs : List Loc) (ls : Array Slot), k7 x2 x3 σ = some out → np_At D np_cl A (nc_wd q cA) s σ H locs → lv_has ls 4 [(0, .ref (q 26)), (1, .ref (q 6)), (2, .int (np_i x2)), (3, .int (np_i x3))] → W p l e R s m args below meth c H locs 0 0 Q (F0 m 7 ls [])) : ∀ (x2 x3 : Int) (σ : np_S) (H : Heap) (locs : List Loc) (ls : Array Slot), f_Output_writeWords_36 k7 x2 x3 σ = some out → np_At D np_cl A (nc_wd q cA) s σ H locs → lv_has ls 4 [(0, .ref (q 26)), (1, .ref (q 6)), (2, .int (np_i x2)), (3, .int (np_i x3))] → W p l e R s m args below meth c H locs 0 0 Q (F0 m 36 ls []) := by
  intro x2 x3 σ H locs ls hf hat hl
  unfold f_Output_writeWords_36 at hf
  refine lv_aload_n C.x C.b dd_Output_writeWords_36 rfl (lv_at hl 0 rfl) ?_
  refine lv_aload_n C.x C.b dd_Output_writeWords_37 rfl (lv_at hl 1 rfl) ?_
  refine np_get (v := .ref (q 8)) C i_Text hat.1 6 (nc_o6 _) rfl 2 (by decide) tw_89 rfl rfl dd_Output_writeWords_38 ?_
  refine lv_iload_n C.x C.b dd_Output_writeWords_41 rfl (lv_at hl 3 rfl) ?_
  refine np_laload C hat.1 8 (nc_a8 _) 1 rfl (by decide) dd_Output_writeWords_42 hf (fun hf => ?_)
  refine np_callVv (As := [.long (np_l (σ 8 x3))]) (rest := []) C (c_Output_writeWord l (σ 8 x3) _) np_allgood tw_911 tw_913 tp_27 tw_7 tw_914 (nA := 1) (by decide +kernel) rfl ⟨rfl, rfl, Nat.le_of_ble_eq_true rfl, Nat.le_of_ble_eq_true rfl⟩ (va_recv C.k hat.1 (ci := 5) (q0 := 26) rfl (nc_o26 _)) hat rfl hl.1 (Nat.le_of_ble_eq_true rfl) dd_Output_writeWords_43 hf (fun o1 H locs hf hat => ?_)
  exact w_f_Output_writeWords_46 C hQ h7 _ _ _ _ _ _ hf hat (lv_sub hl [0, 1, 2, 3] rfl)
set_option maxHeartbeats 4000000 in
set_option maxRecDepth 100000 in
theorem w_f_Output_writeWords_7 (C : np_Cx gA p R s m args c D np_cl (np_ty cA) A np_al "NotationParse$Output" prog_4_method_2_code 4 { frames := 2, cells := 0, slots := 0, locals := 46 }) (hQ : ∀ (pc : Nat) (ls : Array Slot) (H : Heap) (locs : List Loc) {σ : np_S}, decode prog_4_method_2_code pc = .ok (.return_, 1) → some ((0 : Int), σ) = some out → np_At D np_cl A (nc_wd q cA) s σ H locs → W p l e R s m args below meth c H locs 0 0 Q (F0 m pc ls []))   : ∀ (n : Nat), ∀ (x2 x3 : Int) (σ : np_S) (H : Heap) (locs : List Loc) (ls : Array Slot), f_Output_writeWords_7  n x2 x3 σ = some out → np_At D np_cl A (nc_wd q cA) s σ H locs → lv_has ls 4 [(0, .ref (q 26)), (1, .ref (q 6)), (2, .int (np_i x2)), (3, .int (np_i x3))] → W p l e R s m args below meth c H locs 0 0 Q (F0 m 7 ls []) := by
  intro n
  induction n with
  | zero => intro x2 x3 σ H locs ls hf; cases hf
  | succ n ih =>
    intro x2 x3 σ H locs ls hf hat hl
    have h7 := ih
    have hf : f_Output_writeWords_7_b  (fun x2 x3 σ => f_Output_writeWords_7  n x2 x3 σ) x2 x3 σ = some out := hf
    unfold f_Output_writeWords_7_b at hf
    refine lv_iload_n C.x C.b dd_Output_writeWords_7 rfl (lv_at hl 3 rfl) ?_
    refine lv_aload_n C.x C.b dd_Output_writeWords_8 rfl (lv_at hl 1 rfl) ?_
    refine np_get (v := .int (np_i (σ 6 5))) C i_Text hat.1 6 (nc_o6 _) rfl 5 (by decide) tw_95 rfl rfl dd_Output_writeWords_9 ?_
    refine np_icmp_ge (tgt := 52) C dd_Output_writeWords_12 (by decide) hf (fun _ hf => ?_) (fun _ hf => ?_)
    · exact hQ _ _ _ _ dd_Output_writeWords_52 hf hat
    · refine lv_iload_n C.x C.b dd_Output_writeWords_15 rfl (lv_at hl 2 rfl) ?_
      refine lv_iload_n C.x C.b dd_Output_writeWords_16 rfl (lv_at hl 3 rfl) ?_
      refine np_iushr C dd_Output_writeWords_17 ?_
      refine lv_iconst (v := np_i 1) C.x C.b dd_Output_writeWords_18 rfl ?_
      refine np_iand C dd_Output_writeWords_19 ?_
      refine np_if_ne (tgt := 46) C dd_Output_writeWords_20 (by decide) hf (fun _ hf => ?_) (fun _ hf => ?_)
      · exact w_f_Output_writeWords_46 C hQ h7 _ _ _ _ _ _ hf hat (lv_sub hl [0, 1, 2, 3] rfl)
      · refine lv_aload_n C.x C.b dd_Output_writeWords_23 rfl (lv_at hl 0 rfl) ?_
        refine np_get (v := .int (np_i (σ 26 1))) C i_Output hat.1 26 (nc_o26 _) rfl 1 (by decide) tw_197 rfl rfl dd_Output_writeWords_24 ?_
        refine np_if_le (tgt := 36) C dd_Output_writeWords_27 (by decide) hf (fun _ hf => ?_) (fun _ hf => ?_)
        · exact w_f_Output_writeWords_36 C hQ h7 _ _ _ _ _ _ hf hat (lv_sub hl [0, 1, 2, 3] rfl)
        · refine lv_aload_n C.x C.b dd_Output_writeWords_30 rfl (lv_at hl 0 rfl) ?_
          refine lv_bipush (v := np_i 32) C.x C.b dd_Output_writeWords_31 (by decide +kernel) ?_
          refine np_callVv (As := [.int (np_i 32)]) (rest := []) C (c_Output_addByte l 32 _) np_allgood tw_907 tw_909 tp_26 tw_7 tw_910 (nA := 1) (by decide +kernel) rfl ⟨rfl, rfl, Nat.le_of_ble_eq_true rfl, Nat.le_of_ble_eq_true rfl⟩ (va_recv C.k hat.1 (ci := 5) (q0 := 26) rfl (nc_o26 _)) hat rfl hl.1 (Nat.le_of_ble_eq_true rfl) dd_Output_writeWords_33 hf (fun o2 H locs hf hat => ?_)
          exact w_f_Output_writeWords_36 C hQ h7 _ _ _ _ _ _ hf hat (lv_sub hl [0, 1, 2, 3] rfl)
set_option maxHeartbeats 4000000 in
set_option maxRecDepth 100000 in
theorem w_f_Output_writeWords (C : np_Cx gA p R s m args c D np_cl (np_ty cA) A np_al "NotationParse$Output" prog_4_method_2_code 4 { frames := 2, cells := 0, slots := 0, locals := 46 }) (hQ : ∀ (pc : Nat) (ls : Array Slot) (H : Heap) (locs : List Loc) {σ : np_S}, decode prog_4_method_2_code pc = .ok (.return_, 1) → some ((0 : Int), σ) = some out → np_At D np_cl A (nc_wd q cA) s σ H locs → W p l e R s m args below meth c H locs 0 0 Q (F0 m pc ls []))   : ∀ (x2 : Int) (σ : np_S) (H : Heap) (locs : List Loc) (ls : Array Slot), f_Output_writeWords  x2 σ = some out → np_At D np_cl A (nc_wd q cA) s σ H locs → lv_has ls 4 [(0, .ref (q 26)), (1, .ref (q 6)), (2, .int (np_i x2))] → W p l e R s m args below meth c H locs 0 0 Q (F0 m 0 ls []) := by
  intro x2 σ H locs ls hf hat hl
  unfold f_Output_writeWords at hf
  refine lv_aload_n C.x C.b dd_Output_writeWords_0 rfl (lv_at hl 0 rfl) ?_
  refine lv_iconst (v := np_i 0) C.x C.b dd_Output_writeWords_1 rfl ?_
  refine np_put C i_Output t_Output tok_Output n_Output hat 26 (nc_o26 _) rfl 1 (by decide) tw_197 rfl rfl (by decide +kernel) (np_narI 0) (np_fitI 0) (Nat.le_of_ble_eq_true rfl) (nc_s26_1 _ _) dd_Output_writeWords_2 (fun H locs hat => ?_)
  refine lv_iconst (v := np_i 0) C.x C.b dd_Output_writeWords_5 rfl ?_
  refine lv_istore_n (lv' := [(3, .int (np_i 0)), (0, .ref (q 26)), (1, .ref (q 6)), (2, .int (np_i x2))]) C.x C.b dd_Output_writeWords_6 rfl hl (by decide) rfl (fun ls hl => ?_)
  exact w_f_Output_writeWords_7 C hQ  20000 _ _ _ _ _ _ hf hat (lv_sub hl [1, 2, 3, 0] rfl)
set_option maxHeartbeats 4000000 in
set_option maxRecDepth 100000 in
theorem c_Output_writeWords (l : Launch) {gA : Nat → Nat} {D : va_G} {q : Nat → Nat} {cA : Nat → ClassId} (x2 : Int) (σ : np_S) : np_Mv gA l D np_cl (np_ty cA) (nc_wd q cA) yy_Output_writeWords (.code yy_Output_writeWords prog_4_method_2_code 4 none :: np_al) { frames := 2, cells := 0, slots := 0, locals := 46 } [.ref (q 26), .ref (q 6), .int (np_i x2)] σ (f_Output_writeWords x2 σ) :=
  np_mkv (by decide +kernel) (Nat.le_of_ble_eq_true rfl) (fun o p e R s m args below meth c Q A ls hf C hQ hat hl => w_f_Output_writeWords C hQ x2 σ _ _ _ hf hat (lv_sub hl [0, 1, 2] rfl))
set_option maxHeartbeats 4000000 in
set_option maxRecDepth 100000 in
theorem w_f_N_at_28 (C : np_Cx gA p R s m args c D np_cl (np_ty cA) A np_al "NotationParse" prog_1_method_13_code 2 { frames := 0, cells := 0, slots := 0, locals := 0 }) (hQ : ∀ (pc : Nat) (ls : Array Slot) (H : Heap) (locs : List Loc) (v : Int) {σ : np_S}, decode prog_1_method_13_code pc = .ok (.ireturn, 1) → some (v, σ) = some out → np_At D np_cl A (nc_wd q cA) s σ H locs → W p l e R s m args below meth c H locs 0 0 Q (F0 m pc ls [.int (np_i v)]))   : ∀ (t0 : Int) (σ : np_S) (H : Heap) (locs : List Loc) (ls : Array Slot), f_N_at_28  t0 σ = some out → np_At D np_cl A (nc_wd q cA) s σ H locs → lv_has ls 2 [] → W p l e R s m args below meth c H locs 0 0 Q (F0 m 28 ls [.int (np_i t0)]) := by
  intro t0 σ H locs ls hf hat hl
  unfold f_N_at_28 at hf
  exact hQ _ _ _ _ _ dd_N_at_28 hf hat
set_option maxHeartbeats 4000000 in
set_option maxRecDepth 100000 in
theorem w_f_N_at_15 (C : np_Cx gA p R s m args c D np_cl (np_ty cA) A np_al "NotationParse" prog_1_method_13_code 2 { frames := 0, cells := 0, slots := 0, locals := 0 }) (hQ : ∀ (pc : Nat) (ls : Array Slot) (H : Heap) (locs : List Loc) (v : Int) {σ : np_S}, decode prog_1_method_13_code pc = .ok (.ireturn, 1) → some (v, σ) = some out → np_At D np_cl A (nc_wd q cA) s σ H locs → W p l e R s m args below meth c H locs 0 0 Q (F0 m pc ls [.int (np_i v)]))   : ∀ (σ : np_S) (H : Heap) (locs : List Loc) (ls : Array Slot), f_N_at_15  σ = some out → np_At D np_cl A (nc_wd q cA) s σ H locs → lv_has ls 2 [] → W p l e R s m args below meth c H locs 0 0 Q (F0 m 15 ls []) := by
  intro σ H locs ls hf hat hl
  unfold f_N_at_15 at hf
  refine lv_iconst (v := np_i (-1)) C.x C.b dd_N_at_15 rfl ?_
  refine lv_goto (tgt := 28) C.x C.b dd_N_at_16 (by decide) ?_
  exact w_f_N_at_28 C hQ  _ _ _ _ _ hf hat (lv_sub hl [] rfl)
set_option maxHeartbeats 4000000 in
set_option maxRecDepth 100000 in
theorem w_f_N_at (C : np_Cx gA p R s m args c D np_cl (np_ty cA) A np_al "NotationParse" prog_1_method_13_code 2 { frames := 0, cells := 0, slots := 0, locals := 0 }) (hQ : ∀ (pc : Nat) (ls : Array Slot) (H : Heap) (locs : List Loc) (v : Int) {σ : np_S}, decode prog_1_method_13_code pc = .ok (.ireturn, 1) → some (v, σ) = some out → np_At D np_cl A (nc_wd q cA) s σ H locs → W p l e R s m args below meth c H locs 0 0 Q (F0 m pc ls [.int (np_i v)]))   : ∀ (x1 : Int) (σ : np_S) (H : Heap) (locs : List Loc) (ls : Array Slot), f_N_at  x1 σ = some out → np_At D np_cl A (nc_wd q cA) s σ H locs → lv_has ls 2 [(0, .ref (q 0)), (1, .int (np_i x1))] → W p l e R s m args below meth c H locs 0 0 Q (F0 m 0 ls []) := by
  intro x1 σ H locs ls hf hat hl
  unfold f_N_at at hf
  refine lv_iload_n C.x C.b dd_N_at_0 rfl (lv_at hl 1 rfl) ?_
  refine np_if_lt (tgt := 15) C dd_N_at_1 (by decide) hf (fun _ hf => ?_) (fun _ hf => ?_)
  · exact w_f_N_at_15 C hQ   _ _ _ _ hf hat (lv_sub hl [] rfl)
  · refine lv_iload_n C.x C.b dd_N_at_4 rfl (lv_at hl 1 rfl) ?_
    refine lv_aload_n C.x C.b dd_N_at_5 rfl (lv_at hl 0 rfl) ?_
    refine np_get (v := .ref (q 26)) C i_N hat.1 0 (nc_o0 _) rfl 4 (by decide) tw_208 rfl rfl dd_N_at_6 ?_
    refine np_get (v := .int (np_i (σ 26 1))) C i_Output hat.1 26 (nc_o26 _) rfl 1 (by decide) tw_198 rfl rfl dd_N_at_9 ?_
    refine np_icmp_lt (tgt := 19) C dd_N_at_12 (by decide) hf (fun _ hf => ?_) (fun _ hf => ?_)
    · refine lv_aload_n C.x C.b dd_N_at_19 rfl (lv_at hl 0 rfl) ?_
      refine np_get (v := .ref (q 26)) C i_N hat.1 0 (nc_o0 _) rfl 4 (by decide) tw_208 rfl rfl dd_N_at_20 ?_
      refine np_get (v := .ref (q 27)) C i_Output hat.1 26 (nc_o26 _) rfl 0 (by decide) tw_196 rfl rfl dd_N_at_23 ?_
      refine lv_iload_n C.x C.b dd_N_at_26 rfl (lv_at hl 1 rfl) ?_
      refine np_baload C hat.1 27 (nc_a27 _) 2 rfl (by decide) dd_N_at_27 hf (fun hf => ?_)
      exact w_f_N_at_28 C hQ  _ _ _ _ _ hf hat (lv_sub hl [] rfl)
    · exact w_f_N_at_15 C hQ   _ _ _ _ hf hat (lv_sub hl [] rfl)
set_option maxHeartbeats 4000000 in
set_option maxRecDepth 100000 in
theorem c_N_at (l : Launch) {gA : Nat → Nat} {D : va_G} {q : Nat → Nat} {cA : Nat → ClassId} (x1 : Int) (σ : np_S) : np_Mi gA l D np_cl (np_ty cA) (nc_wd q cA) yy_N_at (.code yy_N_at prog_1_method_13_code 2 (some .int) :: np_al) { frames := 0, cells := 0, slots := 0, locals := 0 } [.ref (q 0), .int (np_i x1)] σ (f_N_at x1 σ) :=
  np_mki (by decide +kernel) (Nat.le_of_ble_eq_true rfl) (fun o p e R s m args below meth c Q A ls hf C hQ hat hl => w_f_N_at C hQ x1 σ _ _ _ hf hat (lv_sub hl [0, 1] rfl))
set_option maxHeartbeats 4000000 in
set_option maxRecDepth 100000 in
theorem w_f_N_isKey_28 (C : np_Cx gA p R s m args c D np_cl (np_ty cA) A np_al "NotationParse" prog_1_method_14_code 4 { frames := 6, cells := 0, slots := 0, locals := 135 }) (hQ : ∀ (pc : Nat) (ls : Array Slot) (H : Heap) (locs : List Loc) (v : Int) {σ : np_S}, decode prog_1_method_14_code pc = .ok (.ireturn, 1) → np_ck (v = 0 ∨ v = 1) (some (v, σ)) = some out → np_At D np_cl A (nc_wd q cA) s σ H locs → W p l e R s m args below meth c H locs 0 0 Q (F0 m pc ls [.int (np_i v)]))   : ∀ (t0 : Int) (σ : np_S) (H : Heap) (locs : List Loc) (ls : Array Slot), f_N_isKey_28  t0 σ = some out → np_At D np_cl A (nc_wd q cA) s σ H locs → lv_has ls 4 [] → W p l e R s m args below meth c H locs 0 0 Q (F0 m 28 ls [.int (np_i t0)]) := by
  intro t0 σ H locs ls hf hat hl
  unfold f_N_isKey_28 at hf
  exact hQ _ _ _ _ _ dd_N_isKey_28 hf hat
set_option maxHeartbeats 4000000 in
set_option maxRecDepth 100000 in
theorem w_f_N_isKey_27 (C : np_Cx gA p R s m args c D np_cl (np_ty cA) A np_al "NotationParse" prog_1_method_14_code 4 { frames := 6, cells := 0, slots := 0, locals := 135 }) (hQ : ∀ (pc : Nat) (ls : Array Slot) (H : Heap) (locs : List Loc) (v : Int) {σ : np_S}, decode prog_1_method_14_code pc = .ok (.ireturn, 1) → np_ck (v = 0 ∨ v = 1) (some (v, σ)) = some out → np_At D np_cl A (nc_wd q cA) s σ H locs → W p l e R s m args below meth c H locs 0 0 Q (F0 m pc ls [.int (np_i v)]))   : ∀ (σ : np_S) (H : Heap) (locs : List Loc) (ls : Array Slot), f_N_isKey_27  σ = some out → np_At D np_cl A (nc_wd q cA) s σ H locs → lv_has ls 4 [] → W p l e R s m args below meth c H locs 0 0 Q (F0 m 27 ls []) := by
  intro σ H locs ls hf hat hl
  unfold f_N_isKey_27 at hf
  refine lv_iconst (v := np_i 0) C.x C.b dd_N_isKey_27 rfl ?_
  exact w_f_N_isKey_28 C hQ  _ _ _ _ _ hf hat (lv_sub hl [] rfl)
set_option maxHeartbeats 4000000 in
set_option maxRecDepth 100000 in
theorem w_f_N_isKey (C : np_Cx gA p R s m args c D np_cl (np_ty cA) A np_al "NotationParse" prog_1_method_14_code 4 { frames := 6, cells := 0, slots := 0, locals := 135 }) (hQ : ∀ (pc : Nat) (ls : Array Slot) (H : Heap) (locs : List Loc) (v : Int) {σ : np_S}, decode prog_1_method_14_code pc = .ok (.ireturn, 1) → np_ck (v = 0 ∨ v = 1) (some (v, σ)) = some out → np_At D np_cl A (nc_wd q cA) s σ H locs → W p l e R s m args below meth c H locs 0 0 Q (F0 m pc ls [.int (np_i v)]))   : ∀ (x1 x3 : Int) (σ : np_S) (H : Heap) (locs : List Loc) (ls : Array Slot), f_N_isKey  x1 x3 σ = some out → np_At D np_cl A (nc_wd q cA) s σ H locs → lv_has ls 4 [(0, .ref (q 0)), (1, .long (np_l x1)), (3, .int (np_i x3))] → W p l e R s m args below meth c H locs 0 0 Q (F0 m 0 ls []) := by
  intro x1 x3 σ H locs ls hf hat hl
  unfold f_N_isKey at hf
  refine lv_lload_n C.x C.b dd_N_isKey_0 rfl (lv_at hl 1 rfl) ?_
  refine lv_iload_n C.x C.b dd_N_isKey_1 rfl (lv_at hl 2 rfl) ?_
  refine np_callSi (As := [.long (np_l x1), .int (np_i x3)]) (rest := []) C (c_Spelling_isSpelled l x1 x3 _) np_allgood tw_253 tw_254 tw_14 tw_255 (nA := 2) (by decide +kernel) rfl ⟨rfl, rfl, Nat.le_of_ble_eq_true rfl, Nat.le_of_ble_eq_true rfl⟩ hat rfl hl.1 (Nat.le_of_ble_eq_true rfl) dd_N_isKey_2 hf (fun o1 H locs hf hat => ?_)
  refine np_if_eq (tgt := 27) C dd_N_isKey_5 (by decide) hf (fun _ hf => ?_) (fun _ hf => ?_)
  · exact w_f_N_isKey_27 C hQ   _ _ _ _ hf hat (lv_sub hl [] rfl)
  · refine lv_aload_n C.x C.b dd_N_isKey_8 rfl (lv_at hl 0 rfl) ?_
    refine np_get (v := .ref (q 1)) C i_N hat.1 0 (nc_o0 _) rfl 0 (by decide) tw_204 rfl rfl dd_N_isKey_9 ?_
    refine lv_lload_n C.x C.b dd_N_isKey_12 rfl (lv_at hl 1 rfl) ?_
    refine lv_iload_n C.x C.b dd_N_isKey_13 rfl (lv_at hl 2 rfl) ?_
    refine np_callSl (As := [.long (np_l x1), .int (np_i x3)]) (rest := [.ref (q 1)]) C (c_Spelling_lowBytes l x1 x3 _) np_allgood tw_348 tw_349 tw_14 tw_350 (nA := 2) (by decide +kernel) rfl ⟨rfl, rfl, Nat.le_of_ble_eq_true rfl, Nat.le_of_ble_eq_true rfl⟩ hat rfl hl.1 (Nat.le_of_ble_eq_true rfl) dd_N_isKey_14 hf (fun o2 H locs hf hat => ?_)
    refine np_callVi (As := [.long (np_l o2.1)]) (rest := []) C (c_Grammar_hasKey l o2.1 _) np_allgood tw_351 tw_352 tw_353 tw_2 tw_354 (nA := 1) (by decide +kernel) rfl ⟨rfl, rfl, Nat.le_of_ble_eq_true rfl, Nat.le_of_ble_eq_true rfl⟩ (va_recv C.k hat.1 (ci := 1) (q0 := 1) rfl (nc_o1 _)) hat rfl hl.1 (Nat.le_of_ble_eq_true rfl) dd_N_isKey_17 hf (fun o3 H locs hf hat => ?_)
    refine np_if_eq (tgt := 27) C dd_N_isKey_20 (by decide) hf (fun _ hf => ?_) (fun _ hf => ?_)
    · exact w_f_N_isKey_27 C hQ   _ _ _ _ hf hat (lv_sub hl [] rfl)
    · refine lv_iconst (v := np_i 1) C.x C.b dd_N_isKey_23 rfl ?_
      refine lv_goto (tgt := 28) C.x C.b dd_N_isKey_24 (by decide) ?_
      exact w_f_N_isKey_28 C hQ  _ _ _ _ _ hf hat (lv_sub hl [] rfl)
set_option maxHeartbeats 4000000 in
set_option maxRecDepth 100000 in
theorem c_N_isKey (l : Launch) {gA : Nat → Nat} {D : va_G} {q : Nat → Nat} {cA : Nat → ClassId} (x1 x3 : Int) (σ : np_S) : np_Mi gA l D np_cl (np_ty cA) (nc_wd q cA) yy_N_isKey (.code yy_N_isKey prog_1_method_14_code 4 (some .boolean) :: np_al) { frames := 6, cells := 0, slots := 0, locals := 135 } [.ref (q 0), .long (np_l x1), .int (np_i x3)] σ (f_N_isKey x1 x3 σ) :=
  np_mkz (by decide +kernel) (Nat.le_of_ble_eq_true rfl) (fun o p e R s m args below meth c Q A ls hf C hQ hat hl => w_f_N_isKey C hQ x1 x3 σ _ _ _ hf hat (lv_sub hl [0, 1, 2] rfl))
set_option maxHeartbeats 4000000 in
set_option maxRecDepth 100000 in
theorem w_f_N_about (C : np_Cx gA p R s m args c D np_cl (np_ty cA) A np_al "NotationParse" prog_1_method_15_code 2 { frames := 0, cells := 0, slots := 0, locals := 0 }) (hQ : ∀ (pc : Nat) (ls : Array Slot) (H : Heap) (locs : List Loc) (v : Int) {σ : np_S}, decode prog_1_method_15_code pc = .ok (.ireturn, 1) → some (v, σ) = some out → np_At D np_cl A (nc_wd q cA) s σ H locs → W p l e R s m args below meth c H locs 0 0 Q (F0 m pc ls [.int (np_i v)]))   : ∀ (x1 : Int) (σ : np_S) (H : Heap) (locs : List Loc) (ls : Array Slot), f_N_about  x1 σ = some out → np_At D np_cl A (nc_wd q cA) s σ H locs → lv_has ls 2 [(0, .ref (q 0)), (1, .int (np_i x1))] → W p l e R s m args below meth c H locs 0 0 Q (F0 m 0 ls []) := by
  intro x1 σ H locs ls hf hat hl
  unfold f_N_about at hf
  refine lv_iload_n C.x C.b dd_N_about_0 rfl (lv_at hl 1 rfl) ?_
  obtain ⟨hR, hf⟩ := np_ck_e hf
  refine np_case hf (fun hx hf => ?_) (fun n0 hf => ?_)
  · refine np_tswI (tgt := 36) (off := 35) C dd_N_about_1 hx (by decide +kernel) (by decide +kernel) (by decide +kernel) (by decide) ?_
    refine lv_aload_n C.x C.b dd_N_about_36 rfl (lv_at hl 0 rfl) ?_
    refine np_get (v := .ref (q 1)) C i_N hat.1 0 (nc_o0 _) rfl 0 (by decide) tw_204 rfl rfl dd_N_about_37 ?_
    refine np_get (v := .int (np_i (σ 1 4))) C i_Grammar hat.1 1 (nc_o1 _) rfl 4 (by decide) tw_60 rfl rfl dd_N_about_40 ?_
    refine lv_iconst (v := np_i 2) C.x C.b dd_N_about_43 rfl ?_
    refine np_isub C dd_N_about_44 ?_
    exact hQ _ _ _ _ _ dd_N_about_45 hf hat
  refine np_case hf (fun hx hf => ?_) (fun n1 hf => ?_)
  · refine np_tswI (tgt := 46) (off := 45) C dd_N_about_1 hx (by decide +kernel) (by decide +kernel) (by decide +kernel) (by decide) ?_
    refine lv_aload_n C.x C.b dd_N_about_46 rfl (lv_at hl 0 rfl) ?_
    refine np_get (v := .ref (q 1)) C i_N hat.1 0 (nc_o0 _) rfl 0 (by decide) tw_204 rfl rfl dd_N_about_47 ?_
    refine np_get (v := .int (np_i (σ 1 5))) C i_Grammar hat.1 1 (nc_o1 _) rfl 5 (by decide) tw_63 rfl rfl dd_N_about_50 ?_
    exact hQ _ _ _ _ _ dd_N_about_53 hf hat
  refine np_case hf (fun hx hf => ?_) (fun n2 hf => ?_)
  · refine np_tswI (tgt := 54) (off := 53) C dd_N_about_1 hx (by decide +kernel) (by decide +kernel) (by decide +kernel) (by decide) ?_
    refine lv_aload_n C.x C.b dd_N_about_54 rfl (lv_at hl 0 rfl) ?_
    refine np_get (v := .ref (q 6)) C i_N hat.1 0 (nc_o0 _) rfl 1 (by decide) tw_205 rfl rfl dd_N_about_55 ?_
    refine np_get (v := .int (np_i (σ 6 1))) C i_Text hat.1 6 (nc_o6 _) rfl 1 (by decide) tw_87 rfl rfl dd_N_about_58 ?_
    exact hQ _ _ _ _ _ dd_N_about_61 hf hat
  refine np_case hf (fun hx hf => ?_) (fun n3 hf => ?_)
  · refine np_tswI (tgt := 62) (off := 61) C dd_N_about_1 hx (by decide +kernel) (by decide +kernel) (by decide +kernel) (by decide) ?_
    refine lv_aload_n C.x C.b dd_N_about_62 rfl (lv_at hl 0 rfl) ?_
    refine np_get (v := .ref (q 15)) C i_N hat.1 0 (nc_o0 _) rfl 3 (by decide) tw_207 rfl rfl dd_N_about_63 ?_
    refine np_get (v := .int (np_i (σ 15 2))) C i_Tree hat.1 15 (nc_o15 _) rfl 2 (by decide) tw_143 rfl rfl dd_N_about_66 ?_
    exact hQ _ _ _ _ _ dd_N_about_69 hf hat
  refine np_case hf (fun hx hf => ?_) (fun n4 hf => ?_)
  · refine np_tswI (tgt := 70) (off := 69) C dd_N_about_1 hx (by decide +kernel) (by decide +kernel) (by decide +kernel) (by decide) ?_
    refine lv_aload_n C.x C.b dd_N_about_70 rfl (lv_at hl 0 rfl) ?_
    refine np_get (v := .ref (q 26)) C i_N hat.1 0 (nc_o0 _) rfl 4 (by decide) tw_208 rfl rfl dd_N_about_71 ?_
    refine np_get (v := .int (np_i (σ 26 1))) C i_Output hat.1 26 (nc_o26 _) rfl 1 (by decide) tw_198 rfl rfl dd_N_about_74 ?_
    exact hQ _ _ _ _ _ dd_N_about_77 hf hat
  refine np_tswO (tgt := 78) C dd_N_about_1 hR (by omega) (by decide) ?_
  refine lv_iconst (v := np_i (-1)) C.x C.b dd_N_about_78 rfl ?_
  exact hQ _ _ _ _ _ dd_N_about_79 hf hat
set_option maxHeartbeats 4000000 in
set_option maxRecDepth 100000 in
theorem c_N_about (l : Launch) {gA : Nat → Nat} {D : va_G} {q : Nat → Nat} {cA : Nat → ClassId} (x1 : Int) (σ : np_S) : np_Mi gA l D np_cl (np_ty cA) (nc_wd q cA) yy_N_about (.code yy_N_about prog_1_method_15_code 2 (some .int) :: np_al) { frames := 0, cells := 0, slots := 0, locals := 0 } [.ref (q 0), .int (np_i x1)] σ (f_N_about x1 σ) :=
  np_mki (by decide +kernel) (Nat.le_of_ble_eq_true rfl) (fun o p e R s m args below meth c Q A ls hf C hQ hat hl => w_f_N_about C hQ x1 σ _ _ _ hf hat (lv_sub hl [0, 1] rfl))
set_option maxHeartbeats 4000000 in
set_option maxRecDepth 100000 in
theorem w_f_M_thrown (C : np_Cx gA p R s m args c D np_cl (np_ty cA) A np_al "NotationParseModel" prog_9_method_2_code 1 { frames := 0, cells := 0, slots := 0, locals := 0 }) (hQ : ∀ (pc : Nat) (ls : Array Slot) (H : Heap) (locs : List Loc) (v : Int) {σ : np_S}, decode prog_9_method_2_code pc = .ok (.ireturn, 1) → some (v, σ) = some out → np_At D np_cl A (nc_wd q cA) s σ H locs → W p l e R s m args below meth c H locs 0 0 Q (F0 m pc ls [.int (np_i v)]))   : ∀ (σ : np_S) (H : Heap) (locs : List Loc) (ls : Array Slot), f_M_thrown  σ = some out → np_At D np_cl A (nc_wd q cA) s σ H locs → lv_has ls 1 [(0, .ref (q 29))] → W p l e R s m args below meth c H locs 0 0 Q (F0 m 0 ls []) := by
  intro σ H locs ls hf hat hl
  unfold f_M_thrown at hf
  refine lv_aload_n C.x C.b dd_M_thrown_0 rfl (lv_at hl 0 rfl) ?_
  refine np_get (v := .int (np_i (σ 29 0))) C i_M hat.1 29 (nc_o29 _) rfl 0 (by decide) tw_923 rfl rfl dd_M_thrown_1 ?_
  exact hQ _ _ _ _ _ dd_M_thrown_4 hf hat
set_option maxHeartbeats 4000000 in
set_option maxRecDepth 100000 in
theorem c_M_thrown (l : Launch) {gA : Nat → Nat} {D : va_G} {q : Nat → Nat} {cA : Nat → ClassId} (σ : np_S) : np_Mi gA l D np_cl (np_ty cA) (nc_wd q cA) yy_M_thrown (.code yy_M_thrown prog_9_method_2_code 1 (some .int) :: np_al) { frames := 0, cells := 0, slots := 0, locals := 0 } [.ref (q 29)] σ (f_M_thrown  σ) :=
  np_mki (by decide +kernel) (Nat.le_of_ble_eq_true rfl) (fun o p e R s m args below meth c Q A ls hf C hQ hat hl => w_f_M_thrown C hQ  σ _ _ _ hf hat (lv_sub hl [0] rfl))
set_option maxHeartbeats 4000000 in
set_option maxRecDepth 100000 in
theorem w_f_M_isLetter_29 (C : np_Cx gA p R s m args c D np_cl (np_ty cA) A np_al "NotationParseModel" prog_9_method_3_code 1 { frames := 0, cells := 0, slots := 0, locals := 0 }) (hQ : ∀ (pc : Nat) (ls : Array Slot) (H : Heap) (locs : List Loc) (v : Int) {σ : np_S}, decode prog_9_method_3_code pc = .ok (.ireturn, 1) → np_ck (v = 0 ∨ v = 1) (some (v, σ)) = some out → np_At D np_cl A (nc_wd q cA) s σ H locs → W p l e R s m args below meth c H locs 0 0 Q (F0 m pc ls [.int (np_i v)]))   : ∀ (t0 : Int) (σ : np_S) (H : Heap) (locs : List Loc) (ls : Array Slot), f_M_isLetter_29  t0 σ = some out → np_At D np_cl A (nc_wd q cA) s σ H locs → lv_has ls 1 [] → W p l e R s m args below meth c H locs 0 0 Q (F0 m 29 ls [.int (np_i t0)]) := by
  intro t0 σ H locs ls hf hat hl
  unfold f_M_isLetter_29 at hf
  exact hQ _ _ _ _ _ dd_M_isLetter_29 hf hat
set_option maxHeartbeats 4000000 in
set_option maxRecDepth 100000 in
theorem w_f_M_isLetter_28 (C : np_Cx gA p R s m args c D np_cl (np_ty cA) A np_al "NotationParseModel" prog_9_method_3_code 1 { frames := 0, cells := 0, slots := 0, locals := 0 }) (hQ : ∀ (pc : Nat) (ls : Array Slot) (H : Heap) (locs : List Loc) (v : Int) {σ : np_S}, decode prog_9_method_3_code pc = .ok (.ireturn, 1) → np_ck (v = 0 ∨ v = 1) (some (v, σ)) = some out → np_At D np_cl A (nc_wd q cA) s σ H locs → W p l e R s m args below meth c H locs 0 0 Q (F0 m pc ls [.int (np_i v)]))   : ∀ (σ : np_S) (H : Heap) (locs : List Loc) (ls : Array Slot), f_M_isLetter_28  σ = some out → np_At D np_cl A (nc_wd q cA) s σ H locs → lv_has ls 1 [] → W p l e R s m args below meth c H locs 0 0 Q (F0 m 28 ls []) := by
  intro σ H locs ls hf hat hl
  unfold f_M_isLetter_28 at hf
  refine lv_iconst (v := np_i 0) C.x C.b dd_M_isLetter_28 rfl ?_
  exact w_f_M_isLetter_29 C hQ  _ _ _ _ _ hf hat (lv_sub hl [] rfl)
set_option maxHeartbeats 4000000 in
set_option maxRecDepth 100000 in
theorem w_f_M_isLetter_24 (C : np_Cx gA p R s m args c D np_cl (np_ty cA) A np_al "NotationParseModel" prog_9_method_3_code 1 { frames := 0, cells := 0, slots := 0, locals := 0 }) (hQ : ∀ (pc : Nat) (ls : Array Slot) (H : Heap) (locs : List Loc) (v : Int) {σ : np_S}, decode prog_9_method_3_code pc = .ok (.ireturn, 1) → np_ck (v = 0 ∨ v = 1) (some (v, σ)) = some out → np_At D np_cl A (nc_wd q cA) s σ H locs → W p l e R s m args below meth c H locs 0 0 Q (F0 m pc ls [.int (np_i v)]))   : ∀ (σ : np_S) (H : Heap) (locs : List Loc) (ls : Array Slot), f_M_isLetter_24  σ = some out → np_At D np_cl A (nc_wd q cA) s σ H locs → lv_has ls 1 [] → W p l e R s m args below meth c H locs 0 0 Q (F0 m 24 ls []) := by
  intro σ H locs ls hf hat hl
  unfold f_M_isLetter_24 at hf
  refine lv_iconst (v := np_i 1) C.x C.b dd_M_isLetter_24 rfl ?_
  refine lv_goto (tgt := 29) C.x C.b dd_M_isLetter_25 (by decide) ?_
  exact w_f_M_isLetter_29 C hQ  _ _ _ _ _ hf hat (lv_sub hl [] rfl)
set_option maxHeartbeats 4000000 in
set_option maxRecDepth 100000 in
theorem w_f_M_isLetter_12 (C : np_Cx gA p R s m args c D np_cl (np_ty cA) A np_al "NotationParseModel" prog_9_method_3_code 1 { frames := 0, cells := 0, slots := 0, locals := 0 }) (hQ : ∀ (pc : Nat) (ls : Array Slot) (H : Heap) (locs : List Loc) (v : Int) {σ : np_S}, decode prog_9_method_3_code pc = .ok (.ireturn, 1) → np_ck (v = 0 ∨ v = 1) (some (v, σ)) = some out → np_At D np_cl A (nc_wd q cA) s σ H locs → W p l e R s m args below meth c H locs 0 0 Q (F0 m pc ls [.int (np_i v)]))   : ∀ (x0 : Int) (σ : np_S) (H : Heap) (locs : List Loc) (ls : Array Slot), f_M_isLetter_12  x0 σ = some out → np_At D np_cl A (nc_wd q cA) s σ H locs → lv_has ls 1 [(0, .int (np_i x0))] → W p l e R s m args below meth c H locs 0 0 Q (F0 m 12 ls []) := by
  intro x0 σ H locs ls hf hat hl
  unfold f_M_isLetter_12 at hf
  refine lv_iload_n C.x C.b dd_M_isLetter_12 rfl (lv_at hl 0 rfl) ?_
  refine lv_bipush (v := np_i 65) C.x C.b dd_M_isLetter_13 (by decide +kernel) ?_
  refine np_icmp_lt (tgt := 28) C dd_M_isLetter_15 (by decide) hf (fun _ hf => ?_) (fun _ hf => ?_)
  · exact w_f_M_isLetter_28 C hQ   _ _ _ _ hf hat (lv_sub hl [] rfl)
  · refine lv_iload_n C.x C.b dd_M_isLetter_18 rfl (lv_at hl 0 rfl) ?_
    refine lv_bipush (v := np_i 90) C.x C.b dd_M_isLetter_19 (by decide +kernel) ?_
    refine np_icmp_gt (tgt := 28) C dd_M_isLetter_21 (by decide) hf (fun _ hf => ?_) (fun _ hf => ?_)
    · exact w_f_M_isLetter_28 C hQ   _ _ _ _ hf hat (lv_sub hl [] rfl)
    · exact w_f_M_isLetter_24 C hQ   _ _ _ _ hf hat (lv_sub hl [] rfl)
set_option maxHeartbeats 4000000 in
set_option maxRecDepth 100000 in
theorem w_f_M_isLetter (C : np_Cx gA p R s m args c D np_cl (np_ty cA) A np_al "NotationParseModel" prog_9_method_3_code 1 { frames := 0, cells := 0, slots := 0, locals := 0 }) (hQ : ∀ (pc : Nat) (ls : Array Slot) (H : Heap) (locs : List Loc) (v : Int) {σ : np_S}, decode prog_9_method_3_code pc = .ok (.ireturn, 1) → np_ck (v = 0 ∨ v = 1) (some (v, σ)) = some out → np_At D np_cl A (nc_wd q cA) s σ H locs → W p l e R s m args below meth c H locs 0 0 Q (F0 m pc ls [.int (np_i v)]))   : ∀ (x0 : Int) (σ : np_S) (H : Heap) (locs : List Loc) (ls : Array Slot), f_M_isLetter  x0 σ = some out → np_At D np_cl A (nc_wd q cA) s σ H locs → lv_has ls 1 [(0, .int (np_i x0))] → W p l e R s m args below meth c H locs 0 0 Q (F0 m 0 ls []) := by
  intro x0 σ H locs ls hf hat hl
  unfold f_M_isLetter at hf
  refine lv_iload_n C.x C.b dd_M_isLetter_0 rfl (lv_at hl 0 rfl) ?_
  refine lv_bipush (v := np_i 97) C.x C.b dd_M_isLetter_1 (by decide +kernel) ?_
  refine np_icmp_lt (tgt := 12) C dd_M_isLetter_3 (by decide) hf (fun _ hf => ?_) (fun _ hf => ?_)
  · exact w_f_M_isLetter_12 C hQ  _ _ _ _ _ hf hat (lv_sub hl [0] rfl)
  · refine lv_iload_n C.x C.b dd_M_isLetter_6 rfl (lv_at hl 0 rfl) ?_
    refine lv_bipush (v := np_i 122) C.x C.b dd_M_isLetter_7 (by decide +kernel) ?_
    refine np_icmp_le (tgt := 24) C dd_M_isLetter_9 (by decide) hf (fun _ hf => ?_) (fun _ hf => ?_)
    · exact w_f_M_isLetter_24 C hQ   _ _ _ _ hf hat (lv_sub hl [] rfl)
    · exact w_f_M_isLetter_12 C hQ  _ _ _ _ _ hf hat (lv_sub hl [0] rfl)
set_option maxHeartbeats 4000000 in
set_option maxRecDepth 100000 in
theorem c_M_isLetter (l : Launch) {gA : Nat → Nat} {D : va_G} {q : Nat → Nat} {cA : Nat → ClassId} (x0 : Int) (σ : np_S) : np_Mi gA l D np_cl (np_ty cA) (nc_wd q cA) yy_M_isLetter (.code yy_M_isLetter prog_9_method_3_code 1 (some .boolean) :: np_al) { frames := 0, cells := 0, slots := 0, locals := 0 } [.int (np_i x0)] σ (f_M_isLetter x0 σ) :=
  np_mkz (by decide +kernel) (Nat.le_of_ble_eq_true rfl) (fun o p e R s m args below meth c Q A ls hf C hQ hat hl => w_f_M_isLetter C hQ x0 σ _ _ _ hf hat (lv_sub hl [0] rfl))
set_option maxHeartbeats 4000000 in
set_option maxRecDepth 100000 in
theorem w_f_M_isDigit_17 (C : np_Cx gA p R s m args c D np_cl (np_ty cA) A np_al "NotationParseModel" prog_9_method_4_code 1 { frames := 0, cells := 0, slots := 0, locals := 0 }) (hQ : ∀ (pc : Nat) (ls : Array Slot) (H : Heap) (locs : List Loc) (v : Int) {σ : np_S}, decode prog_9_method_4_code pc = .ok (.ireturn, 1) → np_ck (v = 0 ∨ v = 1) (some (v, σ)) = some out → np_At D np_cl A (nc_wd q cA) s σ H locs → W p l e R s m args below meth c H locs 0 0 Q (F0 m pc ls [.int (np_i v)]))   : ∀ (t0 : Int) (σ : np_S) (H : Heap) (locs : List Loc) (ls : Array Slot), f_M_isDigit_17  t0 σ = some out → np_At D np_cl A (nc_wd q cA) s σ H locs → lv_has ls 1 [] → W p l e R s m args below meth c H locs 0 0 Q (F0 m 17 ls [.int (np_i t0)]) := by
  intro t0 σ H locs ls hf hat hl
  unfold f_M_isDigit_17 at hf
  exact hQ _ _ _ _ _ dd_M_isDigit_17 hf hat
set_option maxHeartbeats 4000000 in
set_option maxRecDepth 100000 in
theorem w_f_M_isDigit_16 (C : np_Cx gA p R s m args c D np_cl (np_ty cA) A np_al "NotationParseModel" prog_9_method_4_code 1 { frames := 0, cells := 0, slots := 0, locals := 0 }) (hQ : ∀ (pc : Nat) (ls : Array Slot) (H : Heap) (locs : List Loc) (v : Int) {σ : np_S}, decode prog_9_method_4_code pc = .ok (.ireturn, 1) → np_ck (v = 0 ∨ v = 1) (some (v, σ)) = some out → np_At D np_cl A (nc_wd q cA) s σ H locs → W p l e R s m args below meth c H locs 0 0 Q (F0 m pc ls [.int (np_i v)]))   : ∀ (σ : np_S) (H : Heap) (locs : List Loc) (ls : Array Slot), f_M_isDigit_16  σ = some out → np_At D np_cl A (nc_wd q cA) s σ H locs → lv_has ls 1 [] → W p l e R s m args below meth c H locs 0 0 Q (F0 m 16 ls []) := by
  intro σ H locs ls hf hat hl
  unfold f_M_isDigit_16 at hf
  refine lv_iconst (v := np_i 0) C.x C.b dd_M_isDigit_16 rfl ?_
  exact w_f_M_isDigit_17 C hQ  _ _ _ _ _ hf hat (lv_sub hl [] rfl)
set_option maxHeartbeats 4000000 in
set_option maxRecDepth 100000 in
theorem w_f_M_isDigit (C : np_Cx gA p R s m args c D np_cl (np_ty cA) A np_al "NotationParseModel" prog_9_method_4_code 1 { frames := 0, cells := 0, slots := 0, locals := 0 }) (hQ : ∀ (pc : Nat) (ls : Array Slot) (H : Heap) (locs : List Loc) (v : Int) {σ : np_S}, decode prog_9_method_4_code pc = .ok (.ireturn, 1) → np_ck (v = 0 ∨ v = 1) (some (v, σ)) = some out → np_At D np_cl A (nc_wd q cA) s σ H locs → W p l e R s m args below meth c H locs 0 0 Q (F0 m pc ls [.int (np_i v)]))   : ∀ (x0 : Int) (σ : np_S) (H : Heap) (locs : List Loc) (ls : Array Slot), f_M_isDigit  x0 σ = some out → np_At D np_cl A (nc_wd q cA) s σ H locs → lv_has ls 1 [(0, .int (np_i x0))] → W p l e R s m args below meth c H locs 0 0 Q (F0 m 0 ls []) := by
  intro x0 σ H locs ls hf hat hl
  unfold f_M_isDigit at hf
  refine lv_iload_n C.x C.b dd_M_isDigit_0 rfl (lv_at hl 0 rfl) ?_
  refine lv_bipush (v := np_i 48) C.x C.b dd_M_isDigit_1 (by decide +kernel) ?_
  refine np_icmp_lt (tgt := 16) C dd_M_isDigit_3 (by decide) hf (fun _ hf => ?_) (fun _ hf => ?_)
  · exact w_f_M_isDigit_16 C hQ   _ _ _ _ hf hat (lv_sub hl [] rfl)
  · refine lv_iload_n C.x C.b dd_M_isDigit_6 rfl (lv_at hl 0 rfl) ?_
    refine lv_bipush (v := np_i 57) C.x C.b dd_M_isDigit_7 (by decide +kernel) ?_
    refine np_icmp_gt (tgt := 16) C dd_M_isDigit_9 (by decide) hf (fun _ hf => ?_) (fun _ hf => ?_)
    · exact w_f_M_isDigit_16 C hQ   _ _ _ _ hf hat (lv_sub hl [] rfl)
    · refine lv_iconst (v := np_i 1) C.x C.b dd_M_isDigit_12 rfl ?_
      refine lv_goto (tgt := 17) C.x C.b dd_M_isDigit_13 (by decide) ?_
      exact w_f_M_isDigit_17 C hQ  _ _ _ _ _ hf hat (lv_sub hl [] rfl)
set_option maxHeartbeats 4000000 in
set_option maxRecDepth 100000 in
theorem c_M_isDigit (l : Launch) {gA : Nat → Nat} {D : va_G} {q : Nat → Nat} {cA : Nat → ClassId} (x0 : Int) (σ : np_S) : np_Mi gA l D np_cl (np_ty cA) (nc_wd q cA) yy_M_isDigit (.code yy_M_isDigit prog_9_method_4_code 1 (some .boolean) :: np_al) { frames := 0, cells := 0, slots := 0, locals := 0 } [.int (np_i x0)] σ (f_M_isDigit x0 σ) :=
  np_mkz (by decide +kernel) (Nat.le_of_ble_eq_true rfl) (fun o p e R s m args below meth c Q A ls hf C hQ hat hl => w_f_M_isDigit C hQ x0 σ _ _ _ hf hat (lv_sub hl [0] rfl))
set_option maxHeartbeats 4000000 in
set_option maxRecDepth 100000 in
theorem w_f_M_sort (C : np_Cx gA p R s m args c D np_cl (np_ty cA) A np_al "NotationParseModel" prog_9_method_5_code 1 { frames := 1, cells := 0, slots := 0, locals := 20 }) (hQ : ∀ (pc : Nat) (ls : Array Slot) (H : Heap) (locs : List Loc) (v : Int) {σ : np_S}, decode prog_9_method_5_code pc = .ok (.ireturn, 1) → some (v, σ) = some out → np_At D np_cl A (nc_wd q cA) s σ H locs → W p l e R s m args below meth c H locs 0 0 Q (F0 m pc ls [.int (np_i v)]))   : ∀ (x0 : Int) (σ : np_S) (H : Heap) (locs : List Loc) (ls : Array Slot), f_M_sort  x0 σ = some out → np_At D np_cl A (nc_wd q cA) s σ H locs → lv_has ls 1 [(0, .int (np_i x0))] → W p l e R s m args below meth c H locs 0 0 Q (F0 m 0 ls []) := by
  intro x0 σ H locs ls hf hat hl
  unfold f_M_sort at hf
  refine lv_iload_n C.x C.b dd_M_sort_0 rfl (lv_at hl 0 rfl) ?_
  refine np_callSi (As := [.int (np_i x0)]) (rest := []) C (c_M_isLetter l x0 _) np_allgood tw_1044 tw_1045 tw_8 tw_1046 (nA := 1) (by decide +kernel) rfl ⟨rfl, rfl, Nat.le_of_ble_eq_true rfl, Nat.le_of_ble_eq_true rfl⟩ hat rfl hl.1 (Nat.le_of_ble_eq_true rfl) dd_M_sort_1 hf (fun o1 H locs hf hat => ?_)
  refine np_if_eq (tgt := 9) C dd_M_sort_4 (by decide) hf (fun _ hf => ?_) (fun _ hf => ?_)
  · refine lv_iload_n C.x C.b dd_M_sort_9 rfl (lv_at hl 0 rfl) ?_
    refine np_callSi (As := [.int (np_i x0)]) (rest := []) C (c_M_isDigit l x0 _) np_allgood tw_1047 tw_1048 tw_8 tw_1049 (nA := 1) (by decide +kernel) rfl ⟨rfl, rfl, Nat.le_of_ble_eq_true rfl, Nat.le_of_ble_eq_true rfl⟩ hat rfl hl.1 (Nat.le_of_ble_eq_true rfl) dd_M_sort_10 hf (fun o2 H locs hf hat => ?_)
    refine np_if_eq (tgt := 18) C dd_M_sort_13 (by decide) hf (fun _ hf => ?_) (fun _ hf => ?_)
    · refine lv_iload_n C.x C.b dd_M_sort_18 rfl (lv_at hl 0 rfl) ?_
      obtain ⟨hR, hf⟩ := np_ck_e hf
      refine np_case hf (fun hx hf => ?_) (fun n33 hf => ?_)
      · refine np_tswI (tgt := 408) (off := 389) C dd_M_sort_19 hx (by decide +kernel) (by decide +kernel) (by decide +kernel) (by decide) ?_
        refine lv_iconst (v := np_i 3) C.x C.b dd_M_sort_408 rfl ?_
        exact hQ _ _ _ _ _ dd_M_sort_409 hf hat
      refine np_case hf (fun hx hf => ?_) (fun n34 hf => ?_)
      · refine np_tswI (tgt := 412) (off := 393) C dd_M_sort_19 hx (by decide +kernel) (by decide +kernel) (by decide +kernel) (by decide) ?_
        refine lv_iconst (v := np_i 0) C.x C.b dd_M_sort_412 rfl ?_
        exact hQ _ _ _ _ _ dd_M_sort_413 hf hat
      refine np_case hf (fun hx hf => ?_) (fun n35 hf => ?_)
      · refine np_tswI (tgt := 408) (off := 389) C dd_M_sort_19 hx (by decide +kernel) (by decide +kernel) (by decide +kernel) (by decide) ?_
        refine lv_iconst (v := np_i 3) C.x C.b dd_M_sort_408 rfl ?_
        exact hQ _ _ _ _ _ dd_M_sort_409 hf hat
      refine np_case hf (fun hx hf => ?_) (fun n36 hf => ?_)
      · refine np_tswI (tgt := 408) (off := 389) C dd_M_sort_19 hx (by decide +kernel) (by decide +kernel) (by decide +kernel) (by decide) ?_
        refine lv_iconst (v := np_i 3) C.x C.b dd_M_sort_408 rfl ?_
        exact hQ _ _ _ _ _ dd_M_sort_409 hf hat
      refine np_case hf (fun hx hf => ?_) (fun n37 hf => ?_)
      · refine np_tswI (tgt := 408) (off := 389) C dd_M_sort_19 hx (by decide +kernel) (by decide +kernel) (by decide +kernel) (by decide) ?_
        refine lv_iconst (v := np_i 3) C.x C.b dd_M_sort_408 rfl ?_
        exact hQ _ _ _ _ _ dd_M_sort_409 hf hat
      refine np_case hf (fun hx hf => ?_) (fun n38 hf => ?_)
      · refine np_tswI (tgt := 408) (off := 389) C dd_M_sort_19 hx (by decide +kernel) (by decide +kernel) (by decide +kernel) (by decide) ?_
        refine lv_iconst (v := np_i 3) C.x C.b dd_M_sort_408 rfl ?_
        exact hQ _ _ _ _ _ dd_M_sort_409 hf hat
      refine np_case hf (fun hx hf => ?_) (fun n39 hf => ?_)
      · refine np_tswI (tgt := 412) (off := 393) C dd_M_sort_19 hx (by decide +kernel) (by decide +kernel) (by decide +kernel) (by decide) ?_
        refine lv_iconst (v := np_i 0) C.x C.b dd_M_sort_412 rfl ?_
        exact hQ _ _ _ _ _ dd_M_sort_413 hf hat
      refine np_case hf (fun hx hf => ?_) (fun n40 hf => ?_)
      · refine np_tswI (tgt := 410) (off := 391) C dd_M_sort_19 hx (by decide +kernel) (by decide +kernel) (by decide +kernel) (by decide) ?_
        refine lv_iconst (v := np_i 4) C.x C.b dd_M_sort_410 rfl ?_
        exact hQ _ _ _ _ _ dd_M_sort_411 hf hat
      refine np_case hf (fun hx hf => ?_) (fun n41 hf => ?_)
      · refine np_tswI (tgt := 410) (off := 391) C dd_M_sort_19 hx (by decide +kernel) (by decide +kernel) (by decide +kernel) (by decide) ?_
        refine lv_iconst (v := np_i 4) C.x C.b dd_M_sort_410 rfl ?_
        exact hQ _ _ _ _ _ dd_M_sort_411 hf hat
      refine np_case hf (fun hx hf => ?_) (fun n42 hf => ?_)
      · refine np_tswI (tgt := 408) (off := 389) C dd_M_sort_19 hx (by decide +kernel) (by decide +kernel) (by decide +kernel) (by decide) ?_
        refine lv_iconst (v := np_i 3) C.x C.b dd_M_sort_408 rfl ?_
        exact hQ _ _ _ _ _ dd_M_sort_409 hf hat
      refine np_case hf (fun hx hf => ?_) (fun n43 hf => ?_)
      · refine np_tswI (tgt := 408) (off := 389) C dd_M_sort_19 hx (by decide +kernel) (by decide +kernel) (by decide +kernel) (by decide) ?_
        refine lv_iconst (v := np_i 3) C.x C.b dd_M_sort_408 rfl ?_
        exact hQ _ _ _ _ _ dd_M_sort_409 hf hat
      refine np_case hf (fun hx hf => ?_) (fun n44 hf => ?_)
      · refine np_tswI (tgt := 410) (off := 391) C dd_M_sort_19 hx (by decide +kernel) (by decide +kernel) (by decide +kernel) (by decide) ?_
        refine lv_iconst (v := np_i 4) C.x C.b dd_M_sort_410 rfl ?_
        exact hQ _ _ _ _ _ dd_M_sort_411 hf hat
      refine np_case hf (fun hx hf => ?_) (fun n45 hf => ?_)
      · refine np_tswI (tgt := 408) (off := 389) C dd_M_sort_19 hx (by decide +kernel) (by decide +kernel) (by decide +kernel) (by decide) ?_
        refine lv_iconst (v := np_i 3) C.x C.b dd_M_sort_408 rfl ?_
        exact hQ _ _ _ _ _ dd_M_sort_409 hf hat
      refine np_case hf (fun hx hf => ?_) (fun n46 hf => ?_)
      · refine np_tswI (tgt := 408) (off := 389) C dd_M_sort_19 hx (by decide +kernel) (by decide +kernel) (by decide +kernel) (by decide) ?_
        refine lv_iconst (v := np_i 3) C.x C.b dd_M_sort_408 rfl ?_
        exact hQ _ _ _ _ _ dd_M_sort_409 hf hat
      refine np_case hf (fun hx hf => ?_) (fun n47 hf => ?_)
      · refine np_tswI (tgt := 408) (off := 389) C dd_M_sort_19 hx (by decide +kernel) (by decide +kernel) (by decide +kernel) (by decide) ?_
        refine lv_iconst (v := np_i 3) C.x C.b dd_M_sort_408 rfl ?_
        exact hQ _ _ _ _ _ dd_M_sort_409 hf hat
      refine np_case hf (fun hx hf => ?_) (fun n48 hf => ?_)
      · refine np_tswI (tgt := 412) (off := 393) C dd_M_sort_19 hx (by decide +kernel) (by decide +kernel) (by decide +kernel) (by decide) ?_
        refine lv_iconst (v := np_i 0) C.x C.b dd_M_sort_412 rfl ?_
        exact hQ _ _ _ _ _ dd_M_sort_413 hf hat
      refine np_case hf (fun hx hf => ?_) (fun n49 hf => ?_)
      · refine np_tswI (tgt := 412) (off := 393) C dd_M_sort_19 hx (by decide +kernel) (by decide +kernel) (by decide +kernel) (by decide) ?_
        refine lv_iconst (v := np_i 0) C.x C.b dd_M_sort_412 rfl ?_
        exact hQ _ _ _ _ _ dd_M_sort_413 hf hat
      refine np_case hf (fun hx hf => ?_) (fun n50 hf => ?_)
      · refine np_tswI (tgt := 412) (off := 393) C dd_M_sort_19 hx (by decide +kernel) (by decide +kernel) (by decide +kernel) (by decide) ?_
        refine lv_iconst (v := np_i 0) C.x C.b dd_M_sort_412 rfl ?_
        exact hQ _ _ _ _ _ dd_M_sort_413 hf hat
      refine np_case hf (fun hx hf => ?_) (fun n51 hf => ?_)
      · refine np_tswI (tgt := 412) (off := 393) C dd_M_sort_19 hx (by decide +kernel) (by decide +kernel) (by decide +kernel) (by decide) ?_
        refine lv_iconst (v := np_i 0) C.x C.b dd_M_sort_412 rfl ?_
        exact hQ _ _ _ _ _ dd_M_sort_413 hf hat
      refine np_case hf (fun hx hf => ?_) (fun n52 hf => ?_)
      · refine np_tswI (tgt := 412) (off := 393) C dd_M_sort_19 hx (by decide +kernel) (by decide +kernel) (by decide +kernel) (by decide) ?_
        refine lv_iconst (v := np_i 0) C.x C.b dd_M_sort_412 rfl ?_
        exact hQ _ _ _ _ _ dd_M_sort_413 hf hat
      refine np_case hf (fun hx hf => ?_) (fun n53 hf => ?_)
      · refine np_tswI (tgt := 412) (off := 393) C dd_M_sort_19 hx (by decide +kernel) (by decide +kernel) (by decide +kernel) (by decide) ?_
        refine lv_iconst (v := np_i 0) C.x C.b dd_M_sort_412 rfl ?_
        exact hQ _ _ _ _ _ dd_M_sort_413 hf hat
      refine np_case hf (fun hx hf => ?_) (fun n54 hf => ?_)
      · refine np_tswI (tgt := 412) (off := 393) C dd_M_sort_19 hx (by decide +kernel) (by decide +kernel) (by decide +kernel) (by decide) ?_
        refine lv_iconst (v := np_i 0) C.x C.b dd_M_sort_412 rfl ?_
        exact hQ _ _ _ _ _ dd_M_sort_413 hf hat
      refine np_case hf (fun hx hf => ?_) (fun n55 hf => ?_)
      · refine np_tswI (tgt := 412) (off := 393) C dd_M_sort_19 hx (by decide +kernel) (by decide +kernel) (by decide +kernel) (by decide) ?_
        refine lv_iconst (v := np_i 0) C.x C.b dd_M_sort_412 rfl ?_
        exact hQ _ _ _ _ _ dd_M_sort_413 hf hat
      refine np_case hf (fun hx hf => ?_) (fun n56 hf => ?_)
      · refine np_tswI (tgt := 412) (off := 393) C dd_M_sort_19 hx (by decide +kernel) (by decide +kernel) (by decide +kernel) (by decide) ?_
        refine lv_iconst (v := np_i 0) C.x C.b dd_M_sort_412 rfl ?_
        exact hQ _ _ _ _ _ dd_M_sort_413 hf hat
      refine np_case hf (fun hx hf => ?_) (fun n57 hf => ?_)
      · refine np_tswI (tgt := 412) (off := 393) C dd_M_sort_19 hx (by decide +kernel) (by decide +kernel) (by decide +kernel) (by decide) ?_
        refine lv_iconst (v := np_i 0) C.x C.b dd_M_sort_412 rfl ?_
        exact hQ _ _ _ _ _ dd_M_sort_413 hf hat
      refine np_case hf (fun hx hf => ?_) (fun n58 hf => ?_)
      · refine np_tswI (tgt := 408) (off := 389) C dd_M_sort_19 hx (by decide +kernel) (by decide +kernel) (by decide +kernel) (by decide) ?_
        refine lv_iconst (v := np_i 3) C.x C.b dd_M_sort_408 rfl ?_
        exact hQ _ _ _ _ _ dd_M_sort_409 hf hat
      refine np_case hf (fun hx hf => ?_) (fun n59 hf => ?_)
      · refine np_tswI (tgt := 410) (off := 391) C dd_M_sort_19 hx (by decide +kernel) (by decide +kernel) (by decide +kernel) (by decide) ?_
        refine lv_iconst (v := np_i 4) C.x C.b dd_M_sort_410 rfl ?_
        exact hQ _ _ _ _ _ dd_M_sort_411 hf hat
      refine np_case hf (fun hx hf => ?_) (fun n60 hf => ?_)
      · refine np_tswI (tgt := 408) (off := 389) C dd_M_sort_19 hx (by decide +kernel) (by decide +kernel) (by decide +kernel) (by decide) ?_
        refine lv_iconst (v := np_i 3) C.x C.b dd_M_sort_408 rfl ?_
        exact hQ _ _ _ _ _ dd_M_sort_409 hf hat
      refine np_case hf (fun hx hf => ?_) (fun n61 hf => ?_)
      · refine np_tswI (tgt := 408) (off := 389) C dd_M_sort_19 hx (by decide +kernel) (by decide +kernel) (by decide +kernel) (by decide) ?_
        refine lv_iconst (v := np_i 3) C.x C.b dd_M_sort_408 rfl ?_
        exact hQ _ _ _ _ _ dd_M_sort_409 hf hat
      refine np_case hf (fun hx hf => ?_) (fun n62 hf => ?_)
      · refine np_tswI (tgt := 408) (off := 389) C dd_M_sort_19 hx (by decide +kernel) (by decide +kernel) (by decide +kernel) (by decide) ?_
        refine lv_iconst (v := np_i 3) C.x C.b dd_M_sort_408 rfl ?_
        exact hQ _ _ _ _ _ dd_M_sort_409 hf hat
      refine np_case hf (fun hx hf => ?_) (fun n63 hf => ?_)
      · refine np_tswI (tgt := 408) (off := 389) C dd_M_sort_19 hx (by decide +kernel) (by decide +kernel) (by decide +kernel) (by decide) ?_
        refine lv_iconst (v := np_i 3) C.x C.b dd_M_sort_408 rfl ?_
        exact hQ _ _ _ _ _ dd_M_sort_409 hf hat
      refine np_case hf (fun hx hf => ?_) (fun n64 hf => ?_)
      · refine np_tswI (tgt := 408) (off := 389) C dd_M_sort_19 hx (by decide +kernel) (by decide +kernel) (by decide +kernel) (by decide) ?_
        refine lv_iconst (v := np_i 3) C.x C.b dd_M_sort_408 rfl ?_
        exact hQ _ _ _ _ _ dd_M_sort_409 hf hat
      refine np_case hf (fun hx hf => ?_) (fun n65 hf => ?_)
      · refine np_tswI (tgt := 412) (off := 393) C dd_M_sort_19 hx (by decide +kernel) (by decide +kernel) (by decide +kernel) (by decide) ?_
        refine lv_iconst (v := np_i 0) C.x C.b dd_M_sort_412 rfl ?_
        exact hQ _ _ _ _ _ dd_M_sort_413 hf hat
      refine np_case hf (fun hx hf => ?_) (fun n66 hf => ?_)
      · refine np_tswI (tgt := 412) (off := 393) C dd_M_sort_19 hx (by decide +kernel) (by decide +kernel) (by decide +kernel) (by decide) ?_
        refine lv_iconst (v := np_i 0) C.x C.b dd_M_sort_412 rfl ?_
        exact hQ _ _ _ _ _ dd_M_sort_413 hf hat
      refine np_case hf (fun hx hf => ?_) (fun n67 hf => ?_)
      · refine np_tswI (tgt := 412) (off := 393) C dd_M_sort_19 hx (by decide +kernel) (by decide +kernel) (by decide +kernel) (by decide) ?_
        refine lv_iconst (v := np_i 0) C.x C.b dd_M_sort_412 rfl ?_
        exact hQ _ _ _ _ _ dd_M_sort_413 hf hat
      refine np_case hf (fun hx hf => ?_) (fun n68 hf => ?_)
      · refine np_tswI (tgt := 412) (off := 393) C dd_M_sort_19 hx (by decide +kernel) (by decide +kernel) (by decide +kernel) (by decide) ?_
        refine lv_iconst (v := np_i 0) C.x C.b dd_M_sort_412 rfl ?_
        exact hQ _ _ _ _ _ dd_M_sort_413 hf hat
      refine np_case hf (fun hx hf => ?_) (fun n69 hf => ?_)
      · refine np_tswI (tgt := 412) (off := 393) C dd_M_sort_19 hx (by decide +kernel) (by decide +kernel) (by decide +kernel) (by decide) ?_
        refine lv_iconst (v := np_i 0) C.x C.b dd_M_sort_412 rfl ?_
        exact hQ _ _ _ _ _ dd_M_sort_413 hf hat
      refine np_case hf (fun hx hf => ?_) (fun n70 hf => ?_)
      · refine np_tswI (tgt := 412) (off := 393) C dd_M_sort_19 hx (by decide +kernel) (by decide +kernel) (by decide +kernel) (by decide) ?_
        refine lv_iconst (v := np_i 0) C.x C.b dd_M_sort_412 rfl ?_
        exact hQ _ _ _ _ _ dd_M_sort_413 hf hat
      refine np_case hf (fun hx hf => ?_) (fun n71 hf => ?_)
      · refine np_tswI (tgt := 412) (off := 393) C dd_M_sort_19 hx (by decide +kernel) (by decide +kernel) (by decide +kernel) (by decide) ?_
        refine lv_iconst (v := np_i 0) C.x C.b dd_M_sort_412 rfl ?_
        exact hQ _ _ _ _ _ dd_M_sort_413 hf hat
      refine np_case hf (fun hx hf => ?_) (fun n72 hf => ?_)
      · refine np_tswI (tgt := 412) (off := 393) C dd_M_sort_19 hx (by decide +kernel) (by decide +kernel) (by decide +kernel) (by decide) ?_
        refine lv_iconst (v := np_i 0) C.x C.b dd_M_sort_412 rfl ?_
        exact hQ _ _ _ _ _ dd_M_sort_413 hf hat
      refine np_case hf (fun hx hf => ?_) (fun n73 hf => ?_)
      · refine np_tswI (tgt := 412) (off := 393) C dd_M_sort_19 hx (by decide +kernel) (by decide +kernel) (by decide +kernel) (by decide) ?_
        refine lv_iconst (v := np_i 0) C.x C.b dd_M_sort_412 rfl ?_
        exact hQ _ _ _ _ _ dd_M_sort_413 hf hat
      refine np_case hf (fun hx hf => ?_) (fun n74 hf => ?_)
      · refine np_tswI (tgt := 412) (off := 393) C dd_M_sort_19 hx (by decide +kernel) (by decide +kernel) (by decide +kernel) (by decide) ?_
        refine lv_iconst (v := np_i 0) C.x C.b dd_M_sort_412 rfl ?_
        exact hQ _ _ _ _ _ dd_M_sort_413 hf hat
      refine np_case hf (fun hx hf => ?_) (fun n75 hf => ?_)
      · refine np_tswI (tgt := 412) (off := 393) C dd_M_sort_19 hx (by decide +kernel) (by decide +kernel) (by decide +kernel) (by decide) ?_
        refine lv_iconst (v := np_i 0) C.x C.b dd_M_sort_412 rfl ?_
        exact hQ _ _ _ _ _ dd_M_sort_413 hf hat
      refine np_case hf (fun hx hf => ?_) (fun n76 hf => ?_)
      · refine np_tswI (tgt := 412) (off := 393) C dd_M_sort_19 hx (by decide +kernel) (by decide +kernel) (by decide +kernel) (by decide) ?_
        refine lv_iconst (v := np_i 0) C.x C.b dd_M_sort_412 rfl ?_
        exact hQ _ _ _ _ _ dd_M_sort_413 hf hat
      refine np_case hf (fun hx hf => ?_) (fun n77 hf => ?_)
      · refine np_tswI (tgt := 412) (off := 393) C dd_M_sort_19 hx (by decide +kernel) (by decide +kernel) (by decide +kernel) (by decide) ?_
        refine lv_iconst (v := np_i 0) C.x C.b dd_M_sort_412 rfl ?_
        exact hQ _ _ _ _ _ dd_M_sort_413 hf hat
      refine np_case hf (fun hx hf => ?_) (fun n78 hf => ?_)
      · refine np_tswI (tgt := 412) (off := 393) C dd_M_sort_19 hx (by decide +kernel) (by decide +kernel) (by decide +kernel) (by decide) ?_
        refine lv_iconst (v := np_i 0) C.x C.b dd_M_sort_412 rfl ?_
        exact hQ _ _ _ _ _ dd_M_sort_413 hf hat
      refine np_case hf (fun hx hf => ?_) (fun n79 hf => ?_)
      · refine np_tswI (tgt := 412) (off := 393) C dd_M_sort_19 hx (by decide +kernel) (by decide +kernel) (by decide +kernel) (by decide) ?_
        refine lv_iconst (v := np_i 0) C.x C.b dd_M_sort_412 rfl ?_
        exact hQ _ _ _ _ _ dd_M_sort_413 hf hat
      refine np_case hf (fun hx hf => ?_) (fun n80 hf => ?_)
      · refine np_tswI (tgt := 412) (off := 393) C dd_M_sort_19 hx (by decide +kernel) (by decide +kernel) (by decide +kernel) (by decide) ?_
        refine lv_iconst (v := np_i 0) C.x C.b dd_M_sort_412 rfl ?_
        exact hQ _ _ _ _ _ dd_M_sort_413 hf hat
      refine np_case hf (fun hx hf => ?_) (fun n81 hf => ?_)
      · refine np_tswI (tgt := 412) (off := 393) C dd_M_sort_19 hx (by decide +kernel) (by decide +kernel) (by decide +kernel) (by decide) ?_
        refine lv_iconst (v := np_i 0) C.x C.b dd_M_sort_412 rfl ?_
        exact hQ _ _ _ _ _ dd_M_sort_413 hf hat
      refine np_case hf (fun hx hf => ?_) (fun n82 hf => ?_)
      · refine np_tswI (tgt := 412) (off := 393) C dd_M_sort_19 hx (by decide +kernel) (by decide +kernel) (by decide +kernel) (by decide) ?_
        refine lv_iconst (v := np_i 0) C.x C.b dd_M_sort_412 rfl ?_
        exact hQ _ _ _ _ _ dd_M_sort_413 hf hat
      refine np_case hf (fun hx hf => ?_) (fun n83 hf => ?_)
      · refine np_tswI (tgt := 412) (off := 393) C dd_M_sort_19 hx (by decide +kernel) (by decide +kernel) (by decide +kernel) (by decide) ?_
        refine lv_iconst (v := np_i 0) C.x C.b dd_M_sort_412 rfl ?_
        exact hQ _ _ _ _ _ dd_M_sort_413 hf hat
      refine np_case hf (fun hx hf => ?_) (fun n84 hf => ?_)
      · refine np_tswI (tgt := 412) (off := 393) C dd_M_sort_19 hx (by decide +kernel) (by decide +kernel) (by decide +kernel) (by decide) ?_
        refine lv_iconst (v := np_i 0) C.x C.b dd_M_sort_412 rfl ?_
        exact hQ _ _ _ _ _ dd_M_sort_413 hf hat
      refine np_case hf (fun hx hf => ?_) (fun n85 hf => ?_)
      · refine np_tswI (tgt := 412) (off := 393) C dd_M_sort_19 hx (by decide +kernel) (by decide +kernel) (by decide +kernel) (by decide) ?_
        refine lv_iconst (v := np_i 0) C.x C.b dd_M_sort_412 rfl ?_
        exact hQ _ _ _ _ _ dd_M_sort_413 hf hat
      refine np_case hf (fun hx hf => ?_) (fun n86 hf => ?_)
      · refine np_tswI (tgt := 412) (off := 393) C dd_M_sort_19 hx (by decide +kernel) (by decide +kernel) (by decide +kernel) (by decide) ?_
        refine lv_iconst (v := np_i 0) C.x C.b dd_M_sort_412 rfl ?_
        exact hQ _ _ _ _ _ dd_M_sort_413 hf hat
      refine np_case hf (fun hx hf => ?_) (fun n87 hf => ?_)
      · refine np_tswI (tgt := 412) (off := 393) C dd_M_sort_19 hx (by decide +kernel) (by decide +kernel) (by decide +kernel) (by decide) ?_
        refine lv_iconst (v := np_i 0) C.x C.b dd_M_sort_412 rfl ?_
        exact hQ _ _ _ _ _ dd_M_sort_413 hf hat
      refine np_case hf (fun hx hf => ?_) (fun n88 hf => ?_)
      · refine np_tswI (tgt := 412) (off := 393) C dd_M_sort_19 hx (by decide +kernel) (by decide +kernel) (by decide +kernel) (by decide) ?_
        refine lv_iconst (v := np_i 0) C.x C.b dd_M_sort_412 rfl ?_
        exact hQ _ _ _ _ _ dd_M_sort_413 hf hat
      refine np_case hf (fun hx hf => ?_) (fun n89 hf => ?_)
      · refine np_tswI (tgt := 412) (off := 393) C dd_M_sort_19 hx (by decide +kernel) (by decide +kernel) (by decide +kernel) (by decide) ?_
        refine lv_iconst (v := np_i 0) C.x C.b dd_M_sort_412 rfl ?_
        exact hQ _ _ _ _ _ dd_M_sort_413 hf hat
      refine np_case hf (fun hx hf => ?_) (fun n90 hf => ?_)
      · refine np_tswI (tgt := 412) (off := 393) C dd_M_sort_19 hx (by decide +kernel) (by decide +kernel) (by decide +kernel) (by decide) ?_
        refine lv_iconst (v := np_i 0) C.x C.b dd_M_sort_412 rfl ?_
        exact hQ _ _ _ _ _ dd_M_sort_413 hf hat
      refine np_case hf (fun hx hf => ?_) (fun n91 hf => ?_)
      · refine np_tswI (tgt := 410) (off := 391) C dd_M_sort_19 hx (by decide +kernel) (by decide +kernel) (by decide +kernel) (by decide) ?_
        refine lv_iconst (v := np_i 4) C.x C.b dd_M_sort_410 rfl ?_
        exact hQ _ _ _ _ _ dd_M_sort_411 hf hat
      refine np_case hf (fun hx hf => ?_) (fun n92 hf => ?_)
      · refine np_tswI (tgt := 412) (off := 393) C dd_M_sort_19 hx (by decide +kernel) (by decide +kernel) (by decide +kernel) (by decide) ?_
        refine lv_iconst (v := np_i 0) C.x C.b dd_M_sort_412 rfl ?_
        exact hQ _ _ _ _ _ dd_M_sort_413 hf hat
      refine np_case hf (fun hx hf => ?_) (fun n93 hf => ?_)
      · refine np_tswI (tgt := 410) (off := 391) C dd_M_sort_19 hx (by decide +kernel) (by decide +kernel) (by decide +kernel) (by decide) ?_
        refine lv_iconst (v := np_i 4) C.x C.b dd_M_sort_410 rfl ?_
        exact hQ _ _ _ _ _ dd_M_sort_411 hf hat
      refine np_case hf (fun hx hf => ?_) (fun n94 hf => ?_)
      · refine np_tswI (tgt := 408) (off := 389) C dd_M_sort_19 hx (by decide +kernel) (by decide +kernel) (by decide +kernel) (by decide) ?_
        refine lv_iconst (v := np_i 3) C.x C.b dd_M_sort_408 rfl ?_
        exact hQ _ _ _ _ _ dd_M_sort_409 hf hat
      refine np_case hf (fun hx hf => ?_) (fun n95 hf => ?_)
      · refine np_tswI (tgt := 412) (off := 393) C dd_M_sort_19 hx (by decide +kernel) (by decide +kernel) (by decide +kernel) (by decide) ?_
        refine lv_iconst (v := np_i 0) C.x C.b dd_M_sort_412 rfl ?_
        exact hQ _ _ _ _ _ dd_M_sort_413 hf hat
      refine np_case hf (fun hx hf => ?_) (fun n96 hf => ?_)
      · refine np_tswI (tgt := 412) (off := 393) C dd_M_sort_19 hx (by decide +kernel) (by decide +kernel) (by decide +kernel) (by decide) ?_
        refine lv_iconst (v := np_i 0) C.x C.b dd_M_sort_412 rfl ?_
        exact hQ _ _ _ _ _ dd_M_sort_413 hf hat
      refine np_case hf (fun hx hf => ?_) (fun n97 hf => ?_)
      · refine np_tswI (tgt := 412) (off := 393) C dd_M_sort_19 hx (by decide +kernel) (by decide +kernel) (by decide +kernel) (by decide) ?_
        refine lv_iconst (v := np_i 0) C.x C.b dd_M_sort_412 rfl ?_
        exact hQ _ _ _ _ _ dd_M_sort_413 hf hat
      refine np_case hf (fun hx hf => ?_) (fun n98 hf => ?_)
      · refine np_tswI (tgt := 412) (off := 393) C dd_M_sort_19 hx (by decide +kernel) (by decide +kernel) (by decide +kernel) (by decide) ?_
        refine lv_iconst (v := np_i 0) C.x C.b dd_M_sort_412 rfl ?_
        exact hQ _ _ _ _ _ dd_M_sort_413 hf hat
      refine np_case hf (fun hx hf => ?_) (fun n99 hf => ?_)
      · refine np_tswI (tgt := 412) (off := 393) C dd_M_sort_19 hx (by decide +kernel) (by decide +kernel) (by decide +kernel) (by decide) ?_
        refine lv_iconst (v := np_i 0) C.x C.b dd_M_sort_412 rfl ?_
        exact hQ _ _ _ _ _ dd_M_sort_413 hf hat
      refine np_case hf (fun hx hf => ?_) (fun n100 hf => ?_)
      · refine np_tswI (tgt := 412) (off := 393) C dd_M_sort_19 hx (by decide +kernel) (by decide +kernel) (by decide +kernel) (by decide) ?_
        refine lv_iconst (v := np_i 0) C.x C.b dd_M_sort_412 rfl ?_
        exact hQ _ _ _ _ _ dd_M_sort_413 hf hat
      refine np_case hf (fun hx hf => ?_) (fun n101 hf => ?_)
      · refine np_tswI (tgt := 412) (off := 393) C dd_M_sort_19 hx (by decide +kernel) (by decide +kernel) (by decide +kernel) (by decide) ?_
        refine lv_iconst (v := np_i 0) C.x C.b dd_M_sort_412 rfl ?_
        exact hQ _ _ _ _ _ dd_M_sort_413 hf hat
      refine np_case hf (fun hx hf => ?_) (fun n102 hf => ?_)
      · refine np_tswI (tgt := 412) (off := 393) C dd_M_sort_19 hx (by decide +kernel) (by decide +kernel) (by decide +kernel) (by decide) ?_
        refine lv_iconst (v := np_i 0) C.x C.b dd_M_sort_412 rfl ?_
        exact hQ _ _ _ _ _ dd_M_sort_413 hf hat
      refine np_case hf (fun hx hf => ?_) (fun n103 hf => ?_)
      · refine np_tswI (tgt := 412) (off := 393) C dd_M_sort_19 hx (by decide +kernel) (by decide +kernel) (by decide +kernel) (by decide) ?_
        refine lv_iconst (v := np_i 0) C.x C.b dd_M_sort_412 rfl ?_
        exact hQ _ _ _ _ _ dd_M_sort_413 hf hat
      refine np_case hf (fun hx hf => ?_) (fun n104 hf => ?_)
      · refine np_tswI (tgt := 412) (off := 393) C dd_M_sort_19 hx (by decide +kernel) (by decide +kernel) (by decide +kernel) (by decide) ?_
        refine lv_iconst (v := np_i 0) C.x C.b dd_M_sort_412 rfl ?_
        exact hQ _ _ _ _ _ dd_M_sort_413 hf hat
      refine np_case hf (fun hx hf => ?_) (fun n105 hf => ?_)
      · refine np_tswI (tgt := 412) (off := 393) C dd_M_sort_19 hx (by decide +kernel) (by decide +kernel) (by decide +kernel) (by decide) ?_
        refine lv_iconst (v := np_i 0) C.x C.b dd_M_sort_412 rfl ?_
        exact hQ _ _ _ _ _ dd_M_sort_413 hf hat
      refine np_case hf (fun hx hf => ?_) (fun n106 hf => ?_)
      · refine np_tswI (tgt := 412) (off := 393) C dd_M_sort_19 hx (by decide +kernel) (by decide +kernel) (by decide +kernel) (by decide) ?_
        refine lv_iconst (v := np_i 0) C.x C.b dd_M_sort_412 rfl ?_
        exact hQ _ _ _ _ _ dd_M_sort_413 hf hat
      refine np_case hf (fun hx hf => ?_) (fun n107 hf => ?_)
      · refine np_tswI (tgt := 412) (off := 393) C dd_M_sort_19 hx (by decide +kernel) (by decide +kernel) (by decide +kernel) (by decide) ?_
        refine lv_iconst (v := np_i 0) C.x C.b dd_M_sort_412 rfl ?_
        exact hQ _ _ _ _ _ dd_M_sort_413 hf hat
      refine np_case hf (fun hx hf => ?_) (fun n108 hf => ?_)
      · refine np_tswI (tgt := 412) (off := 393) C dd_M_sort_19 hx (by decide +kernel) (by decide +kernel) (by decide +kernel) (by decide) ?_
        refine lv_iconst (v := np_i 0) C.x C.b dd_M_sort_412 rfl ?_
        exact hQ _ _ _ _ _ dd_M_sort_413 hf hat
      refine np_case hf (fun hx hf => ?_) (fun n109 hf => ?_)
      · refine np_tswI (tgt := 412) (off := 393) C dd_M_sort_19 hx (by decide +kernel) (by decide +kernel) (by decide +kernel) (by decide) ?_
        refine lv_iconst (v := np_i 0) C.x C.b dd_M_sort_412 rfl ?_
        exact hQ _ _ _ _ _ dd_M_sort_413 hf hat
      refine np_case hf (fun hx hf => ?_) (fun n110 hf => ?_)
      · refine np_tswI (tgt := 412) (off := 393) C dd_M_sort_19 hx (by decide +kernel) (by decide +kernel) (by decide +kernel) (by decide) ?_
        refine lv_iconst (v := np_i 0) C.x C.b dd_M_sort_412 rfl ?_
        exact hQ _ _ _ _ _ dd_M_sort_413 hf hat
      refine np_case hf (fun hx hf => ?_) (fun n111 hf => ?_)
      · refine np_tswI (tgt := 412) (off := 393) C dd_M_sort_19 hx (by decide +kernel) (by decide +kernel) (by decide +kernel) (by decide) ?_
        refine lv_iconst (v := np_i 0) C.x C.b dd_M_sort_412 rfl ?_
        exact hQ _ _ _ _ _ dd_M_sort_413 hf hat
      refine np_case hf (fun hx hf => ?_) (fun n112 hf => ?_)
      · refine np_tswI (tgt := 412) (off := 393) C dd_M_sort_19 hx (by decide +kernel) (by decide +kernel) (by decide +kernel) (by decide) ?_
        refine lv_iconst (v := np_i 0) C.x C.b dd_M_sort_412 rfl ?_
        exact hQ _ _ _ _ _ dd_M_sort_413 hf hat
      refine np_case hf (fun hx hf => ?_) (fun n113 hf => ?_)
      · refine np_tswI (tgt := 412) (off := 393) C dd_M_sort_19 hx (by decide +kernel) (by decide +kernel) (by decide +kernel) (by decide) ?_
        refine lv_iconst (v := np_i 0) C.x C.b dd_M_sort_412 rfl ?_
        exact hQ _ _ _ _ _ dd_M_sort_413 hf hat
      refine np_case hf (fun hx hf => ?_) (fun n114 hf => ?_)
      · refine np_tswI (tgt := 412) (off := 393) C dd_M_sort_19 hx (by decide +kernel) (by decide +kernel) (by decide +kernel) (by decide) ?_
        refine lv_iconst (v := np_i 0) C.x C.b dd_M_sort_412 rfl ?_
        exact hQ _ _ _ _ _ dd_M_sort_413 hf hat
      refine np_case hf (fun hx hf => ?_) (fun n115 hf => ?_)
      · refine np_tswI (tgt := 412) (off := 393) C dd_M_sort_19 hx (by decide +kernel) (by decide +kernel) (by decide +kernel) (by decide) ?_
        refine lv_iconst (v := np_i 0) C.x C.b dd_M_sort_412 rfl ?_
        exact hQ _ _ _ _ _ dd_M_sort_413 hf hat
      refine np_case hf (fun hx hf => ?_) (fun n116 hf => ?_)
      · refine np_tswI (tgt := 412) (off := 393) C dd_M_sort_19 hx (by decide +kernel) (by decide +kernel) (by decide +kernel) (by decide) ?_
        refine lv_iconst (v := np_i 0) C.x C.b dd_M_sort_412 rfl ?_
        exact hQ _ _ _ _ _ dd_M_sort_413 hf hat
      refine np_case hf (fun hx hf => ?_) (fun n117 hf => ?_)
      · refine np_tswI (tgt := 412) (off := 393) C dd_M_sort_19 hx (by decide +kernel) (by decide +kernel) (by decide +kernel) (by decide) ?_
        refine lv_iconst (v := np_i 0) C.x C.b dd_M_sort_412 rfl ?_
        exact hQ _ _ _ _ _ dd_M_sort_413 hf hat
      refine np_case hf (fun hx hf => ?_) (fun n118 hf => ?_)
      · refine np_tswI (tgt := 412) (off := 393) C dd_M_sort_19 hx (by decide +kernel) (by decide +kernel) (by decide +kernel) (by decide) ?_
        refine lv_iconst (v := np_i 0) C.x C.b dd_M_sort_412 rfl ?_
        exact hQ _ _ _ _ _ dd_M_sort_413 hf hat
      refine np_case hf (fun hx hf => ?_) (fun n119 hf => ?_)
      · refine np_tswI (tgt := 412) (off := 393) C dd_M_sort_19 hx (by decide +kernel) (by decide +kernel) (by decide +kernel) (by decide) ?_
        refine lv_iconst (v := np_i 0) C.x C.b dd_M_sort_412 rfl ?_
        exact hQ _ _ _ _ _ dd_M_sort_413 hf hat
      refine np_case hf (fun hx hf => ?_) (fun n120 hf => ?_)
      · refine np_tswI (tgt := 412) (off := 393) C dd_M_sort_19 hx (by decide +kernel) (by decide +kernel) (by decide +kernel) (by decide) ?_
        refine lv_iconst (v := np_i 0) C.x C.b dd_M_sort_412 rfl ?_
        exact hQ _ _ _ _ _ dd_M_sort_413 hf hat
      refine np_case hf (fun hx hf => ?_) (fun n121 hf => ?_)
      · refine np_tswI (tgt := 412) (off := 393) C dd_M_sort_19 hx (by decide +kernel) (by decide +kernel) (by decide +kernel) (by decide) ?_
        refine lv_iconst (v := np_i 0) C.x C.b dd_M_sort_412 rfl ?_
        exact hQ _ _ _ _ _ dd_M_sort_413 hf hat
      refine np_case hf (fun hx hf => ?_) (fun n122 hf => ?_)
      · refine np_tswI (tgt := 412) (off := 393) C dd_M_sort_19 hx (by decide +kernel) (by decide +kernel) (by decide +kernel) (by decide) ?_
        refine lv_iconst (v := np_i 0) C.x C.b dd_M_sort_412 rfl ?_
        exact hQ _ _ _ _ _ dd_M_sort_413 hf hat
      refine np_case hf (fun hx hf => ?_) (fun n123 hf => ?_)
      · refine np_tswI (tgt := 410) (off := 391) C dd_M_sort_19 hx (by decide +kernel) (by decide +kernel) (by decide +kernel) (by decide) ?_
        refine lv_iconst (v := np_i 4) C.x C.b dd_M_sort_410 rfl ?_
        exact hQ _ _ _ _ _ dd_M_sort_411 hf hat
      refine np_case hf (fun hx hf => ?_) (fun n124 hf => ?_)
      · refine np_tswI (tgt := 408) (off := 389) C dd_M_sort_19 hx (by decide +kernel) (by decide +kernel) (by decide +kernel) (by decide) ?_
        refine lv_iconst (v := np_i 3) C.x C.b dd_M_sort_408 rfl ?_
        exact hQ _ _ _ _ _ dd_M_sort_409 hf hat
      refine np_case hf (fun hx hf => ?_) (fun n125 hf => ?_)
      · refine np_tswI (tgt := 410) (off := 391) C dd_M_sort_19 hx (by decide +kernel) (by decide +kernel) (by decide +kernel) (by decide) ?_
        refine lv_iconst (v := np_i 4) C.x C.b dd_M_sort_410 rfl ?_
        exact hQ _ _ _ _ _ dd_M_sort_411 hf hat
      refine np_case hf (fun hx hf => ?_) (fun n126 hf => ?_)
      · refine np_tswI (tgt := 408) (off := 389) C dd_M_sort_19 hx (by decide +kernel) (by decide +kernel) (by decide +kernel) (by decide) ?_
        refine lv_iconst (v := np_i 3) C.x C.b dd_M_sort_408 rfl ?_
        exact hQ _ _ _ _ _ dd_M_sort_409 hf hat
      refine np_tswO (tgt := 412) C dd_M_sort_19 hR (by omega) (by decide) ?_
      refine lv_iconst (v := np_i 0) C.x C.b dd_M_sort_412 rfl ?_
      exact hQ _ _ _ _ _ dd_M_sort_413 hf hat
    · refine lv_iconst (v := np_i 2) C.x C.b dd_M_sort_16 rfl ?_
      exact hQ _ _ _ _ _ dd_M_sort_17 hf hat
  · refine lv_iconst (v := np_i 1) C.x C.b dd_M_sort_7 rfl ?_
    exact hQ _ _ _ _ _ dd_M_sort_8 hf hat
set_option maxHeartbeats 4000000 in
set_option maxRecDepth 100000 in
theorem c_M_sort (l : Launch) {gA : Nat → Nat} {D : va_G} {q : Nat → Nat} {cA : Nat → ClassId} (x0 : Int) (σ : np_S) : np_Mi gA l D np_cl (np_ty cA) (nc_wd q cA) yy_M_sort (.code yy_M_sort prog_9_method_5_code 1 (some .int) :: np_al) { frames := 1, cells := 0, slots := 0, locals := 20 } [.int (np_i x0)] σ (f_M_sort x0 σ) :=
  np_mki (by decide +kernel) (Nat.le_of_ble_eq_true rfl) (fun o p e R s m args below meth c Q A ls hf C hQ hat hl => w_f_M_sort C hQ x0 σ _ _ _ hf hat (lv_sub hl [0] rfl))
set_option maxHeartbeats 4000000 in
set_option maxRecDepth 100000 in
theorem w_f_M_byteOf (C : np_Cx gA p R s m args c D np_cl (np_ty cA) A np_al "NotationParseModel" prog_9_method_6_code 4 { frames := 0, cells := 0, slots := 0, locals := 0 }) (hQ : ∀ (pc : Nat) (ls : Array Slot) (H : Heap) (locs : List Loc) (v : Int) {σ : np_S}, decode prog_9_method_6_code pc = .ok (.ireturn, 1) → some (v, σ) = some out → np_At D np_cl A (nc_wd q cA) s σ H locs → W p l e R s m args below meth c H locs 0 0 Q (F0 m pc ls [.int (np_i v)]))   : ∀ (x0 x2 x3 : Int) (σ : np_S) (H : Heap) (locs : List Loc) (ls : Array Slot), f_M_byteOf  x0 x2 x3 σ = some out → np_At D np_cl A (nc_wd q cA) s σ H locs → lv_has ls 4 [(0, .long (np_l x0)), (2, .int (np_i x2)), (3, .int (np_i x3))] → W p l e R s m args below meth c H locs 0 0 Q (F0 m 0 ls []) := by
  intro x0 x2 x3 σ H locs ls hf hat hl
  unfold f_M_byteOf at hf
  refine lv_lload_n C.x C.b dd_M_byteOf_0 rfl (lv_at hl 0 rfl) ?_
  refine lv_bipush (v := np_i 8) C.x C.b dd_M_byteOf_1 (by decide +kernel) ?_
  refine lv_iload_n C.x C.b dd_M_byteOf_3 rfl (lv_at hl 1 rfl) ?_
  refine lv_iconst (v := np_i 1) C.x C.b dd_M_byteOf_4 rfl ?_
  refine np_isub C dd_M_byteOf_5 ?_
  refine lv_iload_n C.x C.b dd_M_byteOf_6 rfl (lv_at hl 2 rfl) ?_
  refine np_isub C dd_M_byteOf_7 ?_
  refine np_imul C dd_M_byteOf_8 ?_
  refine np_lshr C dd_M_byteOf_9 ?_
  refine np_ldc2 (v := 255) C tw_1040 dd_M_byteOf_10 ?_
  refine np_land C dd_M_byteOf_13 ?_
  refine np_l2i C dd_M_byteOf_14 ?_
  exact hQ _ _ _ _ _ dd_M_byteOf_15 hf hat
set_option maxHeartbeats 4000000 in
set_option maxRecDepth 100000 in
theorem c_M_byteOf (l : Launch) {gA : Nat → Nat} {D : va_G} {q : Nat → Nat} {cA : Nat → ClassId} (x0 x2 x3 : Int) (σ : np_S) : np_Mi gA l D np_cl (np_ty cA) (nc_wd q cA) yy_M_byteOf (.code yy_M_byteOf prog_9_method_6_code 4 (some .int) :: np_al) { frames := 0, cells := 0, slots := 0, locals := 0 } [.long (np_l x0), .int (np_i x2), .int (np_i x3)] σ (f_M_byteOf x0 x2 x3 σ) :=
  np_mki (by decide +kernel) (Nat.le_of_ble_eq_true rfl) (fun o p e R s m args below meth c Q A ls hf C hQ hat hl => w_f_M_byteOf C hQ x0 x2 x3 σ _ _ _ hf hat (lv_sub hl [0, 1, 2] rfl))
set_option maxHeartbeats 4000000 in
set_option maxRecDepth 100000 in
theorem w_f_M_lowest_20 (C : np_Cx gA p R s m args c D np_cl (np_ty cA) A np_al "NotationParseModel" prog_9_method_7_code 3 { frames := 0, cells := 0, slots := 0, locals := 0 }) (hQ : ∀ (pc : Nat) (ls : Array Slot) (H : Heap) (locs : List Loc) (v : Int) {σ : np_S}, decode prog_9_method_7_code pc = .ok (.lreturn, 1) → some (v, σ) = some out → np_At D np_cl A (nc_wd q cA) s σ H locs → W p l e R s m args below meth c H locs 0 0 Q (F0 m pc ls [.long (np_l v)]))   : ∀ (t0 : Int) (σ : np_S) (H : Heap) (locs : List Loc) (ls : Array Slot), f_M_lowest_20  t0 σ = some out → np_At D np_cl A (nc_wd q cA) s σ H locs → lv_has ls 3 [] → W p l e R s m args below meth c H locs 0 0 Q (F0 m 20 ls [.long (np_l t0)]) := by
  intro t0 σ H locs ls hf hat hl
  unfold f_M_lowest_20 at hf
  exact hQ _ _ _ _ _ dd_M_lowest_20 hf hat
set_option maxHeartbeats 4000000 in
set_option maxRecDepth 100000 in
theorem w_f_M_lowest (C : np_Cx gA p R s m args c D np_cl (np_ty cA) A np_al "NotationParseModel" prog_9_method_7_code 3 { frames := 0, cells := 0, slots := 0, locals := 0 }) (hQ : ∀ (pc : Nat) (ls : Array Slot) (H : Heap) (locs : List Loc) (v : Int) {σ : np_S}, decode prog_9_method_7_code pc = .ok (.lreturn, 1) → some (v, σ) = some out → np_At D np_cl A (nc_wd q cA) s σ H locs → W p l e R s m args below meth c H locs 0 0 Q (F0 m pc ls [.long (np_l v)]))   : ∀ (x0 x2 : Int) (σ : np_S) (H : Heap) (locs : List Loc) (ls : Array Slot), f_M_lowest  x0 x2 σ = some out → np_At D np_cl A (nc_wd q cA) s σ H locs → lv_has ls 3 [(0, .long (np_l x0)), (2, .int (np_i x2))] → W p l e R s m args below meth c H locs 0 0 Q (F0 m 0 ls []) := by
  intro x0 x2 σ H locs ls hf hat hl
  unfold f_M_lowest at hf
  refine lv_iload_n C.x C.b dd_M_lowest_0 rfl (lv_at hl 1 rfl) ?_
  refine lv_bipush (v := np_i 8) C.x C.b dd_M_lowest_1 (by decide +kernel) ?_
  refine np_icmp_ne (tgt := 10) C dd_M_lowest_3 (by decide) hf (fun _ hf => ?_) (fun _ hf => ?_)
  · refine lv_lload_n C.x C.b dd_M_lowest_10 rfl (lv_at hl 0 rfl) ?_
    refine lv_lconst (v := np_l 1) C.x C.b dd_M_lowest_11 (by decide +kernel) ?_
    refine lv_bipush (v := np_i 8) C.x C.b dd_M_lowest_12 (by decide +kernel) ?_
    refine lv_iload_n C.x C.b dd_M_lowest_14 rfl (lv_at hl 1 rfl) ?_
    refine np_imul C dd_M_lowest_15 ?_
    refine np_lshl C dd_M_lowest_16 ?_
    refine lv_lconst (v := np_l 1) C.x C.b dd_M_lowest_17 (by decide +kernel) ?_
    refine np_lsub C dd_M_lowest_18 ?_
    refine np_land C dd_M_lowest_19 ?_
    exact w_f_M_lowest_20 C hQ  _ _ _ _ _ hf hat (lv_sub hl [] rfl)
  · refine lv_lload_n C.x C.b dd_M_lowest_6 rfl (lv_at hl 0 rfl) ?_
    refine lv_goto (tgt := 20) C.x C.b dd_M_lowest_7 (by decide) ?_
    exact w_f_M_lowest_20 C hQ  _ _ _ _ _ hf hat (lv_sub hl [] rfl)
set_option maxHeartbeats 4000000 in
set_option maxRecDepth 100000 in
theorem c_M_lowest (l : Launch) {gA : Nat → Nat} {D : va_G} {q : Nat → Nat} {cA : Nat → ClassId} (x0 x2 : Int) (σ : np_S) : np_Ml gA l D np_cl (np_ty cA) (nc_wd q cA) yy_M_lowest (.code yy_M_lowest prog_9_method_7_code 3 (some .long) :: np_al) { frames := 0, cells := 0, slots := 0, locals := 0 } [.long (np_l x0), .int (np_i x2)] σ (f_M_lowest x0 x2 σ) :=
  np_mkl (by decide +kernel) (Nat.le_of_ble_eq_true rfl) (fun o p e R s m args below meth c Q A ls hf C hQ hat hl => w_f_M_lowest C hQ x0 x2 σ _ _ _ hf hat (lv_sub hl [0, 1] rfl))
set_option maxHeartbeats 4000000 in
set_option maxRecDepth 100000 in
theorem w_f_M_isWord_11 (C : np_Cx gA p R s m args c D np_cl (np_ty cA) A np_al "NotationParseModel" prog_9_method_8_code 6 { frames := 2, cells := 0, slots := 0, locals := 40 }) (hQ : ∀ (pc : Nat) (ls : Array Slot) (H : Heap) (locs : List Loc) (v : Int) {σ : np_S}, decode prog_9_method_8_code pc = .ok (.ireturn, 1) → np_ck (v = 0 ∨ v = 1) (some (v, σ)) = some out → np_At D np_cl A (nc_wd q cA) s σ H locs → W p l e R s m args below meth c H locs 0 0 Q (F0 m pc ls [.int (np_i v)]))   : ∀ (σ : np_S) (H : Heap) (locs : List Loc) (ls : Array Slot), f_M_isWord_11  σ = some out → np_At D np_cl A (nc_wd q cA) s σ H locs → lv_has ls 6 [] → W p l e R s m args below meth c H locs 0 0 Q (F0 m 11 ls []) := by
  intro σ H locs ls hf hat hl
  unfold f_M_isWord_11 at hf
  refine lv_iconst (v := np_i 0) C.x C.b dd_M_isWord_11 rfl ?_
  exact hQ _ _ _ _ _ dd_M_isWord_12 hf hat
set_option maxHeartbeats 4000000 in
set_option maxRecDepth 100000 in
theorem w_f_M_isWord_77 (C : np_Cx gA p R s m args c D np_cl (np_ty cA) A np_al "NotationParseModel" prog_9_method_8_code 6 { frames := 2, cells := 0, slots := 0, locals := 40 }) (hQ : ∀ (pc : Nat) (ls : Array Slot) (H : Heap) (locs : List Loc) (v : Int) {σ : np_S}, decode prog_9_method_8_code pc = .ok (.ireturn, 1) → np_ck (v = 0 ∨ v = 1) (some (v, σ)) = some out → np_At D np_cl A (nc_wd q cA) s σ H locs → W p l e R s m args below meth c H locs 0 0 Q (F0 m pc ls [.int (np_i v)])) {k47 : (Int → Int → Int → Int → Int → np_S → Option np_O)} (h47 : ∀ (x0 x2 x3 x4 x5 : Int) (σ : np_S) (H : Heap) (locs : List Loc) (ls : Array Slot), k47 x0 x2 x3 x4 x5 σ = some out → np_At D np_cl A (nc_wd q cA) s σ H locs → lv_has ls 6 [(0, .long (np_l x0)), (2, .int (np_i x2)), (3, .int (np_i x3)), (4, .int (np_i x4)), (5, .int (np_i x5))] → W p l e R s m args below meth c H locs 0 0 Q (F0 m 47 ls [])) : ∀ (x0 x2 x3 x5 t0 : Int) (σ : np_S) (H : Heap) (locs : List Loc) (ls : Array Slot), f_M_isWord_77 k47 x0 x2 x3 x5 t0 σ = some out → np_At D np_cl A (nc_wd q cA) s σ H locs → lv_has ls 6 [(0, .long (np_l x0)), (2, .int (np_i x2)), (3, .int (np_i x3)), (5, .int (np_i x5))] → W p l e R s m args below meth c H locs 0 0 Q (F0 m 77 ls [.int (np_i t0)]) := by
  intro x0 x2 x3 x5 t0 σ H locs ls hf hat hl
  unfold f_M_isWord_77 at hf
  refine lv_istore (lv' := [(4, .int (np_i t0)), (0, .long (np_l x0)), (2, .int (np_i x2)), (3, .int (np_i x3)), (5, .int (np_i x5))]) C.x C.b dd_M_isWord_77 hl (by decide) rfl (fun ls hl => ?_)
  refine lv_iinc (v := np_i (x5 + 1)) (lv' := [(5, .int (np_i (x5 + 1))), (4, .int (np_i t0)), (0, .long (np_l x0)), (2, .int (np_i x2)), (3, .int (np_i x3))]) C.x C.b dd_M_isWord_79 hl (k := 4) rfl (np_inc _ _) (by decide) rfl (fun ls hl => ?_)
  refine lv_goto (tgt := 47) C.x C.b dd_M_isWord_82 (by decide) ?_
  exact h47 _ _ _ _ _ _ _ _ _ hf hat (lv_sub hl [2, 3, 4, 1, 0] rfl)
set_option maxHeartbeats 4000000 in
set_option maxRecDepth 100000 in
theorem w_f_M_isWord_76 (C : np_Cx gA p R s m args c D np_cl (np_ty cA) A np_al "NotationParseModel" prog_9_method_8_code 6 { frames := 2, cells := 0, slots := 0, locals := 40 }) (hQ : ∀ (pc : Nat) (ls : Array Slot) (H : Heap) (locs : List Loc) (v : Int) {σ : np_S}, decode prog_9_method_8_code pc = .ok (.ireturn, 1) → np_ck (v = 0 ∨ v = 1) (some (v, σ)) = some out → np_At D np_cl A (nc_wd q cA) s σ H locs → W p l e R s m args below meth c H locs 0 0 Q (F0 m pc ls [.int (np_i v)])) {k47 : (Int → Int → Int → Int → Int → np_S → Option np_O)} (h47 : ∀ (x0 x2 x3 x4 x5 : Int) (σ : np_S) (H : Heap) (locs : List Loc) (ls : Array Slot), k47 x0 x2 x3 x4 x5 σ = some out → np_At D np_cl A (nc_wd q cA) s σ H locs → lv_has ls 6 [(0, .long (np_l x0)), (2, .int (np_i x2)), (3, .int (np_i x3)), (4, .int (np_i x4)), (5, .int (np_i x5))] → W p l e R s m args below meth c H locs 0 0 Q (F0 m 47 ls [])) : ∀ (x0 x2 x3 x5 : Int) (σ : np_S) (H : Heap) (locs : List Loc) (ls : Array Slot), f_M_isWord_76 k47 x0 x2 x3 x5 σ = some out → np_At D np_cl A (nc_wd q cA) s σ H locs → lv_has ls 6 [(0, .long (np_l x0)), (2, .int (np_i x2)), (3, .int (np_i x3)), (5, .int (np_i x5))] → W p l e R s m args below meth c H locs 0 0 Q (F0 m 76 ls []) := by
  intro x0 x2 x3 x5 σ H locs ls hf hat hl
  unfold f_M_isWord_76 at hf
  refine lv_iconst (v := np_i 0) C.x C.b dd_M_isWord_76 rfl ?_
  exact w_f_M_isWord_77 C hQ h47 _ _ _ _ _ _ _ _ _ hf hat (lv_sub hl [0, 1, 2, 3] rfl)
set_option maxHeartbeats 4000000 in
set_option maxRecDepth 100000 in
theorem w_f_M_isWord_47 (C : np_Cx gA p R s m args c D np_cl (np_ty cA) A np_al "NotationParseModel" prog_9_method_8_code 6 { frames := 2, cells := 0, slots := 0, locals := 40 }) (hQ : ∀ (pc : Nat) (ls : Array Slot) (H : Heap) (locs : List Loc) (v : Int) {σ : np_S}, decode prog_9_method_8_code pc = .ok (.ireturn, 1) → np_ck (v = 0 ∨ v = 1) (some (v, σ)) = some out → np_At D np_cl A (nc_wd q cA) s σ H locs → W p l e R s m args below meth c H locs 0 0 Q (F0 m pc ls [.int (np_i v)]))   : ∀ (n : Nat), ∀ (x0 x2 x3 x4 x5 : Int) (σ : np_S) (H : Heap) (locs : List Loc) (ls : Array Slot), f_M_isWord_47  n x0 x2 x3 x4 x5 σ = some out → np_At D np_cl A (nc_wd q cA) s σ H locs → lv_has ls 6 [(0, .long (np_l x0)), (2, .int (np_i x2)), (3, .int (np_i x3)), (4, .int (np_i x4)), (5, .int (np_i x5))] → W p l e R s m args below meth c H locs 0 0 Q (F0 m 47 ls []) := by
  intro n
  induction n with
  | zero => intro x0 x2 x3 x4 x5 σ H locs ls hf; cases hf
  | succ n ih =>
    intro x0 x2 x3 x4 x5 σ H locs ls hf hat hl
    have h47 := ih
    have hf : f_M_isWord_47_b  (fun x0 x2 x3 x4 x5 σ => f_M_isWord_47  n x0 x2 x3 x4 x5 σ) x0 x2 x3 x4 x5 σ = some out := hf
    unfold f_M_isWord_47_b at hf
    refine lv_iload C.x C.b dd_M_isWord_47 (lv_at hl 4 rfl) ?_
    refine lv_iload_n C.x C.b dd_M_isWord_49 rfl (lv_at hl 1 rfl) ?_
    refine np_icmp_ge (tgt := 85) C dd_M_isWord_50 (by decide) hf (fun _ hf => ?_) (fun _ hf => ?_)
    · refine lv_iload C.x C.b dd_M_isWord_85 (lv_at hl 3 rfl) ?_
      exact hQ _ _ _ _ _ dd_M_isWord_87 hf hat
    · refine lv_iload C.x C.b dd_M_isWord_53 (lv_at hl 3 rfl) ?_
      refine np_if_eq (tgt := 76) C dd_M_isWord_55 (by decide) hf (fun _ hf => ?_) (fun _ hf => ?_)
      · exact w_f_M_isWord_76 C hQ h47 _ _ _ _ _ _ _ _ hf hat (lv_sub hl [0, 1, 2, 4] rfl)
      · refine lv_lload_n C.x C.b dd_M_isWord_58 rfl (lv_at hl 0 rfl) ?_
        refine lv_iload_n C.x C.b dd_M_isWord_59 rfl (lv_at hl 1 rfl) ?_
        refine lv_iload C.x C.b dd_M_isWord_60 (lv_at hl 4 rfl) ?_
        refine np_callSi (As := [.long (np_l x0), .int (np_i x2), .int (np_i x5)]) (rest := []) C (c_M_byteOf l x0 x2 x5 _) np_allgood tw_1037 tw_1038 tw_8 tw_1039 (nA := 3) (by decide +kernel) rfl ⟨rfl, rfl, Nat.le_of_ble_eq_true rfl, Nat.le_of_ble_eq_true rfl⟩ hat rfl hl.1 (Nat.le_of_ble_eq_true rfl) dd_M_isWord_62 hf (fun o1 H locs hf hat => ?_)
        refine np_callSi (As := [.int (np_i o1.1)]) (rest := []) C (c_M_sort l o1.1 _) np_allgood tw_1041 tw_1042 tw_8 tw_1043 (nA := 1) (by decide +kernel) rfl ⟨rfl, rfl, Nat.le_of_ble_eq_true rfl, Nat.le_of_ble_eq_true rfl⟩ hat rfl hl.1 (Nat.le_of_ble_eq_true rfl) dd_M_isWord_65 hf (fun o2 H locs hf hat => ?_)
        refine lv_iload_n C.x C.b dd_M_isWord_68 rfl (lv_at hl 2 rfl) ?_
        refine np_icmp_ne (tgt := 76) C dd_M_isWord_69 (by decide) hf (fun _ hf => ?_) (fun _ hf => ?_)
        · exact w_f_M_isWord_76 C hQ h47 _ _ _ _ _ _ _ _ hf hat (lv_sub hl [0, 1, 2, 4] rfl)
        · refine lv_iconst (v := np_i 1) C.x C.b dd_M_isWord_72 rfl ?_
          refine lv_goto (tgt := 77) C.x C.b dd_M_isWord_73 (by decide) ?_
          exact w_f_M_isWord_77 C hQ h47 _ _ _ _ _ _ _ _ _ hf hat (lv_sub hl [0, 1, 2, 4] rfl)
set_option maxHeartbeats 4000000 in
set_option maxRecDepth 100000 in
theorem w_f_M_isWord_42 (C : np_Cx gA p R s m args c D np_cl (np_ty cA) A np_al "NotationParseModel" prog_9_method_8_code 6 { frames := 2, cells := 0, slots := 0, locals := 40 }) (hQ : ∀ (pc : Nat) (ls : Array Slot) (H : Heap) (locs : List Loc) (v : Int) {σ : np_S}, decode prog_9_method_8_code pc = .ok (.ireturn, 1) → np_ck (v = 0 ∨ v = 1) (some (v, σ)) = some out → np_At D np_cl A (nc_wd q cA) s σ H locs → W p l e R s m args below meth c H locs 0 0 Q (F0 m pc ls [.int (np_i v)]))   : ∀ (x0 x2 x3 t0 : Int) (σ : np_S) (H : Heap) (locs : List Loc) (ls : Array Slot), f_M_isWord_42  x0 x2 x3 t0 σ = some out → np_At D np_cl A (nc_wd q cA) s σ H locs → lv_has ls 6 [(0, .long (np_l x0)), (2, .int (np_i x2)), (3, .int (np_i x3))] → W p l e R s m args below meth c H locs 0 0 Q (F0 m 42 ls [.int (np_i t0)]) := by
  intro x0 x2 x3 t0 σ H locs ls hf hat hl
  unfold f_M_isWord_42 at hf
  refine lv_istore (lv' := [(4, .int (np_i t0)), (0, .long (np_l x0)), (2, .int (np_i x2)), (3, .int (np_i x3))]) C.x C.b dd_M_isWord_42 hl (by decide) rfl (fun ls hl => ?_)
  refine lv_iconst (v := np_i 1) C.x C.b dd_M_isWord_44 rfl ?_
  refine lv_istore (lv' := [(5, .int (np_i 1)), (4, .int (np_i t0)), (0, .long (np_l x0)), (2, .int (np_i x2)), (3, .int (np_i x3))]) C.x C.b dd_M_isWord_45 hl (by decide) rfl (fun ls hl => ?_)
  exact w_f_M_isWord_47 C hQ  20000 _ _ _ _ _ _ _ _ _ hf hat (lv_sub hl [2, 3, 4, 1, 0] rfl)
set_option maxHeartbeats 4000000 in
set_option maxRecDepth 100000 in
theorem w_f_M_isWord_41 (C : np_Cx gA p R s m args c D np_cl (np_ty cA) A np_al "NotationParseModel" prog_9_method_8_code 6 { frames := 2, cells := 0, slots := 0, locals := 40 }) (hQ : ∀ (pc : Nat) (ls : Array Slot) (H : Heap) (locs : List Loc) (v : Int) {σ : np_S}, decode prog_9_method_8_code pc = .ok (.ireturn, 1) → np_ck (v = 0 ∨ v = 1) (some (v, σ)) = some out → np_At D np_cl A (nc_wd q cA) s σ H locs → W p l e R s m args below meth c H locs 0 0 Q (F0 m pc ls [.int (np_i v)]))   : ∀ (x0 x2 x3 : Int) (σ : np_S) (H : Heap) (locs : List Loc) (ls : Array Slot), f_M_isWord_41  x0 x2 x3 σ = some out → np_At D np_cl A (nc_wd q cA) s σ H locs → lv_has ls 6 [(0, .long (np_l x0)), (2, .int (np_i x2)), (3, .int (np_i x3))] → W p l e R s m args below meth c H locs 0 0 Q (F0 m 41 ls []) := by
  intro x0 x2 x3 σ H locs ls hf hat hl
  unfold f_M_isWord_41 at hf
  refine lv_iconst (v := np_i 0) C.x C.b dd_M_isWord_41 rfl ?_
  exact w_f_M_isWord_42 C hQ  _ _ _ _ _ _ _ _ hf hat (lv_sub hl [0, 1, 2] rfl)
set_option maxHeartbeats 4000000 in
set_option maxRecDepth 100000 in
theorem w_f_M_isWord_37 (C : np_Cx gA p R s m args c D np_cl (np_ty cA) A np_al "NotationParseModel" prog_9_method_8_code 6 { frames := 2, cells := 0, slots := 0, locals := 40 }) (hQ : ∀ (pc : Nat) (ls : Array Slot) (H : Heap) (locs : List Loc) (v : Int) {σ : np_S}, decode prog_9_method_8_code pc = .ok (.ireturn, 1) → np_ck (v = 0 ∨ v = 1) (some (v, σ)) = some out → np_At D np_cl A (nc_wd q cA) s σ H locs → W p l e R s m args below meth c H locs 0 0 Q (F0 m pc ls [.int (np_i v)]))   : ∀ (x0 x2 x3 : Int) (σ : np_S) (H : Heap) (locs : List Loc) (ls : Array Slot), f_M_isWord_37  x0 x2 x3 σ = some out → np_At D np_cl A (nc_wd q cA) s σ H locs → lv_has ls 6 [(0, .long (np_l x0)), (2, .int (np_i x2)), (3, .int (np_i x3))] → W p l e R s m args below meth c H locs 0 0 Q (F0 m 37 ls []) := by
  intro x0 x2 x3 σ H locs ls hf hat hl
  unfold f_M_isWord_37 at hf
  refine lv_iconst (v := np_i 1) C.x C.b dd_M_isWord_37 rfl ?_
  refine lv_goto (tgt := 42) C.x C.b dd_M_isWord_38 (by decide) ?_
  exact w_f_M_isWord_42 C hQ  _ _ _ _ _ _ _ _ hf hat (lv_sub hl [0, 1, 2] rfl)
set_option maxHeartbeats 4000000 in
set_option maxRecDepth 100000 in
theorem w_f_M_isWord (C : np_Cx gA p R s m args c D np_cl (np_ty cA) A np_al "NotationParseModel" prog_9_method_8_code 6 { frames := 2, cells := 0, slots := 0, locals := 40 }) (hQ : ∀ (pc : Nat) (ls : Array Slot) (H : Heap) (locs : List Loc) (v : Int) {σ : np_S}, decode prog_9_method_8_code pc = .ok (.ireturn, 1) → np_ck (v = 0 ∨ v = 1) (some (v, σ)) = some out → np_At D np_cl A (nc_wd q cA) s σ H locs → W p l e R s m args below meth c H locs 0 0 Q (F0 m pc ls [.int (np_i v)]))   : ∀ (x0 x2 : Int) (σ : np_S) (H : Heap) (locs : List Loc) (ls : Array Slot), f_M_isWord  x0 x2 σ = some out → np_At D np_cl A (nc_wd q cA) s σ H locs → lv_has ls 6 [(0, .long (np_l x0)), (2, .int (np_i x2))] → W p l e R s m args below meth c H locs 0 0 Q (F0 m 0 ls []) := by
  intro x0 x2 σ H locs ls hf hat hl
  unfold f_M_isWord at hf
  refine lv_iload_n C.x C.b dd_M_isWord_0 rfl (lv_at hl 1 rfl) ?_
  refine lv_iconst (v := np_i 1) C.x C.b dd_M_isWord_1 rfl ?_
  refine np_icmp_lt (tgt := 11) C dd_M_isWord_2 (by decide) hf (fun _ hf => ?_) (fun _ hf => ?_)
  · exact w_f_M_isWord_11 C hQ   _ _ _ _ hf hat (lv_sub hl [] rfl)
  · refine lv_iload_n C.x C.b dd_M_isWord_5 rfl (lv_at hl 1 rfl) ?_
    refine lv_bipush (v := np_i 8) C.x C.b dd_M_isWord_6 (by decide +kernel) ?_
    refine np_icmp_le (tgt := 13) C dd_M_isWord_8 (by decide) hf (fun _ hf => ?_) (fun _ hf => ?_)
    · refine lv_lload_n C.x C.b dd_M_isWord_13 rfl (lv_at hl 0 rfl) ?_
      refine lv_iload_n C.x C.b dd_M_isWord_14 rfl (lv_at hl 1 rfl) ?_
      refine lv_iconst (v := np_i 0) C.x C.b dd_M_isWord_15 rfl ?_
      refine np_callSi (As := [.long (np_l x0), .int (np_i x2), .int (np_i 0)]) (rest := []) C (c_M_byteOf l x0 x2 0 _) np_allgood tw_1037 tw_1038 tw_8 tw_1039 (nA := 3) (by decide +kernel) rfl ⟨rfl, rfl, Nat.le_of_ble_eq_true rfl, Nat.le_of_ble_eq_true rfl⟩ hat rfl hl.1 (Nat.le_of_ble_eq_true rfl) dd_M_isWord_16 hf (fun o3 H locs hf hat => ?_)
      refine np_callSi (As := [.int (np_i o3.1)]) (rest := []) C (c_M_sort l o3.1 _) np_allgood tw_1041 tw_1042 tw_8 tw_1043 (nA := 1) (by decide +kernel) rfl ⟨rfl, rfl, Nat.le_of_ble_eq_true rfl, Nat.le_of_ble_eq_true rfl⟩ hat rfl hl.1 (Nat.le_of_ble_eq_true rfl) dd_M_isWord_19 hf (fun o4 H locs hf hat => ?_)
      refine lv_istore_n (lv' := [(3, .int (np_i o4.1)), (0, .long (np_l x0)), (2, .int (np_i x2))]) C.x C.b dd_M_isWord_22 rfl hl (by decide) rfl (fun ls hl => ?_)
      refine lv_iload_n C.x C.b dd_M_isWord_23 rfl (lv_at hl 0 rfl) ?_
      refine np_if_le (tgt := 41) C dd_M_isWord_24 (by decide) hf (fun _ hf => ?_) (fun _ hf => ?_)
      · exact w_f_M_isWord_41 C hQ  _ _ _ _ _ _ _ hf hat (lv_sub hl [1, 2, 0] rfl)
      · refine lv_iload_n C.x C.b dd_M_isWord_27 rfl (lv_at hl 0 rfl) ?_
        refine lv_iconst (v := np_i 4) C.x C.b dd_M_isWord_28 rfl ?_
        refine np_icmp_lt (tgt := 37) C dd_M_isWord_29 (by decide) hf (fun _ hf => ?_) (fun _ hf => ?_)
        · exact w_f_M_isWord_37 C hQ  _ _ _ _ _ _ _ hf hat (lv_sub hl [1, 2, 0] rfl)
        · refine lv_iload_n C.x C.b dd_M_isWord_32 rfl (lv_at hl 2 rfl) ?_
          refine lv_iconst (v := np_i 1) C.x C.b dd_M_isWord_33 rfl ?_
          refine np_icmp_ne (tgt := 41) C dd_M_isWord_34 (by decide) hf (fun _ hf => ?_) (fun _ hf => ?_)
          · exact w_f_M_isWord_41 C hQ  _ _ _ _ _ _ _ hf hat (lv_sub hl [1, 2, 0] rfl)
          · exact w_f_M_isWord_37 C hQ  _ _ _ _ _ _ _ hf hat (lv_sub hl [1, 2, 0] rfl)
    · exact w_f_M_isWord_11 C hQ   _ _ _ _ hf hat (lv_sub hl [] rfl)
set_option maxHeartbeats 4000000 in
set_option maxRecDepth 100000 in
theorem c_M_isWord (l : Launch) {gA : Nat → Nat} {D : va_G} {q : Nat → Nat} {cA : Nat → ClassId} (x0 x2 : Int) (σ : np_S) : np_Mi gA l D np_cl (np_ty cA) (nc_wd q cA) yy_M_isWord (.code yy_M_isWord prog_9_method_8_code 6 (some .boolean) :: np_al) { frames := 2, cells := 0, slots := 0, locals := 40 } [.long (np_l x0), .int (np_i x2)] σ (f_M_isWord x0 x2 σ) :=
  np_mkz (by decide +kernel) (Nat.le_of_ble_eq_true rfl) (fun o p e R s m args below meth c Q A ls hf C hQ hat hl => w_f_M_isWord C hQ x0 x2 σ _ _ _ hf hat (lv_sub hl [0, 1] rfl))
set_option maxHeartbeats 4000000 in
set_option maxRecDepth 100000 in
theorem w_f_M_isKeyWord_73 (C : np_Cx gA p R s m args c D np_cl (np_ty cA) A np_al "NotationParseModel" prog_9_method_9_code 6 { frames := 0, cells := 0, slots := 0, locals := 0 }) (hQ : ∀ (pc : Nat) (ls : Array Slot) (H : Heap) (locs : List Loc) (v : Int) {σ : np_S}, decode prog_9_method_9_code pc = .ok (.ireturn, 1) → np_ck (v = 0 ∨ v = 1) (some (v, σ)) = some out → np_At D np_cl A (nc_wd q cA) s σ H locs → W p l e R s m args below meth c H locs 0 0 Q (F0 m pc ls [.int (np_i v)])) {k5 : (Int → Int → Int → np_S → Option np_O)} {k17 : (Int → Int → Int → Int → np_S → Option np_O)} (h5 : ∀ (x1 x3 x4 : Int) (σ : np_S) (H : Heap) (locs : List Loc) (ls : Array Slot), k5 x1 x3 x4 σ = some out → np_At D np_cl A (nc_wd q cA) s σ H locs → lv_has ls 6 [(0, .ref (q 29)), (1, .long (np_l x1)), (3, .int (np_i x3)), (4, .int (np_i x4))] → W p l e R s m args below meth c H locs 0 0 Q (F0 m 5 ls [])) (h17 : ∀ (x1 x3 x4 x5 : Int) (σ : np_S) (H : Heap) (locs : List Loc) (ls : Array Slot), k17 x1 x3 x4 x5 σ = some out → np_At D np_cl A (nc_wd q cA) s σ H locs → lv_has ls 6 [(0, .ref (q 29)), (1, .long (np_l x1)), (3, .int (np_i x3)), (4, .int (np_i x4)), (5, .int (np_i x5))] → W p l e R s m args below meth c H locs 0 0 Q (F0 m 17 ls [])) : ∀ (x1 x4 x5 t0 : Int) (σ : np_S) (H : Heap) (locs : List Loc) (ls : Array Slot), f_M_isKeyWord_73 k5 k17 x1 x4 x5 t0 σ = some out → np_At D np_cl A (nc_wd q cA) s σ H locs → lv_has ls 6 [(0, .ref (q 29)), (1, .long (np_l x1)), (4, .int (np_i x4)), (5, .int (np_i x5))] → W p l e R s m args below meth c H locs 0 0 Q (F0 m 73 ls [.int (np_i t0)]) := by
  intro x1 x4 x5 t0 σ H locs ls hf hat hl
  unfold f_M_isKeyWord_73 at hf
  refine lv_istore_n (lv' := [(3, .int (np_i t0)), (0, .ref (q 29)), (1, .long (np_l x1)), (4, .int (np_i x4)), (5, .int (np_i x5))]) C.x C.b dd_M_isKeyWord_73 rfl hl (by decide) rfl (fun ls hl => ?_)
  refine lv_iinc (v := np_i (x5 + 1)) (lv' := [(5, .int (np_i (x5 + 1))), (3, .int (np_i t0)), (0, .ref (q 29)), (1, .long (np_l x1)), (4, .int (np_i x4))]) C.x C.b dd_M_isKeyWord_74 hl (k := 4) rfl (np_inc _ _) (by decide) rfl (fun ls hl => ?_)
  refine lv_goto (tgt := 17) C.x C.b dd_M_isKeyWord_77 (by decide) ?_
  exact h17 _ _ _ _ _ _ _ _ hf hat (lv_sub hl [2, 3, 1, 4, 0] rfl)
set_option maxHeartbeats 4000000 in
set_option maxRecDepth 100000 in
theorem w_f_M_isKeyWord_68 (C : np_Cx gA p R s m args c D np_cl (np_ty cA) A np_al "NotationParseModel" prog_9_method_9_code 6 { frames := 0, cells := 0, slots := 0, locals := 0 }) (hQ : ∀ (pc : Nat) (ls : Array Slot) (H : Heap) (locs : List Loc) (v : Int) {σ : np_S}, decode prog_9_method_9_code pc = .ok (.ireturn, 1) → np_ck (v = 0 ∨ v = 1) (some (v, σ)) = some out → np_At D np_cl A (nc_wd q cA) s σ H locs → W p l e R s m args below meth c H locs 0 0 Q (F0 m pc ls [.int (np_i v)])) {k5 : (Int → Int → Int → np_S → Option np_O)} {k17 : (Int → Int → Int → Int → np_S → Option np_O)} (h5 : ∀ (x1 x3 x4 : Int) (σ : np_S) (H : Heap) (locs : List Loc) (ls : Array Slot), k5 x1 x3 x4 σ = some out → np_At D np_cl A (nc_wd q cA) s σ H locs → lv_has ls 6 [(0, .ref (q 29)), (1, .long (np_l x1)), (3, .int (np_i x3)), (4, .int (np_i x4))] → W p l e R s m args below meth c H locs 0 0 Q (F0 m 5 ls [])) (h17 : ∀ (x1 x3 x4 x5 : Int) (σ : np_S) (H : Heap) (locs : List Loc) (ls : Array Slot), k17 x1 x3 x4 x5 σ = some out → np_At D np_cl A (nc_wd q cA) s σ H locs → lv_has ls 6 [(0, .ref (q 29)), (1, .long (np_l x1)), (3, .int (np_i x3)), (4, .int (np_i x4)), (5, .int (np_i x5))] → W p l e R s m args below meth c H locs 0 0 Q (F0 m 17 ls [])) : ∀ (x1 x4 x5 : Int) (σ : np_S) (H : Heap) (locs : List Loc) (ls : Array Slot), f_M_isKeyWord_68 k5 k17 x1 x4 x5 σ = some out → np_At D np_cl A (nc_wd q cA) s σ H locs → lv_has ls 6 [(0, .ref (q 29)), (1, .long (np_l x1)), (4, .int (np_i x4)), (5, .int (np_i x5))] → W p l e R s m args below meth c H locs 0 0 Q (F0 m 68 ls []) := by
  intro x1 x4 x5 σ H locs ls hf hat hl
  unfold f_M_isKeyWord_68 at hf
  refine lv_iconst (v := np_i 1) C.x C.b dd_M_isKeyWord_68 rfl ?_
  refine lv_goto (tgt := 73) C.x C.b dd_M_isKeyWord_69 (by decide) ?_
  exact w_f_M_isKeyWord_73 C hQ h5 h17 _ _ _ _ _ _ _ _ hf hat (lv_sub hl [0, 1, 2, 3] rfl)
set_option maxHeartbeats 4000000 in
set_option maxRecDepth 100000 in
theorem w_f_M_isKeyWord_72 (C : np_Cx gA p R s m args c D np_cl (np_ty cA) A np_al "NotationParseModel" prog_9_method_9_code 6 { frames := 0, cells := 0, slots := 0, locals := 0 }) (hQ : ∀ (pc : Nat) (ls : Array Slot) (H : Heap) (locs : List Loc) (v : Int) {σ : np_S}, decode prog_9_method_9_code pc = .ok (.ireturn, 1) → np_ck (v = 0 ∨ v = 1) (some (v, σ)) = some out → np_At D np_cl A (nc_wd q cA) s σ H locs → W p l e R s m args below meth c H locs 0 0 Q (F0 m pc ls [.int (np_i v)])) {k5 : (Int → Int → Int → np_S → Option np_O)} {k17 : (Int → Int → Int → Int → np_S → Option np_O)} (h5 : ∀ (x1 x3 x4 : Int) (σ : np_S) (H : Heap) (locs : List Loc) (ls : Array Slot), k5 x1 x3 x4 σ = some out → np_At D np_cl A (nc_wd q cA) s σ H locs → lv_has ls 6 [(0, .ref (q 29)), (1, .long (np_l x1)), (3, .int (np_i x3)), (4, .int (np_i x4))] → W p l e R s m args below meth c H locs 0 0 Q (F0 m 5 ls [])) (h17 : ∀ (x1 x3 x4 x5 : Int) (σ : np_S) (H : Heap) (locs : List Loc) (ls : Array Slot), k17 x1 x3 x4 x5 σ = some out → np_At D np_cl A (nc_wd q cA) s σ H locs → lv_has ls 6 [(0, .ref (q 29)), (1, .long (np_l x1)), (3, .int (np_i x3)), (4, .int (np_i x4)), (5, .int (np_i x5))] → W p l e R s m args below meth c H locs 0 0 Q (F0 m 17 ls [])) : ∀ (x1 x4 x5 : Int) (σ : np_S) (H : Heap) (locs : List Loc) (ls : Array Slot), f_M_isKeyWord_72 k5 k17 x1 x4 x5 σ = some out → np_At D np_cl A (nc_wd q cA) s σ H locs → lv_has ls 6 [(0, .ref (q 29)), (1, .long (np_l x1)), (4, .int (np_i x4)), (5, .int (np_i x5))] → W p l e R s m args below meth c H locs 0 0 Q (F0 m 72 ls []) := by
  intro x1 x4 x5 σ H locs ls hf hat hl
  unfold f_M_isKeyWord_72 at hf
  refine lv_iconst (v := np_i 0) C.x C.b dd_M_isKeyWord_72 rfl ?_
  exact w_f_M_isKeyWord_73 C hQ h5 h17 _ _ _ _ _ _ _ _ hf hat (lv_sub hl [0, 1, 2, 3] rfl)
set_option maxHeartbeats 4000000 in
set_option maxRecDepth 100000 in
theorem w_f_M_isKeyWord_17 (C : np_Cx gA p R s m args c D np_cl (np_ty cA) A np_al "NotationParseModel" prog_9_method_9_code 6 { frames := 0, cells := 0, slots := 0, locals := 0 }) (hQ : ∀ (pc : Nat) (ls : Array Slot) (H : Heap) (locs : List Loc) (v : Int) {σ : np_S}, decode prog_9_method_9_code pc = .ok (.ireturn, 1) → np_ck (v = 0 ∨ v = 1) (some (v, σ)) = some out → np_At D np_cl A (nc_wd q cA) s σ H locs → W p l e R s m args below meth c H locs 0 0 Q (F0 m pc ls [.int (np_i v)])) {k5 : (Int → Int → Int → np_S → Option np_O)} (h5 : ∀ (x1 x3 x4 : Int) (σ : np_S) (H : Heap) (locs : List Loc) (ls : Array Slot), k5 x1 x3 x4 σ = some out → np_At D np_cl A (nc_wd q cA) s σ H locs → lv_has ls 6 [(0, .ref (q 29)), (1, .long (np_l x1)), (3, .int (np_i x3)), (4, .int (np_i x4))] → W p l e R s m args below meth c H locs 0 0 Q (F0 m 5 ls [])) : ∀ (n : Nat), ∀ (x1 x3 x4 x5 : Int) (σ : np_S) (H : Heap) (locs : List Loc) (ls : Array Slot), f_M_isKeyWord_17 k5 n x1 x3 x4 x5 σ = some out → np_At D np_cl A (nc_wd q cA) s σ H locs → lv_has ls 6 [(0, .ref (q 29)), (1, .long (np_l x1)), (3, .int (np_i x3)), (4, .int (np_i x4)), (5, .int (np_i x5))] → W p l e R s m args below meth c H locs 0 0 Q (F0 m 17 ls []) := by
  intro n
  induction n with
  | zero => intro x1 x3 x4 x5 σ H locs ls hf; cases hf
  | succ n ih =>
    intro x1 x3 x4 x5 σ H locs ls hf hat hl
    have h17 := ih
    have hf : f_M_isKeyWord_17_b k5 (fun x1 x3 x4 x5 σ => f_M_isKeyWord_17 k5 n x1 x3 x4 x5 σ) x1 x3 x4 x5 σ = some out := hf
    unfold f_M_isKeyWord_17_b at hf
    refine lv_iload C.x C.b dd_M_isKeyWord_17 (lv_at hl 4 rfl) ?_
    refine lv_aload_n C.x C.b dd_M_isKeyWord_19 rfl (lv_at hl 0 rfl) ?_
    refine np_get (v := .ref (q 32)) C i_M hat.1 29 (nc_o29 _) rfl 5 (by decide) tw_928 rfl rfl dd_M_isKeyWord_20 ?_
    refine lv_iload C.x C.b dd_M_isKeyWord_23 (lv_at hl 3 rfl) ?_
    refine np_iaload C hat.1 32 (nc_a32 _) 0 rfl (by decide) dd_M_isKeyWord_25 hf (fun hf => ?_)
    refine np_icmp_ge (tgt := 80) C dd_M_isKeyWord_26 (by decide) hf (fun _ hf => ?_) (fun _ hf => ?_)
    · refine lv_iinc (v := np_i (x4 + 1)) (lv' := [(4, .int (np_i (x4 + 1))), (0, .ref (q 29)), (1, .long (np_l x1)), (3, .int (np_i x3)), (5, .int (np_i x5))]) C.x C.b dd_M_isKeyWord_80 hl (k := 3) rfl (np_inc _ _) (by decide) rfl (fun ls hl => ?_)
      refine lv_goto (tgt := 5) C.x C.b dd_M_isKeyWord_83 (by decide) ?_
      exact h5 _ _ _ _ _ _ _ hf hat (lv_sub hl [1, 2, 3, 0] rfl)
    · refine lv_iload_n C.x C.b dd_M_isKeyWord_29 rfl (lv_at hl 2 rfl) ?_
      refine np_if_ne (tgt := 68) C dd_M_isKeyWord_30 (by decide) hf (fun _ hf => ?_) (fun _ hf => ?_)
      · exact w_f_M_isKeyWord_68 C hQ h5 h17 _ _ _ _ _ _ _ hf hat (lv_sub hl [0, 1, 3, 4] rfl)
      · refine lv_aload_n C.x C.b dd_M_isKeyWord_33 rfl (lv_at hl 0 rfl) ?_
        refine np_get (v := .ref (q 30)) C i_M hat.1 29 (nc_o29 _) rfl 3 (by decide) tw_926 rfl rfl dd_M_isKeyWord_34 ?_
        refine lv_bipush (v := np_i 7) C.x C.b dd_M_isKeyWord_37 (by decide +kernel) ?_
        refine lv_iload C.x C.b dd_M_isKeyWord_39 (lv_at hl 3 rfl) ?_
        refine np_imul C dd_M_isKeyWord_41 ?_
        refine lv_iload C.x C.b dd_M_isKeyWord_42 (lv_at hl 4 rfl) ?_
        refine np_iadd C dd_M_isKeyWord_44 ?_
        refine np_iaload C hat.1 30 (nc_a30 _) 0 rfl (by decide) dd_M_isKeyWord_45 hf (fun hf => ?_)
        refine lv_iconst (v := np_i (-1)) C.x C.b dd_M_isKeyWord_46 rfl ?_
        refine np_icmp_ne (tgt := 72) C dd_M_isKeyWord_47 (by decide) hf (fun _ hf => ?_) (fun _ hf => ?_)
        · exact w_f_M_isKeyWord_72 C hQ h5 h17 _ _ _ _ _ _ _ hf hat (lv_sub hl [0, 1, 3, 4] rfl)
        · refine lv_aload_n C.x C.b dd_M_isKeyWord_50 rfl (lv_at hl 0 rfl) ?_
          refine np_get (v := .ref (q 31)) C i_M hat.1 29 (nc_o29 _) rfl 4 (by decide) tw_927 rfl rfl dd_M_isKeyWord_51 ?_
          refine lv_bipush (v := np_i 7) C.x C.b dd_M_isKeyWord_54 (by decide +kernel) ?_
          refine lv_iload C.x C.b dd_M_isKeyWord_56 (lv_at hl 3 rfl) ?_
          refine np_imul C dd_M_isKeyWord_58 ?_
          refine lv_iload C.x C.b dd_M_isKeyWord_59 (lv_at hl 4 rfl) ?_
          refine np_iadd C dd_M_isKeyWord_61 ?_
          refine np_laload C hat.1 31 (nc_a31 _) 1 rfl (by decide) dd_M_isKeyWord_62 hf (fun hf => ?_)
          refine lv_lload_n C.x C.b dd_M_isKeyWord_63 rfl (lv_at hl 1 rfl) ?_
          refine np_lcmp C dd_M_isKeyWord_64 hf (fun hf => ?_)
          refine np_if_ne (tgt := 72) C dd_M_isKeyWord_65 (by decide) hf (fun _ hf => ?_) (fun _ hf => ?_)
          · exact w_f_M_isKeyWord_72 C hQ h5 h17 _ _ _ _ _ _ _ hf hat (lv_sub hl [0, 1, 3, 4] rfl)
          · exact w_f_M_isKeyWord_68 C hQ h5 h17 _ _ _ _ _ _ _ hf hat (lv_sub hl [0, 1, 3, 4] rfl)
set_option maxHeartbeats 4000000 in
set_option maxRecDepth 100000 in
theorem w_f_M_isKeyWord_5 (C : np_Cx gA p R s m args c D np_cl (np_ty cA) A np_al "NotationParseModel" prog_9_method_9_code 6 { frames := 0, cells := 0, slots := 0, locals := 0 }) (hQ : ∀ (pc : Nat) (ls : Array Slot) (H : Heap) (locs : List Loc) (v : Int) {σ : np_S}, decode prog_9_method_9_code pc = .ok (.ireturn, 1) → np_ck (v = 0 ∨ v = 1) (some (v, σ)) = some out → np_At D np_cl A (nc_wd q cA) s σ H locs → W p l e R s m args below meth c H locs 0 0 Q (F0 m pc ls [.int (np_i v)]))   : ∀ (n : Nat), ∀ (x1 x3 x4 : Int) (σ : np_S) (H : Heap) (locs : List Loc) (ls : Array Slot), f_M_isKeyWord_5  n x1 x3 x4 σ = some out → np_At D np_cl A (nc_wd q cA) s σ H locs → lv_has ls 6 [(0, .ref (q 29)), (1, .long (np_l x1)), (3, .int (np_i x3)), (4, .int (np_i x4))] → W p l e R s m args below meth c H locs 0 0 Q (F0 m 5 ls []) := by
  intro n
  induction n with
  | zero => intro x1 x3 x4 σ H locs ls hf; cases hf
  | succ n ih =>
    intro x1 x3 x4 σ H locs ls hf hat hl
    have h5 := ih
    have hf : f_M_isKeyWord_5_b  (fun x1 x3 x4 σ => f_M_isKeyWord_5  n x1 x3 x4 σ) x1 x3 x4 σ = some out := hf
    unfold f_M_isKeyWord_5_b at hf
    refine lv_iload C.x C.b dd_M_isKeyWord_5 (lv_at hl 3 rfl) ?_
    refine lv_aload_n C.x C.b dd_M_isKeyWord_7 rfl (lv_at hl 0 rfl) ?_
    refine np_get (v := .int (np_i (σ 29 2))) C i_M hat.1 29 (nc_o29 _) rfl 2 (by decide) tw_925 rfl rfl dd_M_isKeyWord_8 ?_
    refine np_icmp_ge (tgt := 86) C dd_M_isKeyWord_11 (by decide) hf (fun _ hf => ?_) (fun _ hf => ?_)
    · refine lv_iload_n C.x C.b dd_M_isKeyWord_86 rfl (lv_at hl 2 rfl) ?_
      exact hQ _ _ _ _ _ dd_M_isKeyWord_87 hf hat
    · refine lv_iconst (v := np_i 0) C.x C.b dd_M_isKeyWord_14 rfl ?_
      refine lv_istore (lv' := [(5, .int (np_i 0)), (0, .ref (q 29)), (1, .long (np_l x1)), (3, .int (np_i x3)), (4, .int (np_i x4))]) C.x C.b dd_M_isKeyWord_15 hl (by decide) rfl (fun ls hl => ?_)
      exact w_f_M_isKeyWord_17 C hQ h5 20000 _ _ _ _ _ _ _ _ hf hat (lv_sub hl [1, 2, 3, 4, 0] rfl)
set_option maxHeartbeats 4000000 in
set_option maxRecDepth 100000 in
theorem w_f_M_isKeyWord (C : np_Cx gA p R s m args c D np_cl (np_ty cA) A np_al "NotationParseModel" prog_9_method_9_code 6 { frames := 0, cells := 0, slots := 0, locals := 0 }) (hQ : ∀ (pc : Nat) (ls : Array Slot) (H : Heap) (locs : List Loc) (v : Int) {σ : np_S}, decode prog_9_method_9_code pc = .ok (.ireturn, 1) → np_ck (v = 0 ∨ v = 1) (some (v, σ)) = some out → np_At D np_cl A (nc_wd q cA) s σ H locs → W p l e R s m args below meth c H locs 0 0 Q (F0 m pc ls [.int (np_i v)]))   : ∀ (x1 : Int) (σ : np_S) (H : Heap) (locs : List Loc) (ls : Array Slot), f_M_isKeyWord  x1 σ = some out → np_At D np_cl A (nc_wd q cA) s σ H locs → lv_has ls 6 [(0, .ref (q 29)), (1, .long (np_l x1))] → W p l e R s m args below meth c H locs 0 0 Q (F0 m 0 ls []) := by
  intro x1 σ H locs ls hf hat hl
  unfold f_M_isKeyWord at hf
  refine lv_iconst (v := np_i 0) C.x C.b dd_M_isKeyWord_0 rfl ?_
  refine lv_istore_n (lv' := [(3, .int (np_i 0)), (0, .ref (q 29)), (1, .long (np_l x1))]) C.x C.b dd_M_isKeyWord_1 rfl hl (by decide) rfl (fun ls hl => ?_)
  refine lv_iconst (v := np_i 0) C.x C.b dd_M_isKeyWord_2 rfl ?_
  refine lv_istore (lv' := [(4, .int (np_i 0)), (3, .int (np_i 0)), (0, .ref (q 29)), (1, .long (np_l x1))]) C.x C.b dd_M_isKeyWord_3 hl (by decide) rfl (fun ls hl => ?_)
  exact w_f_M_isKeyWord_5 C hQ  20000 _ _ _ _ _ _ _ hf hat (lv_sub hl [2, 3, 1, 0] rfl)
set_option maxHeartbeats 4000000 in
set_option maxRecDepth 100000 in
theorem c_M_isKeyWord (l : Launch) {gA : Nat → Nat} {D : va_G} {q : Nat → Nat} {cA : Nat → ClassId} (x1 : Int) (σ : np_S) : np_Mi gA l D np_cl (np_ty cA) (nc_wd q cA) yy_M_isKeyWord (.code yy_M_isKeyWord prog_9_method_9_code 6 (some .boolean) :: np_al) { frames := 0, cells := 0, slots := 0, locals := 0 } [.ref (q 29), .long (np_l x1)] σ (f_M_isKeyWord x1 σ) :=
  np_mkz (by decide +kernel) (Nat.le_of_ble_eq_true rfl) (fun o p e R s m args below meth c Q A ls hf C hQ hat hl => w_f_M_isKeyWord C hQ x1 σ _ _ _ hf hat (lv_sub hl [0, 1] rfl))
set_option maxHeartbeats 4000000 in
set_option maxRecDepth 100000 in
theorem w_f_M_part (C : np_Cx gA p R s m args c D np_cl (np_ty cA) A np_al "NotationParseModel" prog_9_method_10_code 4 { frames := 0, cells := 0, slots := 0, locals := 0 }) (hQ : ∀ (pc : Nat) (ls : Array Slot) (H : Heap) (locs : List Loc) (v : Int) {σ : np_S}, decode prog_9_method_10_code pc = .ok (.ireturn, 1) → some (v, σ) = some out → np_At D np_cl A (nc_wd q cA) s σ H locs → W p l e R s m args below meth c H locs 0 0 Q (F0 m pc ls [.int (np_i v)]))   : ∀ (x1 x2 : Int) (σ : np_S) (H : Heap) (locs : List Loc) (ls : Array Slot), f_M_part  x1 x2 σ = some out → np_At D np_cl A (nc_wd q cA) s σ H locs → lv_has ls 4 [(0, .ref (q 29)), (1, .int (np_i x1)), (2, .long (np_l x2))] → W p l e R s m args below meth c H locs 0 0 Q (F0 m 0 ls []) := by
  intro x1 x2 σ H locs ls hf hat hl
  unfold f_M_part at hf
  refine lv_aload_n C.x C.b dd_M_part_0 rfl (lv_at hl 0 rfl) ?_
  refine np_get (v := .ref (q 30)) C i_M hat.1 29 (nc_o29 _) rfl 3 (by decide) tw_926 rfl rfl dd_M_part_1 ?_
  refine lv_bipush (v := np_i 84) C.x C.b dd_M_part_4 (by decide +kernel) ?_
  refine lv_aload_n C.x C.b dd_M_part_6 rfl (lv_at hl 0 rfl) ?_
  refine np_get (v := .int (np_i (σ 29 1))) C i_M hat.1 29 (nc_o29 _) rfl 1 (by decide) tw_924 rfl rfl dd_M_part_7 ?_
  refine np_iadd C dd_M_part_10 ?_
  refine lv_iload_n C.x C.b dd_M_part_11 rfl (lv_at hl 1 rfl) ?_
  refine np_iastore C hat 30 (nc_a30 _) 0 rfl (by decide) (nc_s30 _ _ _) dd_M_part_12 hf (fun H locs hat hf => ?_)
  refine lv_aload_n C.x C.b dd_M_part_13 rfl (lv_at hl 0 rfl) ?_
  refine np_get (v := .ref (q 31)) C i_M hat.1 29 (nc_o29 _) rfl 4 (by decide) tw_927 rfl rfl dd_M_part_14 ?_
  refine lv_bipush (v := np_i 84) C.x C.b dd_M_part_17 (by decide +kernel) ?_
  refine lv_aload_n C.x C.b dd_M_part_19 rfl (lv_at hl 0 rfl) ?_
  refine np_get (v := .int (np_i ((np_st σ 30 (84 + (σ 29 1)) x1) 29 1))) C i_M hat.1 29 (nc_o29 _) rfl 1 (by decide) tw_924 rfl rfl dd_M_part_20 ?_
  refine np_iadd C dd_M_part_23 ?_
  refine lv_lload_n C.x C.b dd_M_part_24 rfl (lv_at hl 2 rfl) ?_
  refine np_lastore C hat 31 (nc_a31 _) 1 rfl (by decide) (nc_s31 _ _ _) dd_M_part_25 hf (fun H locs hat hf => ?_)
  refine lv_aload_n C.x C.b dd_M_part_26 rfl (lv_at hl 0 rfl) ?_
  refine lv_dup C.x C.b dd_M_part_27 rfl ?_
  refine np_get (v := .int (np_i ((np_st (np_st σ 30 (84 + (σ 29 1)) x1) 31 (84 + ((np_st σ 30 (84 + (σ 29 1)) x1) 29 1)) x2) 29 1))) C i_M hat.1 29 (nc_o29 _) rfl 1 (by decide) tw_924 rfl rfl dd_M_part_28 ?_
  refine lv_iconst (v := np_i 1) C.x C.b dd_M_part_31 rfl ?_
  refine np_iadd C dd_M_part_32 ?_
  refine np_put C i_M t_M tok_M n_M hat 29 (nc_o29 _) rfl 1 (by decide) tw_924 rfl rfl (by decide +kernel) (np_narI (((np_st (np_st σ 30 (84 + (σ 29 1)) x1) 31 (84 + ((np_st σ 30 (84 + (σ 29 1)) x1) 29 1)) x2) 29 1) + 1)) (np_fitI (((np_st (np_st σ 30 (84 + (σ 29 1)) x1) 31 (84 + ((np_st σ 30 (84 + (σ 29 1)) x1) 29 1)) x2) 29 1) + 1)) (Nat.le_of_ble_eq_true rfl) (nc_s29_1 _ _) dd_M_part_33 (fun H locs hat => ?_)
  refine lv_aload_n C.x C.b dd_M_part_36 rfl (lv_at hl 0 rfl) ?_
  refine np_get (v := .int (np_i ((np_st (np_st (np_st σ 30 (84 + (σ 29 1)) x1) 31 (84 + ((np_st σ 30 (84 + (σ 29 1)) x1) 29 1)) x2) 29 1 (((np_st (np_st σ 30 (84 + (σ 29 1)) x1) 31 (84 + ((np_st σ 30 (84 + (σ 29 1)) x1) 29 1)) x2) 29 1) + 1)) 29 1))) C i_M hat.1 29 (nc_o29 _) rfl 1 (by decide) tw_924 rfl rfl dd_M_part_37 ?_
  exact hQ _ _ _ _ _ dd_M_part_40 hf hat
set_option maxHeartbeats 4000000 in
set_option maxRecDepth 100000 in
theorem c_M_part (l : Launch) {gA : Nat → Nat} {D : va_G} {q : Nat → Nat} {cA : Nat → ClassId} (x1 x2 : Int) (σ : np_S) : np_Mi gA l D np_cl (np_ty cA) (nc_wd q cA) yy_M_part (.code yy_M_part prog_9_method_10_code 4 (some .int) :: np_al) { frames := 0, cells := 0, slots := 0, locals := 0 } [.ref (q 29), .int (np_i x1), .long (np_l x2)] σ (f_M_part x1 x2 σ) :=
  np_mki (by decide +kernel) (Nat.le_of_ble_eq_true rfl) (fun o p e R s m args below meth c Q A ls hf C hQ hat hl => w_f_M_part C hQ x1 x2 σ _ _ _ hf hat (lv_sub hl [0, 1, 2] rfl))
set_option maxHeartbeats 4000000 in
set_option maxRecDepth 100000 in
theorem w_f_M_hole_84 (C : np_Cx gA p R s m args c D np_cl (np_ty cA) A np_al "NotationParseModel" prog_9_method_11_code 3 { frames := 1, cells := 0, slots := 0, locals := 23 }) (hQ : ∀ (pc : Nat) (ls : Array Slot) (H : Heap) (locs : List Loc) (v : Int) {σ : np_S}, decode prog_9_method_11_code pc = .ok (.ireturn, 1) → some (v, σ) = some out → np_At D np_cl A (nc_wd q cA) s σ H locs → W p l e R s m args below meth c H locs 0 0 Q (F0 m pc ls [.int (np_i v)]))   : ∀ (t0 : Int) (σ : np_S) (H : Heap) (locs : List Loc) (ls : Array Slot), f_M_hole_84  t0 σ = some out → np_At D np_cl A (nc_wd q cA) s σ H locs → lv_has ls 3 [] → W p l e R s m args below meth c H locs 0 0 Q (F0 m 84 ls [.int (np_i t0)]) := by
  intro t0 σ H locs ls hf hat hl
  unfold f_M_hole_84 at hf
  exact hQ _ _ _ _ _ dd_M_hole_84 hf hat
set_option maxHeartbeats 4000000 in
set_option maxRecDepth 100000 in
theorem w_f_M_hole_64 (C : np_Cx gA p R s m args c D np_cl (np_ty cA) A np_al "NotationParseModel" prog_9_method_11_code 3 { frames := 1, cells := 0, slots := 0, locals := 23 }) (hQ : ∀ (pc : Nat) (ls : Array Slot) (H : Heap) (locs : List Loc) (v : Int) {σ : np_S}, decode prog_9_method_11_code pc = .ok (.ireturn, 1) → some (v, σ) = some out → np_At D np_cl A (nc_wd q cA) s σ H locs → W p l e R s m args below meth c H locs 0 0 Q (F0 m pc ls [.int (np_i v)]))   : ∀ (x1 t1 : Int) (σ : np_S) (H : Heap) (locs : List Loc) (ls : Array Slot), f_M_hole_64  x1 t1 σ = some out → np_At D np_cl A (nc_wd q cA) s σ H locs → lv_has ls 3 [(0, .ref (q 29)), (1, .int (np_i x1))] → W p l e R s m args below meth c H locs 0 0 Q (F0 m 64 ls [.int (np_i t1), .ref (q 29)]) := by
  intro x1 t1 σ H locs ls hf hat hl
  unfold f_M_hole_64 at hf
  refine np_put C i_M t_M tok_M n_M hat 29 (nc_o29 _) rfl 0 (by decide) tw_923 rfl rfl (by decide +kernel) (np_narI t1) (np_fitI t1) (Nat.le_of_ble_eq_true rfl) (nc_s29_0 _ _) dd_M_hole_64 (fun H locs hat => ?_)
  refine lv_aload_n C.x C.b dd_M_hole_67 rfl (lv_at hl 0 rfl) ?_
  refine np_get (v := .int (np_i ((np_st σ 29 0 t1) 29 0))) C i_M hat.1 29 (nc_o29 _) rfl 0 (by decide) tw_923 rfl rfl dd_M_hole_68 ?_
  refine np_if_le (tgt := 78) C dd_M_hole_71 (by decide) hf (fun _ hf => ?_) (fun _ hf => ?_)
  · refine lv_aload_n C.x C.b dd_M_hole_78 rfl (lv_at hl 0 rfl) ?_
    refine lv_iload_n C.x C.b dd_M_hole_79 rfl (lv_at hl 1 rfl) ?_
    refine lv_lconst (v := np_l 0) C.x C.b dd_M_hole_80 (by decide +kernel) ?_
    refine np_callVi (As := [.int (np_i x1), .long (np_l 0)]) (rest := []) C (c_M_part l x1 0 _) np_allgood tw_1026 tw_1028 tp_28 tw_8 tw_1029 (nA := 2) (by decide +kernel) rfl ⟨rfl, rfl, Nat.le_of_ble_eq_true rfl, Nat.le_of_ble_eq_true rfl⟩ (va_recv C.k hat.1 (ci := 6) (q0 := 29) rfl (nc_o29 _)) hat rfl hl.1 (Nat.le_of_ble_eq_true rfl) dd_M_hole_81 hf (fun o1 H locs hf hat => ?_)
    exact w_f_M_hole_84 C hQ  _ _ _ _ _ hf hat (lv_sub hl [] rfl)
  · refine lv_iconst (v := np_i 0) C.x C.b dd_M_hole_74 rfl ?_
    refine lv_goto (tgt := 84) C.x C.b dd_M_hole_75 (by decide) ?_
    exact w_f_M_hole_84 C hQ  _ _ _ _ _ hf hat (lv_sub hl [] rfl)
set_option maxHeartbeats 4000000 in
set_option maxRecDepth 100000 in
theorem w_f_M_hole_46 (C : np_Cx gA p R s m args c D np_cl (np_ty cA) A np_al "NotationParseModel" prog_9_method_11_code 3 { frames := 1, cells := 0, slots := 0, locals := 23 }) (hQ : ∀ (pc : Nat) (ls : Array Slot) (H : Heap) (locs : List Loc) (v : Int) {σ : np_S}, decode prog_9_method_11_code pc = .ok (.ireturn, 1) → some (v, σ) = some out → np_At D np_cl A (nc_wd q cA) s σ H locs → W p l e R s m args below meth c H locs 0 0 Q (F0 m pc ls [.int (np_i v)]))   : ∀ (x1 : Int) (σ : np_S) (H : Heap) (locs : List Loc) (ls : Array Slot), f_M_hole_46  x1 σ = some out → np_At D np_cl A (nc_wd q cA) s σ H locs → lv_has ls 3 [(0, .ref (q 29)), (1, .int (np_i x1))] → W p l e R s m args below meth c H locs 0 0 Q (F0 m 46 ls [.ref (q 29)]) := by
  intro x1 σ H locs ls hf hat hl
  unfold f_M_hole_46 at hf
  refine lv_iconst (v := np_i 1) C.x C.b dd_M_hole_46 rfl ?_
  refine lv_goto (tgt := 64) C.x C.b dd_M_hole_47 (by decide) ?_
  exact w_f_M_hole_64 C hQ  _ _ _ _ _ _ hf hat (lv_sub hl [0, 1] rfl)
set_option maxHeartbeats 4000000 in
set_option maxRecDepth 100000 in
theorem w_f_M_hole_30 (C : np_Cx gA p R s m args c D np_cl (np_ty cA) A np_al "NotationParseModel" prog_9_method_11_code 3 { frames := 1, cells := 0, slots := 0, locals := 23 }) (hQ : ∀ (pc : Nat) (ls : Array Slot) (H : Heap) (locs : List Loc) (v : Int) {σ : np_S}, decode prog_9_method_11_code pc = .ok (.ireturn, 1) → some (v, σ) = some out → np_At D np_cl A (nc_wd q cA) s σ H locs → W p l e R s m args below meth c H locs 0 0 Q (F0 m pc ls [.int (np_i v)]))   : ∀ (x1 t0 : Int) (σ : np_S) (H : Heap) (locs : List Loc) (ls : Array Slot), f_M_hole_30  x1 t0 σ = some out → np_At D np_cl A (nc_wd q cA) s σ H locs → lv_has ls 3 [(0, .ref (q 29)), (1, .int (np_i x1))] → W p l e R s m args below meth c H locs 0 0 Q (F0 m 30 ls [.int (np_i t0)]) := by
  intro x1 t0 σ H locs ls hf hat hl
  unfold f_M_hole_30 at hf
  refine lv_istore_n (lv' := [(2, .int (np_i t0)), (0, .ref (q 29)), (1, .int (np_i x1))]) C.x C.b dd_M_hole_30 rfl hl (by decide) rfl (fun ls hl => ?_)
  refine lv_aload_n C.x C.b dd_M_hole_31 rfl (lv_at hl 1 rfl) ?_
  refine lv_iload_n C.x C.b dd_M_hole_32 rfl (lv_at hl 2 rfl) ?_
  refine np_if_lt (tgt := 46) C dd_M_hole_33 (by decide) hf (fun _ hf => ?_) (fun _ hf => ?_)
  · exact w_f_M_hole_46 C hQ  _ _ _ _ _ hf hat (lv_sub hl [1, 2] rfl)
  · refine lv_iload_n C.x C.b dd_M_hole_36 rfl (lv_at hl 2 rfl) ?_
    refine lv_bipush (v := np_i 10) C.x C.b dd_M_hole_37 (by decide +kernel) ?_
    refine np_icmp_gt (tgt := 46) C dd_M_hole_39 (by decide) hf (fun _ hf => ?_) (fun _ hf => ?_)
    · exact w_f_M_hole_46 C hQ  _ _ _ _ _ hf hat (lv_sub hl [1, 2] rfl)
    · refine lv_iload_n C.x C.b dd_M_hole_42 rfl (lv_at hl 0 rfl) ?_
      refine np_if_eq (tgt := 50) C dd_M_hole_43 (by decide) hf (fun _ hf => ?_) (fun _ hf => ?_)
      · refine lv_aload_n C.x C.b dd_M_hole_50 rfl (lv_at hl 1 rfl) ?_
        refine np_get (v := .int (np_i (σ 29 1))) C i_M hat.1 29 (nc_o29 _) rfl 1 (by decide) tw_924 rfl rfl dd_M_hole_51 ?_
        refine lv_bipush (v := np_i 6) C.x C.b dd_M_hole_54 (by decide +kernel) ?_
        refine np_icmp_ne (tgt := 63) C dd_M_hole_56 (by decide) hf (fun _ hf => ?_) (fun _ hf => ?_)
        · refine lv_iconst (v := np_i 0) C.x C.b dd_M_hole_63 rfl ?_
          exact w_f_M_hole_64 C hQ  _ _ _ _ _ _ hf hat (lv_sub hl [1, 2] rfl)
        · refine lv_iconst (v := np_i 2) C.x C.b dd_M_hole_59 rfl ?_
          refine lv_goto (tgt := 64) C.x C.b dd_M_hole_60 (by decide) ?_
          exact w_f_M_hole_64 C hQ  _ _ _ _ _ _ hf hat (lv_sub hl [1, 2] rfl)
      · exact w_f_M_hole_46 C hQ  _ _ _ _ _ hf hat (lv_sub hl [1, 2] rfl)
set_option maxHeartbeats 4000000 in
set_option maxRecDepth 100000 in
theorem w_f_M_hole_29 (C : np_Cx gA p R s m args c D np_cl (np_ty cA) A np_al "NotationParseModel" prog_9_method_11_code 3 { frames := 1, cells := 0, slots := 0, locals := 23 }) (hQ : ∀ (pc : Nat) (ls : Array Slot) (H : Heap) (locs : List Loc) (v : Int) {σ : np_S}, decode prog_9_method_11_code pc = .ok (.ireturn, 1) → some (v, σ) = some out → np_At D np_cl A (nc_wd q cA) s σ H locs → W p l e R s m args below meth c H locs 0 0 Q (F0 m pc ls [.int (np_i v)]))   : ∀ (x1 : Int) (σ : np_S) (H : Heap) (locs : List Loc) (ls : Array Slot), f_M_hole_29  x1 σ = some out → np_At D np_cl A (nc_wd q cA) s σ H locs → lv_has ls 3 [(0, .ref (q 29)), (1, .int (np_i x1))] → W p l e R s m args below meth c H locs 0 0 Q (F0 m 29 ls []) := by
  intro x1 σ H locs ls hf hat hl
  unfold f_M_hole_29 at hf
  refine lv_iconst (v := np_i 0) C.x C.b dd_M_hole_29 rfl ?_
  exact w_f_M_hole_30 C hQ  _ _ _ _ _ _ hf hat (lv_sub hl [0, 1] rfl)
set_option maxHeartbeats 4000000 in
set_option maxRecDepth 100000 in
theorem w_f_M_hole (C : np_Cx gA p R s m args c D np_cl (np_ty cA) A np_al "NotationParseModel" prog_9_method_11_code 3 { frames := 1, cells := 0, slots := 0, locals := 23 }) (hQ : ∀ (pc : Nat) (ls : Array Slot) (H : Heap) (locs : List Loc) (v : Int) {σ : np_S}, decode prog_9_method_11_code pc = .ok (.ireturn, 1) → some (v, σ) = some out → np_At D np_cl A (nc_wd q cA) s σ H locs → W p l e R s m args below meth c H locs 0 0 Q (F0 m pc ls [.int (np_i v)]))   : ∀ (x1 : Int) (σ : np_S) (H : Heap) (locs : List Loc) (ls : Array Slot), f_M_hole  x1 σ = some out → np_At D np_cl A (nc_wd q cA) s σ H locs → lv_has ls 3 [(0, .ref (q 29)), (1, .int (np_i x1))] → W p l e R s m args below meth c H locs 0 0 Q (F0 m 0 ls []) := by
  intro x1 σ H locs ls hf hat hl
  unfold f_M_hole at hf
  refine lv_aload_n C.x C.b dd_M_hole_0 rfl (lv_at hl 0 rfl) ?_
  refine np_get (v := .int (np_i (σ 29 1))) C i_M hat.1 29 (nc_o29 _) rfl 1 (by decide) tw_924 rfl rfl dd_M_hole_1 ?_
  refine np_if_le (tgt := 29) C dd_M_hole_4 (by decide) hf (fun _ hf => ?_) (fun _ hf => ?_)
  · exact w_f_M_hole_29 C hQ  _ _ _ _ _ hf hat (lv_sub hl [0, 1] rfl)
  · refine lv_aload_n C.x C.b dd_M_hole_7 rfl (lv_at hl 0 rfl) ?_
    refine np_get (v := .ref (q 30)) C i_M hat.1 29 (nc_o29 _) rfl 3 (by decide) tw_926 rfl rfl dd_M_hole_8 ?_
    refine lv_bipush (v := np_i 84) C.x C.b dd_M_hole_11 (by decide +kernel) ?_
    refine lv_aload_n C.x C.b dd_M_hole_13 rfl (lv_at hl 0 rfl) ?_
    refine np_get (v := .int (np_i (σ 29 1))) C i_M hat.1 29 (nc_o29 _) rfl 1 (by decide) tw_924 rfl rfl dd_M_hole_14 ?_
    refine np_iadd C dd_M_hole_17 ?_
    refine lv_iconst (v := np_i 1) C.x C.b dd_M_hole_18 rfl ?_
    refine np_isub C dd_M_hole_19 ?_
    refine np_iaload C hat.1 30 (nc_a30 _) 0 rfl (by decide) dd_M_hole_20 hf (fun hf => ?_)
    refine lv_iconst (v := np_i (-1)) C.x C.b dd_M_hole_21 rfl ?_
    refine np_icmp_eq (tgt := 29) C dd_M_hole_22 (by decide) hf (fun _ hf => ?_) (fun _ hf => ?_)
    · exact w_f_M_hole_29 C hQ  _ _ _ _ _ hf hat (lv_sub hl [0, 1] rfl)
    · refine lv_iconst (v := np_i 1) C.x C.b dd_M_hole_25 rfl ?_
      refine lv_goto (tgt := 30) C.x C.b dd_M_hole_26 (by decide) ?_
      exact w_f_M_hole_30 C hQ  _ _ _ _ _ _ hf hat (lv_sub hl [0, 1] rfl)
set_option maxHeartbeats 4000000 in
set_option maxRecDepth 100000 in
theorem c_M_hole (l : Launch) {gA : Nat → Nat} {D : va_G} {q : Nat → Nat} {cA : Nat → ClassId} (x1 : Int) (σ : np_S) : np_Mi gA l D np_cl (np_ty cA) (nc_wd q cA) yy_M_hole (.code yy_M_hole prog_9_method_11_code 3 (some .int) :: np_al) { frames := 1, cells := 0, slots := 0, locals := 23 } [.ref (q 29), .int (np_i x1)] σ (f_M_hole x1 σ) :=
  np_mki (by decide +kernel) (Nat.le_of_ble_eq_true rfl) (fun o p e R s m args below meth c Q A ls hf C hQ hat hl => w_f_M_hole C hQ x1 σ _ _ _ hf hat (lv_sub hl [0, 1] rfl))
end NW5
