section NW2
variable {p : Program} {l : Launch} {e : Env} {R : Room} {s : State} {m : MethodId} {args : Array Value} {below : List Frame} {meth : Method} {c : Code} {Q : State → Prop} {D : va_G} {A : Nat → Prop} {q : Nat → Nat} {cA : Nat → ClassId} {out : np_O} {gA : Nat → Nat}
set_option maxHeartbeats 4000000 in
set_option maxRecDepth 100000 in
theorem w_f_Output_writeWord_25 (C : np_Cx gA p R s m args c D np_cl (np_ty cA) A np_al "NotationParse$Output" prog_4_method_3_code 5 { frames := 1, cells := 0, slots := 0, locals := 22 }) (hQ : ∀ (pc : Nat) (ls : Array Slot) (H : Heap) (locs : List Loc) {σ : np_S}, decode prog_4_method_3_code pc = .ok (.return_, 1) → some ((0 : Int), σ) = some out → np_At D np_cl A (nc_wd q cA) s σ H locs → W p l e R s m args below meth c H locs 0 0 Q (F0 m pc ls [])) {k3 : (Int → Int → np_S → Option np_O)} (h3 : ∀ (x1 x3 : Int) (σ : np_S) (H : Heap) (locs : List Loc) (ls : Array Slot), k3 x1 x3 σ = some out → np_At D np_cl A (nc_wd q cA) s σ H locs → lv_has ls 5 [(0, .ref (q 26)), (1, .long (np_l x1)), (3, .int (np_i x3))] → W p l e R s m args below meth c H locs 0 0 Q (F0 m 3 ls [])) : ∀ (x1 x3 : Int) (σ : np_S) (H : Heap) (locs : List Loc) (ls : Array Slot), f_Output_writeWord_25 k3 x1 x3 σ = some out → np_At D np_cl A (nc_wd q cA) s σ H locs → lv_has ls 5 [(0, .ref (q 26)), (1, .long (np_l x1)), (3, .int (np_i x3))] → W p l e R s m args below meth c H locs 0 0 Q (F0 m 25 ls []) := by
  intro x1 x3 σ H locs ls hf hat hl
  unfold f_Output_writeWord_25 at hf
  refine lv_iinc (v := np_i (x3 + (-1))) (lv' := [(3, .int (np_i (x3 + (-1)))), (0, .ref (q 26)), (1, .long (np_l x1))]) C.x C.b dd_Output_writeWord_25 hl (k := 2) rfl (np_inc _ _) (by decide) rfl (fun ls hl => ?_)
  refine lv_goto (tgt := 3) C.x C.b dd_Output_writeWord_28 (by decide) ?_
  exact h3 _ _ _ _ _ _ hf hat (lv_sub hl [1, 2, 0] rfl)
set_option maxHeartbeats 4000000 in
set_option maxRecDepth 100000 in
theorem w_f_Output_writeWord_3 (C : np_Cx gA p R s m args c D np_cl (np_ty cA) A np_al "NotationParse$Output" prog_4_method_3_code 5 { frames := 1, cells := 0, slots := 0, locals := 22 }) (hQ : ∀ (pc : Nat) (ls : Array Slot) (H : Heap) (locs : List Loc) {σ : np_S}, decode prog_4_method_3_code pc = .ok (.return_, 1) → some ((0 : Int), σ) = some out → np_At D np_cl A (nc_wd q cA) s σ H locs → W p l e R s m args below meth c H locs 0 0 Q (F0 m pc ls []))   : ∀ (n : Nat), ∀ (x1 x3 : Int) (σ : np_S) (H : Heap) (locs : List Loc) (ls : Array Slot), f_Output_writeWord_3  n x1 x3 σ = some out → np_At D np_cl A (nc_wd q cA) s σ H locs → lv_has ls 5 [(0, .ref (q 26)), (1, .long (np_l x1)), (3, .int (np_i x3))] → W p l e R s m args below meth c H locs 0 0 Q (F0 m 3 ls []) := by
  intro n
  induction n with
  | zero => intro x1 x3 σ H locs ls hf; cases hf
  | succ n ih =>
    intro x1 x3 σ H locs ls hf hat hl
    have h3 := ih
    have hf : f_Output_writeWord_3_b  (fun x1 x3 σ => f_Output_writeWord_3  n x1 x3 σ) x1 x3 σ = some out := hf
    unfold f_Output_writeWord_3_b at hf
    refine lv_iload_n C.x C.b dd_Output_writeWord_3 rfl (lv_at hl 2 rfl) ?_
    refine np_if_lt (tgt := 31) C dd_Output_writeWord_4 (by decide) hf (fun _ hf => ?_) (fun _ hf => ?_)
    · exact hQ _ _ _ _ dd_Output_writeWord_31 hf hat
    · refine lv_lload_n C.x C.b dd_Output_writeWord_7 rfl (lv_at hl 1 rfl) ?_
      refine lv_iload_n C.x C.b dd_Output_writeWord_8 rfl (lv_at hl 2 rfl) ?_
      refine np_callSi (As := [.long (np_l x1), .int (np_i x3)]) (rest := []) C (c_Spelling_byteOf l x1 x3 _) np_allgood tw_915 tw_235 tw_14 tw_236 (nA := 2) (by decide +kernel) rfl ⟨rfl, rfl, Nat.le_of_ble_eq_true rfl, Nat.le_of_ble_eq_true rfl⟩ hat rfl hl.1 (Nat.le_of_ble_eq_true rfl) dd_Output_writeWord_9 hf (fun o1 H locs hf hat => ?_)
      refine lv_istore (lv' := [(4, .int (np_i o1.1)), (0, .ref (q 26)), (1, .long (np_l x1)), (3, .int (np_i x3))]) C.x C.b dd_Output_writeWord_12 hl (by decide) rfl (fun ls hl => ?_)
      refine lv_iload C.x C.b dd_Output_writeWord_14 (lv_at hl 0 rfl) ?_
      refine np_if_eq (tgt := 25) C dd_Output_writeWord_16 (by decide) hf (fun _ hf => ?_) (fun _ hf => ?_)
      · exact w_f_Output_writeWord_25 C hQ h3 _ _ _ _ _ _ hf hat (lv_sub hl [1, 2, 3] rfl)
      · refine lv_aload_n C.x C.b dd_Output_writeWord_19 rfl (lv_at hl 1 rfl) ?_
        refine lv_iload C.x C.b dd_Output_writeWord_20 (lv_at hl 0 rfl) ?_
        refine np_callVv (As := [.int (np_i o1.1)]) (rest := []) C (c_Output_addByte l o1.1 _) np_allgood tw_907 tw_909 tp_26 tw_7 tw_910 (nA := 1) (by decide +kernel) rfl ⟨rfl, rfl, Nat.le_of_ble_eq_true rfl, Nat.le_of_ble_eq_true rfl⟩ (nc_o26 _) rfl hat rfl hl.1 (Nat.le_of_ble_eq_true rfl) dd_Output_writeWord_22 hf (fun o2 H locs hf hat => ?_)
        exact w_f_Output_writeWord_25 C hQ h3 _ _ _ _ _ _ hf hat (lv_sub hl [1, 2, 3] rfl)
set_option maxHeartbeats 4000000 in
set_option maxRecDepth 100000 in
theorem w_f_Output_writeWord (C : np_Cx gA p R s m args c D np_cl (np_ty cA) A np_al "NotationParse$Output" prog_4_method_3_code 5 { frames := 1, cells := 0, slots := 0, locals := 22 }) (hQ : ∀ (pc : Nat) (ls : Array Slot) (H : Heap) (locs : List Loc) {σ : np_S}, decode prog_4_method_3_code pc = .ok (.return_, 1) → some ((0 : Int), σ) = some out → np_At D np_cl A (nc_wd q cA) s σ H locs → W p l e R s m args below meth c H locs 0 0 Q (F0 m pc ls []))   : ∀ (x1 : Int) (σ : np_S) (H : Heap) (locs : List Loc) (ls : Array Slot), f_Output_writeWord  x1 σ = some out → np_At D np_cl A (nc_wd q cA) s σ H locs → lv_has ls 5 [(0, .ref (q 26)), (1, .long (np_l x1))] → W p l e R s m args below meth c H locs 0 0 Q (F0 m 0 ls []) := by
  intro x1 σ H locs ls hf hat hl
  unfold f_Output_writeWord at hf
  refine lv_bipush (v := np_i 7) C.x C.b dd_Output_writeWord_0 (by decide +kernel) ?_
  refine lv_istore_n (lv' := [(3, .int (np_i 7)), (0, .ref (q 26)), (1, .long (np_l x1))]) C.x C.b dd_Output_writeWord_2 rfl hl (by decide) rfl (fun ls hl => ?_)
  exact w_f_Output_writeWord_3 C hQ  6000 _ _ _ _ _ _ hf hat (lv_sub hl [1, 2, 0] rfl)
set_option maxHeartbeats 4000000 in
set_option maxRecDepth 100000 in
theorem c_Output_writeWord (l : Launch) {gA : Nat → Nat} {D : va_G} {q : Nat → Nat} {cA : Nat → ClassId} (x1 : Int) (σ : np_S) : np_Mv gA l D np_cl (np_ty cA) (nc_wd q cA) yy_Output_writeWord (.code yy_Output_writeWord prog_4_method_3_code 5 none :: np_al) { frames := 1, cells := 0, slots := 0, locals := 22 } [.ref (q 26), .long (np_l x1)] σ (f_Output_writeWord x1 σ) :=
  np_mkv (by decide +kernel) (Nat.le_of_ble_eq_true rfl) (fun o p e R s m args below meth c Q A ls hf C hQ hat hl => w_f_Output_writeWord C hQ x1 σ _ _ _ hf hat (lv_sub hl [0, 1] rfl))
set_option maxHeartbeats 4000000 in
set_option maxRecDepth 100000 in
theorem w_f_Output_writeWords_46 (C : np_Cx gA p R s m args c D np_cl (np_ty cA) A np_al "NotationParse$Output" prog_4_method_2_code 4 { frames := 2, cells := 0, slots := 0, locals := 46 }) (hQ : ∀ (pc : Nat) (ls : Array Slot) (H : Heap) (locs : List Loc) {σ : np_S}, decode prog_4_method_2_code pc = .ok (.return_, 1) → some ((0 : Int), σ) = some out → np_At D np_cl A (nc_wd q cA) s σ H locs → W p l e R s m args below meth c H locs 0 0 Q (F0 m pc ls [])) {k7 : (Int → Int → np_S → Option np_O)} (h7 : ∀ (x2 x3 : Int) (σ : np_S) (H : Heap) (locs : List Loc) (ls : Array Slot), k7 x2 x3 σ = some out → np_At D np_cl A (nc_wd q cA) s σ H locs → lv_has ls 4 [(0, .ref (q 26)), (1, .ref (q 6)), (2, .int (np_i x2)), (3, .int (np_i x3))] → W p l e R s m args below meth c H locs 0 0 Q (F0 m 7 ls [])) : ∀ (x2 x3 : Int) (σ : np_S) (H : Heap) (locs : List Loc) (ls : Array Slot), f_Output_writeWords_46 k7 x2 x3 σ = some out → np_At D np_cl A (nc_wd q cA) s σ H locs → lv_has ls 4 [(0, .ref (q 26)), (1, .ref (q 6)), (2, .int (np_i x2)), (3, .int (np_i x3))] → W p l e R s m args below meth c H locs 0 0 Q (F0 m 46 ls []) := by
  intro x2 x3 σ H locs ls hf hat hl
  unfold f_Output_writeWords_46 at hf
  refine lv_iinc (v := np_i (x3 + 1)) (lv' := [(3, .int (np_i (x3 + 1))), (0, .ref (q 26)), (1, .ref (q 6)), (2, .int (np_i x2))]) C.x C.b dd_Output_writeWords_46 hl (k := 3) rfl (np_inc _ _) (by decide) rfl (fun ls hl => ?_)
  refine lv_goto (tgt := 7) C.x C.b dd_Output_writeWords_49 (by decide) ?_
  exact h7 _ _ _ _ _ _ hf hat (lv_sub hl [1, 2, 3, 0] rfl)
set_option maxHeartbeats 4000000 in
set_option maxRecDepth 100000 in
theorem w_f_Output_writeWords_36 (C : np_Cx gA p R s m args c D np_cl (np_ty cA) A np_al "NotationParse$Output" prog_4_method_2_code 4 { frames := 2, cells := 0, slots := 0, locals := 46 }) (hQ : ∀ (pc : Nat) (ls : Array Slot) (H : Heap) (locs : List Loc) {σ : np_S}, decode prog_4_method_2_code pc = .ok (.return_, 1) → some ((0 : Int), σ) = some out → np_At D np_cl A (nc_wd q cA) s σ H locs → W p l e R s m args below meth c H locs 0 0 Q (F0 m pc ls [])) {k7 : (Int → Int → np_S → Option np_O)} (h7 : ∀ (x2 x3 : Int) (σ : np_S) (H : Heap) (locs : List Loc) (ls : Array Slot), k7 x2 x3 σ = some out → np_At D np_cl A (nc_wd q cA) s σ H locs → lv_has ls 4 [(0, .ref (q 26)), (1, .ref (q 6)), (2, .int (np_i x2)), (3, .int (np_i x3))] → W p l e R s m args below meth c H locs 0 0 Q (F0 m 7 ls [])) : ∀ (x2 x3 : Int) (σ : np_S) (H : Heap) (locs : List Loc) (ls : Array Slot), f_Output_writeWords_36 k7 x2 x3 σ = some out → np_At D np_cl A (nc_wd q cA) s σ H locs → lv_has ls 4 [(0, .ref (q 26)), (1, .ref (q 6)), (2, .int (np_i x2)), (3, .int (np_i x3))] → W p l e R s m args below meth c H locs 0 0 Q (F0 m 36 ls []) := by
  intro x2 x3 σ H locs ls hf hat hl
  unfold f_Output_writeWords_36 at hf
  refine lv_aload_n C.x C.b dd_Output_writeWords_36 rfl (lv_at hl 0 rfl) ?_
  refine lv_aload_n C.x C.b dd_Output_writeWords_37 rfl (lv_at hl 1 rfl) ?_
  refine np_get (v := .ref (q 8)) C i_Text hat.1 6 (nc_o6 _) rfl 2 (by decide) tw_89 rfl rfl dd_Output_writeWords_38 ?_
  refine lv_iload_n C.x C.b dd_Output_writeWords_41 rfl (lv_at hl 3 rfl) ?_
  refine np_laload C hat.1 8 (nc_a8 _) 1 rfl (by decide) dd_Output_writeWords_42 hf (fun hf => ?_)
  refine np_callVv (As := [.long (np_l (σ 8 x3))]) (rest := []) C (c_Output_writeWord l (σ 8 x3) _) np_allgood tw_911 tw_913 tp_27 tw_7 tw_914 (nA := 1) (by decide +kernel) rfl ⟨rfl, rfl, Nat.le_of_ble_eq_true rfl, Nat.le_of_ble_eq_true rfl⟩ (nc_o26 _) rfl hat rfl hl.1 (Nat.le_of_ble_eq_true rfl) dd_Output_writeWords_43 hf (fun o1 H locs hf hat => ?_)
  exact w_f_Output_writeWords_46 C hQ h7 _ _ _ _ _ _ hf hat (lv_sub hl [0, 1, 2, 3] rfl)
set_option maxHeartbeats 4000000 in
set_option maxRecDepth 100000 in
theorem w_f_Output_writeWords_7 (C : np_Cx gA p R s m args c D np_cl (np_ty cA) A np_al "NotationParse$Output" prog_4_method_2_code 4 { frames := 2, cells := 0, slots := 0, locals := 46 }) (hQ : ∀ (pc : Nat) (ls : Array Slot) (H : Heap) (locs : List Loc) {σ : np_S}, decode prog_4_method_2_code pc = .ok (.return_, 1) → some ((0 : Int), σ) = some out → np_At D np_cl A (nc_wd q cA) s σ H locs → W p l e R s m args below meth c H locs 0 0 Q (F0 m pc ls []))   : ∀ (n : Nat), ∀ (x2 x3 : Int) (σ : np_S) (H : Heap) (locs : List Loc) (ls : Array Slot), f_Output_writeWords_7  n x2 x3 σ = some out → np_At D np_cl A (nc_wd q cA) s σ H locs → lv_has ls 4 [(0, .ref (q 26)), (1, .ref (q 6)), (2, .int (np_i x2)), (3, .int (np_i x3))] → W p l e R s m args below meth c H locs 0 0 Q (F0 m 7 ls []) := by
  intro n
  induction n with
  | zero => intro x2 x3 σ H locs ls hf; cases hf
  | succ n ih =>
    intro x2 x3 σ H locs ls hf hat hl
    have h7 := ih
    have hf : f_Output_writeWords_7_b  (fun x2 x3 σ => f_Output_writeWords_7  n x2 x3 σ) x2 x3 σ = some out := hf
    unfold f_Output_writeWords_7_b at hf
    refine lv_iload_n C.x C.b dd_Output_writeWords_7 rfl (lv_at hl 3 rfl) ?_
    refine lv_aload_n C.x C.b dd_Output_writeWords_8 rfl (lv_at hl 1 rfl) ?_
    refine np_get (v := .int (np_i (σ 6 5))) C i_Text hat.1 6 (nc_o6 _) rfl 5 (by decide) tw_95 rfl rfl dd_Output_writeWords_9 ?_
    refine np_icmp_ge (tgt := 52) C dd_Output_writeWords_12 (by decide) hf (fun _ hf => ?_) (fun _ hf => ?_)
    · exact hQ _ _ _ _ dd_Output_writeWords_52 hf hat
    · refine lv_iload_n C.x C.b dd_Output_writeWords_15 rfl (lv_at hl 2 rfl) ?_
      refine lv_iload_n C.x C.b dd_Output_writeWords_16 rfl (lv_at hl 3 rfl) ?_
      refine np_iushr C dd_Output_writeWords_17 ?_
      refine lv_iconst (v := np_i 1) C.x C.b dd_Output_writeWords_18 rfl ?_
      refine np_iand C dd_Output_writeWords_19 ?_
      refine np_if_ne (tgt := 46) C dd_Output_writeWords_20 (by decide) hf (fun _ hf => ?_) (fun _ hf => ?_)
      · exact w_f_Output_writeWords_46 C hQ h7 _ _ _ _ _ _ hf hat (lv_sub hl [0, 1, 2, 3] rfl)
      · refine lv_aload_n C.x C.b dd_Output_writeWords_23 rfl (lv_at hl 0 rfl) ?_
        refine np_get (v := .int (np_i (σ 26 1))) C i_Output hat.1 26 (nc_o26 _) rfl 1 (by decide) tw_197 rfl rfl dd_Output_writeWords_24 ?_
        refine np_if_le (tgt := 36) C dd_Output_writeWords_27 (by decide) hf (fun _ hf => ?_) (fun _ hf => ?_)
        · exact w_f_Output_writeWords_36 C hQ h7 _ _ _ _ _ _ hf hat (lv_sub hl [0, 1, 2, 3] rfl)
        · refine lv_aload_n C.x C.b dd_Output_writeWords_30 rfl (lv_at hl 0 rfl) ?_
          refine lv_bipush (v := np_i 32) C.x C.b dd_Output_writeWords_31 (by decide +kernel) ?_
          refine np_callVv (As := [.int (np_i 32)]) (rest := []) C (c_Output_addByte l 32 _) np_allgood tw_907 tw_909 tp_26 tw_7 tw_910 (nA := 1) (by decide +kernel) rfl ⟨rfl, rfl, Nat.le_of_ble_eq_true rfl, Nat.le_of_ble_eq_true rfl⟩ (nc_o26 _) rfl hat rfl hl.1 (Nat.le_of_ble_eq_true rfl) dd_Output_writeWords_33 hf (fun o2 H locs hf hat => ?_)
          exact w_f_Output_writeWords_36 C hQ h7 _ _ _ _ _ _ hf hat (lv_sub hl [0, 1, 2, 3] rfl)
set_option maxHeartbeats 4000000 in
set_option maxRecDepth 100000 in
theorem w_f_Output_writeWords (C : np_Cx gA p R s m args c D np_cl (np_ty cA) A np_al "NotationParse$Output" prog_4_method_2_code 4 { frames := 2, cells := 0, slots := 0, locals := 46 }) (hQ : ∀ (pc : Nat) (ls : Array Slot) (H : Heap) (locs : List Loc) {σ : np_S}, decode prog_4_method_2_code pc = .ok (.return_, 1) → some ((0 : Int), σ) = some out → np_At D np_cl A (nc_wd q cA) s σ H locs → W p l e R s m args below meth c H locs 0 0 Q (F0 m pc ls []))   : ∀ (x2 : Int) (σ : np_S) (H : Heap) (locs : List Loc) (ls : Array Slot), f_Output_writeWords  x2 σ = some out → np_At D np_cl A (nc_wd q cA) s σ H locs → lv_has ls 4 [(0, .ref (q 26)), (1, .ref (q 6)), (2, .int (np_i x2))] → W p l e R s m args below meth c H locs 0 0 Q (F0 m 0 ls []) := by
  intro x2 σ H locs ls hf hat hl
  unfold f_Output_writeWords at hf
  refine lv_aload_n C.x C.b dd_Output_writeWords_0 rfl (lv_at hl 0 rfl) ?_
  refine lv_iconst (v := np_i 0) C.x C.b dd_Output_writeWords_1 rfl ?_
  refine np_put C i_Output t_Output tok_Output n_Output hat 26 (nc_o26 _) rfl 1 (by decide) tw_197 rfl rfl (by decide +kernel) (np_narI 0) (np_fitI 0) (Nat.le_of_ble_eq_true rfl) (nc_s26_1 _ _) dd_Output_writeWords_2 (fun H locs hat => ?_)
  refine lv_iconst (v := np_i 0) C.x C.b dd_Output_writeWords_5 rfl ?_
  refine lv_istore_n (lv' := [(3, .int (np_i 0)), (0, .ref (q 26)), (1, .ref (q 6)), (2, .int (np_i x2))]) C.x C.b dd_Output_writeWords_6 rfl hl (by decide) rfl (fun ls hl => ?_)
  exact w_f_Output_writeWords_7 C hQ  6000 _ _ _ _ _ _ hf hat (lv_sub hl [1, 2, 3, 0] rfl)
set_option maxHeartbeats 4000000 in
set_option maxRecDepth 100000 in
theorem c_Output_writeWords (l : Launch) {gA : Nat → Nat} {D : va_G} {q : Nat → Nat} {cA : Nat → ClassId} (x2 : Int) (σ : np_S) : np_Mv gA l D np_cl (np_ty cA) (nc_wd q cA) yy_Output_writeWords (.code yy_Output_writeWords prog_4_method_2_code 4 none :: np_al) { frames := 2, cells := 0, slots := 0, locals := 46 } [.ref (q 26), .ref (q 6), .int (np_i x2)] σ (f_Output_writeWords x2 σ) :=
  np_mkv (by decide +kernel) (Nat.le_of_ble_eq_true rfl) (fun o p e R s m args below meth c Q A ls hf C hQ hat hl => w_f_Output_writeWords C hQ x2 σ _ _ _ hf hat (lv_sub hl [0, 1, 2] rfl))
set_option maxHeartbeats 4000000 in
set_option maxRecDepth 100000 in
theorem w_f_N_at_28 (C : np_Cx gA p R s m args c D np_cl (np_ty cA) A np_al "NotationParse" prog_1_method_13_code 2 { frames := 0, cells := 0, slots := 0, locals := 0 }) (hQ : ∀ (pc : Nat) (ls : Array Slot) (H : Heap) (locs : List Loc) (v : Int) {σ : np_S}, decode prog_1_method_13_code pc = .ok (.ireturn, 1) → some (v, σ) = some out → np_At D np_cl A (nc_wd q cA) s σ H locs → W p l e R s m args below meth c H locs 0 0 Q (F0 m pc ls [.int (np_i v)]))   : ∀ (t0 : Int) (σ : np_S) (H : Heap) (locs : List Loc) (ls : Array Slot), f_N_at_28  t0 σ = some out → np_At D np_cl A (nc_wd q cA) s σ H locs → lv_has ls 2 [] → W p l e R s m args below meth c H locs 0 0 Q (F0 m 28 ls [.int (np_i t0)]) := by
  intro t0 σ H locs ls hf hat hl
  unfold f_N_at_28 at hf
  exact hQ _ _ _ _ _ dd_N_at_28 hf hat
set_option maxHeartbeats 4000000 in
set_option maxRecDepth 100000 in
theorem w_f_N_at_15 (C : np_Cx gA p R s m args c D np_cl (np_ty cA) A np_al "NotationParse" prog_1_method_13_code 2 { frames := 0, cells := 0, slots := 0, locals := 0 }) (hQ : ∀ (pc : Nat) (ls : Array Slot) (H : Heap) (locs : List Loc) (v : Int) {σ : np_S}, decode prog_1_method_13_code pc = .ok (.ireturn, 1) → some (v, σ) = some out → np_At D np_cl A (nc_wd q cA) s σ H locs → W p l e R s m args below meth c H locs 0 0 Q (F0 m pc ls [.int (np_i v)]))   : ∀ (σ : np_S) (H : Heap) (locs : List Loc) (ls : Array Slot), f_N_at_15  σ = some out → np_At D np_cl A (nc_wd q cA) s σ H locs → lv_has ls 2 [] → W p l e R s m args below meth c H locs 0 0 Q (F0 m 15 ls []) := by
  intro σ H locs ls hf hat hl
  unfold f_N_at_15 at hf
  refine lv_iconst (v := np_i (-1)) C.x C.b dd_N_at_15 rfl ?_
  refine lv_goto (tgt := 28) C.x C.b dd_N_at_16 (by decide) ?_
  exact w_f_N_at_28 C hQ  _ _ _ _ _ hf hat (lv_sub hl [] rfl)
set_option maxHeartbeats 4000000 in
set_option maxRecDepth 100000 in
theorem w_f_N_at (C : np_Cx gA p R s m args c D np_cl (np_ty cA) A np_al "NotationParse" prog_1_method_13_code 2 { frames := 0, cells := 0, slots := 0, locals := 0 }) (hQ : ∀ (pc : Nat) (ls : Array Slot) (H : Heap) (locs : List Loc) (v : Int) {σ : np_S}, decode prog_1_method_13_code pc = .ok (.ireturn, 1) → some (v, σ) = some out → np_At D np_cl A (nc_wd q cA) s σ H locs → W p l e R s m args below meth c H locs 0 0 Q (F0 m pc ls [.int (np_i v)]))   : ∀ (x1 : Int) (σ : np_S) (H : Heap) (locs : List Loc) (ls : Array Slot), f_N_at  x1 σ = some out → np_At D np_cl A (nc_wd q cA) s σ H locs → lv_has ls 2 [(0, .ref (q 0)), (1, .int (np_i x1))] → W p l e R s m args below meth c H locs 0 0 Q (F0 m 0 ls []) := by
  intro x1 σ H locs ls hf hat hl
  unfold f_N_at at hf
  refine lv_iload_n C.x C.b dd_N_at_0 rfl (lv_at hl 1 rfl) ?_
  refine np_if_lt (tgt := 15) C dd_N_at_1 (by decide) hf (fun _ hf => ?_) (fun _ hf => ?_)
  · exact w_f_N_at_15 C hQ   _ _ _ _ hf hat (lv_sub hl [] rfl)
  · refine lv_iload_n C.x C.b dd_N_at_4 rfl (lv_at hl 1 rfl) ?_
    refine lv_aload_n C.x C.b dd_N_at_5 rfl (lv_at hl 0 rfl) ?_
    refine np_get (v := .ref (q 26)) C i_N hat.1 0 (nc_o0 _) rfl 4 (by decide) tw_208 rfl rfl dd_N_at_6 ?_
    refine np_get (v := .int (np_i (σ 26 1))) C i_Output hat.1 26 (nc_o26 _) rfl 1 (by decide) tw_198 rfl rfl dd_N_at_9 ?_
    refine np_icmp_lt (tgt := 19) C dd_N_at_12 (by decide) hf (fun _ hf => ?_) (fun _ hf => ?_)
    · refine lv_aload_n C.x C.b dd_N_at_19 rfl (lv_at hl 0 rfl) ?_
      refine np_get (v := .ref (q 26)) C i_N hat.1 0 (nc_o0 _) rfl 4 (by decide) tw_208 rfl rfl dd_N_at_20 ?_
      refine np_get (v := .ref (q 27)) C i_Output hat.1 26 (nc_o26 _) rfl 0 (by decide) tw_196 rfl rfl dd_N_at_23 ?_
      refine lv_iload_n C.x C.b dd_N_at_26 rfl (lv_at hl 1 rfl) ?_
      refine np_baload C hat.1 27 (nc_a27 _) 2 rfl (by decide) dd_N_at_27 hf (fun hf => ?_)
      exact w_f_N_at_28 C hQ  _ _ _ _ _ hf hat (lv_sub hl [] rfl)
    · exact w_f_N_at_15 C hQ   _ _ _ _ hf hat (lv_sub hl [] rfl)
set_option maxHeartbeats 4000000 in
set_option maxRecDepth 100000 in
theorem c_N_at (l : Launch) {gA : Nat → Nat} {D : va_G} {q : Nat → Nat} {cA : Nat → ClassId} (x1 : Int) (σ : np_S) : np_Mi gA l D np_cl (np_ty cA) (nc_wd q cA) yy_N_at (.code yy_N_at prog_1_method_13_code 2 (some .int) :: np_al) { frames := 0, cells := 0, slots := 0, locals := 0 } [.ref (q 0), .int (np_i x1)] σ (f_N_at x1 σ) :=
  np_mki (by decide +kernel) (Nat.le_of_ble_eq_true rfl) (fun o p e R s m args below meth c Q A ls hf C hQ hat hl => w_f_N_at C hQ x1 σ _ _ _ hf hat (lv_sub hl [0, 1] rfl))
set_option maxHeartbeats 4000000 in
set_option maxRecDepth 100000 in
theorem w_f_N_about (C : np_Cx gA p R s m args c D np_cl (np_ty cA) A np_al "NotationParse" prog_1_method_15_code 2 { frames := 0, cells := 0, slots := 0, locals := 0 }) (hQ : ∀ (pc : Nat) (ls : Array Slot) (H : Heap) (locs : List Loc) (v : Int) {σ : np_S}, decode prog_1_method_15_code pc = .ok (.ireturn, 1) → some (v, σ) = some out → np_At D np_cl A (nc_wd q cA) s σ H locs → W p l e R s m args below meth c H locs 0 0 Q (F0 m pc ls [.int (np_i v)]))   : ∀ (x1 : Int) (σ : np_S) (H : Heap) (locs : List Loc) (ls : Array Slot), f_N_about  x1 σ = some out → np_At D np_cl A (nc_wd q cA) s σ H locs → lv_has ls 2 [(0, .ref (q 0)), (1, .int (np_i x1))] → W p l e R s m args below meth c H locs 0 0 Q (F0 m 0 ls []) := by
  intro x1 σ H locs ls hf hat hl
  unfold f_N_about at hf
  refine lv_iload_n C.x C.b dd_N_about_0 rfl (lv_at hl 1 rfl) ?_
  obtain ⟨hR, hf⟩ := np_ck_e hf
  refine np_case hf (fun hx hf => ?_) (fun n0 hf => ?_)
  · refine np_tswI (tgt := 36) (off := 35) C dd_N_about_1 hx (by decide +kernel) (by decide +kernel) (by decide +kernel) (by decide) ?_
    refine lv_aload_n C.x C.b dd_N_about_36 rfl (lv_at hl 0 rfl) ?_
    refine np_get (v := .ref (q 1)) C i_N hat.1 0 (nc_o0 _) rfl 0 (by decide) tw_204 rfl rfl dd_N_about_37 ?_
    refine np_get (v := .int (np_i (σ 1 4))) C i_Grammar hat.1 1 (nc_o1 _) rfl 4 (by decide) tw_60 rfl rfl dd_N_about_40 ?_
    refine lv_iconst (v := np_i 2) C.x C.b dd_N_about_43 rfl ?_
    refine np_isub C dd_N_about_44 ?_
    exact hQ _ _ _ _ _ dd_N_about_45 hf hat
  refine np_case hf (fun hx hf => ?_) (fun n1 hf => ?_)
  · refine np_tswI (tgt := 46) (off := 45) C dd_N_about_1 hx (by decide +kernel) (by decide +kernel) (by decide +kernel) (by decide) ?_
    refine lv_aload_n C.x C.b dd_N_about_46 rfl (lv_at hl 0 rfl) ?_
    refine np_get (v := .ref (q 1)) C i_N hat.1 0 (nc_o0 _) rfl 0 (by decide) tw_204 rfl rfl dd_N_about_47 ?_
    refine np_get (v := .int (np_i (σ 1 5))) C i_Grammar hat.1 1 (nc_o1 _) rfl 5 (by decide) tw_63 rfl rfl dd_N_about_50 ?_
    exact hQ _ _ _ _ _ dd_N_about_53 hf hat
  refine np_case hf (fun hx hf => ?_) (fun n2 hf => ?_)
  · refine np_tswI (tgt := 54) (off := 53) C dd_N_about_1 hx (by decide +kernel) (by decide +kernel) (by decide +kernel) (by decide) ?_
    refine lv_aload_n C.x C.b dd_N_about_54 rfl (lv_at hl 0 rfl) ?_
    refine np_get (v := .ref (q 6)) C i_N hat.1 0 (nc_o0 _) rfl 1 (by decide) tw_205 rfl rfl dd_N_about_55 ?_
    refine np_get (v := .int (np_i (σ 6 1))) C i_Text hat.1 6 (nc_o6 _) rfl 1 (by decide) tw_87 rfl rfl dd_N_about_58 ?_
    exact hQ _ _ _ _ _ dd_N_about_61 hf hat
  refine np_case hf (fun hx hf => ?_) (fun n3 hf => ?_)
  · refine np_tswI (tgt := 62) (off := 61) C dd_N_about_1 hx (by decide +kernel) (by decide +kernel) (by decide +kernel) (by decide) ?_
    refine lv_aload_n C.x C.b dd_N_about_62 rfl (lv_at hl 0 rfl) ?_
    refine np_get (v := .ref (q 15)) C i_N hat.1 0 (nc_o0 _) rfl 3 (by decide) tw_207 rfl rfl dd_N_about_63 ?_
    refine np_get (v := .int (np_i (σ 15 2))) C i_Tree hat.1 15 (nc_o15 _) rfl 2 (by decide) tw_143 rfl rfl dd_N_about_66 ?_
    exact hQ _ _ _ _ _ dd_N_about_69 hf hat
  refine np_case hf (fun hx hf => ?_) (fun n4 hf => ?_)
  · refine np_tswI (tgt := 70) (off := 69) C dd_N_about_1 hx (by decide +kernel) (by decide +kernel) (by decide +kernel) (by decide) ?_
    refine lv_aload_n C.x C.b dd_N_about_70 rfl (lv_at hl 0 rfl) ?_
    refine np_get (v := .ref (q 26)) C i_N hat.1 0 (nc_o0 _) rfl 4 (by decide) tw_208 rfl rfl dd_N_about_71 ?_
    refine np_get (v := .int (np_i (σ 26 1))) C i_Output hat.1 26 (nc_o26 _) rfl 1 (by decide) tw_198 rfl rfl dd_N_about_74 ?_
    exact hQ _ _ _ _ _ dd_N_about_77 hf hat
  refine np_tswO (tgt := 78) C dd_N_about_1 hR (by omega) (by decide) ?_
  refine lv_iconst (v := np_i (-1)) C.x C.b dd_N_about_78 rfl ?_
  exact hQ _ _ _ _ _ dd_N_about_79 hf hat
set_option maxHeartbeats 4000000 in
set_option maxRecDepth 100000 in
theorem c_N_about (l : Launch) {gA : Nat → Nat} {D : va_G} {q : Nat → Nat} {cA : Nat → ClassId} (x1 : Int) (σ : np_S) : np_Mi gA l D np_cl (np_ty cA) (nc_wd q cA) yy_N_about (.code yy_N_about prog_1_method_15_code 2 (some .int) :: np_al) { frames := 0, cells := 0, slots := 0, locals := 0 } [.ref (q 0), .int (np_i x1)] σ (f_N_about x1 σ) :=
  np_mki (by decide +kernel) (Nat.le_of_ble_eq_true rfl) (fun o p e R s m args below meth c Q A ls hf C hQ hat hl => w_f_N_about C hQ x1 σ _ _ _ hf hat (lv_sub hl [0, 1] rfl))
set_option maxHeartbeats 4000000 in
set_option maxRecDepth 100000 in
theorem w_f_Grammar_handEndsInHole_32 (C : np_Cx gA p R s m args c D np_cl (np_ty cA) A np_al "NotationParse$Grammar" prog_3_method_4_code 1 { frames := 1, cells := 0, slots := 0, locals := 20 }) (hQ : ∀ (pc : Nat) (ls : Array Slot) (H : Heap) (locs : List Loc) (v : Int) {σ : np_S}, decode prog_3_method_4_code pc = .ok (.ireturn, 1) → np_ck (v = 0 ∨ v = 1) (some (v, σ)) = some out → np_At D np_cl A (nc_wd q cA) s σ H locs → W p l e R s m args below meth c H locs 0 0 Q (F0 m pc ls [.int (np_i v)]))   : ∀ (t0 : Int) (σ : np_S) (H : Heap) (locs : List Loc) (ls : Array Slot), f_Grammar_handEndsInHole_32  t0 σ = some out → np_At D np_cl A (nc_wd q cA) s σ H locs → lv_has ls 1 [] → W p l e R s m args below meth c H locs 0 0 Q (F0 m 32 ls [.int (np_i t0)]) := by
  intro t0 σ H locs ls hf hat hl
  unfold f_Grammar_handEndsInHole_32 at hf
  exact hQ _ _ _ _ _ dd_Grammar_handEndsInHole_32 hf hat
set_option maxHeartbeats 4000000 in
set_option maxRecDepth 100000 in
theorem w_f_Grammar_handEndsInHole_31 (C : np_Cx gA p R s m args c D np_cl (np_ty cA) A np_al "NotationParse$Grammar" prog_3_method_4_code 1 { frames := 1, cells := 0, slots := 0, locals := 20 }) (hQ : ∀ (pc : Nat) (ls : Array Slot) (H : Heap) (locs : List Loc) (v : Int) {σ : np_S}, decode prog_3_method_4_code pc = .ok (.ireturn, 1) → np_ck (v = 0 ∨ v = 1) (some (v, σ)) = some out → np_At D np_cl A (nc_wd q cA) s σ H locs → W p l e R s m args below meth c H locs 0 0 Q (F0 m pc ls [.int (np_i v)]))   : ∀ (σ : np_S) (H : Heap) (locs : List Loc) (ls : Array Slot), f_Grammar_handEndsInHole_31  σ = some out → np_At D np_cl A (nc_wd q cA) s σ H locs → lv_has ls 1 [] → W p l e R s m args below meth c H locs 0 0 Q (F0 m 31 ls []) := by
  intro σ H locs ls hf hat hl
  unfold f_Grammar_handEndsInHole_31 at hf
  refine lv_iconst (v := np_i 0) C.x C.b dd_Grammar_handEndsInHole_31 rfl ?_
  exact w_f_Grammar_handEndsInHole_32 C hQ  _ _ _ _ _ hf hat (lv_sub hl [] rfl)
set_option maxHeartbeats 4000000 in
set_option maxRecDepth 100000 in
theorem w_f_Grammar_handEndsInHole (C : np_Cx gA p R s m args c D np_cl (np_ty cA) A np_al "NotationParse$Grammar" prog_3_method_4_code 1 { frames := 1, cells := 0, slots := 0, locals := 20 }) (hQ : ∀ (pc : Nat) (ls : Array Slot) (H : Heap) (locs : List Loc) (v : Int) {σ : np_S}, decode prog_3_method_4_code pc = .ok (.ireturn, 1) → np_ck (v = 0 ∨ v = 1) (some (v, σ)) = some out → np_At D np_cl A (nc_wd q cA) s σ H locs → W p l e R s m args below meth c H locs 0 0 Q (F0 m pc ls [.int (np_i v)]))   : ∀ (σ : np_S) (H : Heap) (locs : List Loc) (ls : Array Slot), f_Grammar_handEndsInHole  σ = some out → np_At D np_cl A (nc_wd q cA) s σ H locs → lv_has ls 1 [(0, .ref (q 1))] → W p l e R s m args below meth c H locs 0 0 Q (F0 m 0 ls []) := by
  intro σ H locs ls hf hat hl
  unfold f_Grammar_handEndsInHole at hf
  refine lv_aload_n C.x C.b dd_Grammar_handEndsInHole_0 rfl (lv_at hl 0 rfl) ?_
  refine np_get (v := .int (np_i (σ 1 5))) C i_Grammar hat.1 1 (nc_o1 _) rfl 5 (by decide) tw_62 rfl rfl dd_Grammar_handEndsInHole_1 ?_
  refine np_if_le (tgt := 31) C dd_Grammar_handEndsInHole_4 (by decide) hf (fun _ hf => ?_) (fun _ hf => ?_)
  · exact w_f_Grammar_handEndsInHole_31 C hQ   _ _ _ _ hf hat (lv_sub hl [] rfl)
  · refine lv_aload_n C.x C.b dd_Grammar_handEndsInHole_7 rfl (lv_at hl 0 rfl) ?_
    refine np_get (v := .ref (q 2)) C i_Grammar hat.1 1 (nc_o1 _) rfl 0 (by decide) tw_50 rfl rfl dd_Grammar_handEndsInHole_8 ?_
    refine lv_aload_n C.x C.b dd_Grammar_handEndsInHole_11 rfl (lv_at hl 0 rfl) ?_
    refine np_callVi (As := []) (rest := [.ref (q 2)]) C (c_Grammar_usedDots l _) np_allgood tw_355 tw_356 tw_357 tw_2 tw_358 (nA := 0) (by decide +kernel) rfl ⟨rfl, rfl, Nat.le_of_ble_eq_true rfl, Nat.le_of_ble_eq_true rfl⟩ (nc_o1 _) rfl hat rfl hl.1 (Nat.le_of_ble_eq_true rfl) dd_Grammar_handEndsInHole_12 hf (fun o1 H locs hf hat => ?_)
    refine lv_aload_n C.x C.b dd_Grammar_handEndsInHole_15 rfl (lv_at hl 0 rfl) ?_
    refine np_get (v := .int (np_i (o1.2 1 5))) C i_Grammar hat.1 1 (nc_o1 _) rfl 5 (by decide) tw_62 rfl rfl dd_Grammar_handEndsInHole_16 ?_
    refine np_iadd C dd_Grammar_handEndsInHole_19 ?_
    refine lv_iconst (v := np_i 1) C.x C.b dd_Grammar_handEndsInHole_20 rfl ?_
    refine np_isub C dd_Grammar_handEndsInHole_21 ?_
    refine np_iaload C hat.1 2 (nc_a2 _) 0 rfl (by decide) dd_Grammar_handEndsInHole_22 hf (fun hf => ?_)
    refine lv_iconst (v := np_i (-1)) C.x C.b dd_Grammar_handEndsInHole_23 rfl ?_
    refine np_icmp_eq (tgt := 31) C dd_Grammar_handEndsInHole_24 (by decide) hf (fun _ hf => ?_) (fun _ hf => ?_)
    · exact w_f_Grammar_handEndsInHole_31 C hQ   _ _ _ _ hf hat (lv_sub hl [] rfl)
    · refine lv_iconst (v := np_i 1) C.x C.b dd_Grammar_handEndsInHole_27 rfl ?_
      refine lv_goto (tgt := 32) C.x C.b dd_Grammar_handEndsInHole_28 (by decide) ?_
      exact w_f_Grammar_handEndsInHole_32 C hQ  _ _ _ _ _ hf hat (lv_sub hl [] rfl)
set_option maxHeartbeats 4000000 in
set_option maxRecDepth 100000 in
theorem c_Grammar_handEndsInHole (l : Launch) {gA : Nat → Nat} {D : va_G} {q : Nat → Nat} {cA : Nat → ClassId} (σ : np_S) : np_Mi gA l D np_cl (np_ty cA) (nc_wd q cA) yy_Grammar_handEndsInHole (.code yy_Grammar_handEndsInHole prog_3_method_4_code 1 (some .boolean) :: np_al) { frames := 1, cells := 0, slots := 0, locals := 20 } [.ref (q 1)] σ (f_Grammar_handEndsInHole  σ) :=
  np_mkz (by decide +kernel) (Nat.le_of_ble_eq_true rfl) (fun o p e R s m args below meth c Q A ls hf C hQ hat hl => w_f_Grammar_handEndsInHole C hQ  σ _ _ _ hf hat (lv_sub hl [0] rfl))
set_option maxHeartbeats 4000000 in
set_option maxRecDepth 100000 in
theorem w_f_Grammar_handHasWord_2 (C : np_Cx gA p R s m args c D np_cl (np_ty cA) A np_al "NotationParse$Grammar" prog_3_method_5_code 2 { frames := 1, cells := 0, slots := 0, locals := 20 }) (hQ : ∀ (pc : Nat) (ls : Array Slot) (H : Heap) (locs : List Loc) (v : Int) {σ : np_S}, decode prog_3_method_5_code pc = .ok (.ireturn, 1) → np_ck (v = 0 ∨ v = 1) (some (v, σ)) = some out → np_At D np_cl A (nc_wd q cA) s σ H locs → W p l e R s m args below meth c H locs 0 0 Q (F0 m pc ls [.int (np_i v)]))   : ∀ (n : Nat), ∀ (x1 : Int) (σ : np_S) (H : Heap) (locs : List Loc) (ls : Array Slot), f_Grammar_handHasWord_2  n x1 σ = some out → np_At D np_cl A (nc_wd q cA) s σ H locs → lv_has ls 2 [(0, .ref (q 1)), (1, .int (np_i x1))] → W p l e R s m args below meth c H locs 0 0 Q (F0 m 2 ls []) := by
  intro n
  induction n with
  | zero => intro x1 σ H locs ls hf; cases hf
  | succ n ih =>
    intro x1 σ H locs ls hf hat hl
    have h2 := ih
    have hf : f_Grammar_handHasWord_2_b  (fun x1 σ => f_Grammar_handHasWord_2  n x1 σ) x1 σ = some out := hf
    unfold f_Grammar_handHasWord_2_b at hf
    refine lv_iload_n C.x C.b dd_Grammar_handHasWord_2 rfl (lv_at hl 1 rfl) ?_
    refine lv_aload_n C.x C.b dd_Grammar_handHasWord_3 rfl (lv_at hl 0 rfl) ?_
    refine np_get (v := .int (np_i (σ 1 5))) C i_Grammar hat.1 1 (nc_o1 _) rfl 5 (by decide) tw_62 rfl rfl dd_Grammar_handHasWord_4 ?_
    refine np_icmp_ge (tgt := 36) C dd_Grammar_handHasWord_7 (by decide) hf (fun _ hf => ?_) (fun _ hf => ?_)
    · refine lv_iconst (v := np_i 0) C.x C.b dd_Grammar_handHasWord_36 rfl ?_
      exact hQ _ _ _ _ _ dd_Grammar_handHasWord_37 hf hat
    · refine lv_aload_n C.x C.b dd_Grammar_handHasWord_10 rfl (lv_at hl 0 rfl) ?_
      refine np_get (v := .ref (q 3)) C i_Grammar hat.1 1 (nc_o1 _) rfl 1 (by decide) tw_53 rfl rfl dd_Grammar_handHasWord_11 ?_
      refine lv_aload_n C.x C.b dd_Grammar_handHasWord_14 rfl (lv_at hl 0 rfl) ?_
      refine np_callVi (As := []) (rest := [.ref (q 3)]) C (c_Grammar_usedDots l _) np_allgood tw_355 tw_356 tw_357 tw_2 tw_358 (nA := 0) (by decide +kernel) rfl ⟨rfl, rfl, Nat.le_of_ble_eq_true rfl, Nat.le_of_ble_eq_true rfl⟩ (nc_o1 _) rfl hat rfl hl.1 (Nat.le_of_ble_eq_true rfl) dd_Grammar_handHasWord_15 hf (fun o1 H locs hf hat => ?_)
      refine lv_iload_n C.x C.b dd_Grammar_handHasWord_18 rfl (lv_at hl 1 rfl) ?_
      refine np_iadd C dd_Grammar_handHasWord_19 ?_
      refine np_laload C hat.1 3 (nc_a3 _) 1 rfl (by decide) dd_Grammar_handHasWord_20 hf (fun hf => ?_)
      refine np_ldc2 (v := (-1)) C tw_44 dd_Grammar_handHasWord_21 ?_
      refine np_lcmp C dd_Grammar_handHasWord_24 hf (fun hf => ?_)
      refine np_if_eq (tgt := 30) C dd_Grammar_handHasWord_25 (by decide) hf (fun _ hf => ?_) (fun _ hf => ?_)
      · refine lv_iinc (v := np_i (x1 + 1)) (lv' := [(1, .int (np_i (x1 + 1))), (0, .ref (q 1))]) C.x C.b dd_Grammar_handHasWord_30 hl (k := 1) rfl (np_inc _ _) (by decide) rfl (fun ls hl => ?_)
        refine lv_goto (tgt := 2) C.x C.b dd_Grammar_handHasWord_33 (by decide) ?_
        exact h2 _ _ _ _ _ hf hat (lv_sub hl [1, 0] rfl)
      · refine lv_iconst (v := np_i 1) C.x C.b dd_Grammar_handHasWord_28 rfl ?_
        exact hQ _ _ _ _ _ dd_Grammar_handHasWord_29 hf hat
set_option maxHeartbeats 4000000 in
set_option maxRecDepth 100000 in
theorem w_f_Grammar_handHasWord (C : np_Cx gA p R s m args c D np_cl (np_ty cA) A np_al "NotationParse$Grammar" prog_3_method_5_code 2 { frames := 1, cells := 0, slots := 0, locals := 20 }) (hQ : ∀ (pc : Nat) (ls : Array Slot) (H : Heap) (locs : List Loc) (v : Int) {σ : np_S}, decode prog_3_method_5_code pc = .ok (.ireturn, 1) → np_ck (v = 0 ∨ v = 1) (some (v, σ)) = some out → np_At D np_cl A (nc_wd q cA) s σ H locs → W p l e R s m args below meth c H locs 0 0 Q (F0 m pc ls [.int (np_i v)]))   : ∀ (σ : np_S) (H : Heap) (locs : List Loc) (ls : Array Slot), f_Grammar_handHasWord  σ = some out → np_At D np_cl A (nc_wd q cA) s σ H locs → lv_has ls 2 [(0, .ref (q 1))] → W p l e R s m args below meth c H locs 0 0 Q (F0 m 0 ls []) := by
  intro σ H locs ls hf hat hl
  unfold f_Grammar_handHasWord at hf
  refine lv_iconst (v := np_i 0) C.x C.b dd_Grammar_handHasWord_0 rfl ?_
  refine lv_istore_n (lv' := [(1, .int (np_i 0)), (0, .ref (q 1))]) C.x C.b dd_Grammar_handHasWord_1 rfl hl (by decide) rfl (fun ls hl => ?_)
  exact w_f_Grammar_handHasWord_2 C hQ  6000 _ _ _ _ _ hf hat (lv_sub hl [1, 0] rfl)
set_option maxHeartbeats 4000000 in
set_option maxRecDepth 100000 in
theorem c_Grammar_handHasWord (l : Launch) {gA : Nat → Nat} {D : va_G} {q : Nat → Nat} {cA : Nat → ClassId} (σ : np_S) : np_Mi gA l D np_cl (np_ty cA) (nc_wd q cA) yy_Grammar_handHasWord (.code yy_Grammar_handHasWord prog_3_method_5_code 2 (some .boolean) :: np_al) { frames := 1, cells := 0, slots := 0, locals := 20 } [.ref (q 1)] σ (f_Grammar_handHasWord  σ) :=
  np_mkz (by decide +kernel) (Nat.le_of_ble_eq_true rfl) (fun o p e R s m args below meth c Q A ls hf C hQ hat hl => w_f_Grammar_handHasWord C hQ  σ _ _ _ hf hat (lv_sub hl [0] rfl))
set_option maxHeartbeats 4000000 in
set_option maxRecDepth 100000 in
theorem w_f_Grammar_takePart (C : np_Cx gA p R s m args c D np_cl (np_ty cA) A np_al "NotationParse$Grammar" prog_3_method_6_code 4 { frames := 1, cells := 0, slots := 0, locals := 20 }) (hQ : ∀ (pc : Nat) (ls : Array Slot) (H : Heap) (locs : List Loc) (v : Int) {σ : np_S}, decode prog_3_method_6_code pc = .ok (.ireturn, 1) → some (v, σ) = some out → np_At D np_cl A (nc_wd q cA) s σ H locs → W p l e R s m args below meth c H locs 0 0 Q (F0 m pc ls [.int (np_i v)]))   : ∀ (x1 x2 : Int) (σ : np_S) (H : Heap) (locs : List Loc) (ls : Array Slot), f_Grammar_takePart  x1 x2 σ = some out → np_At D np_cl A (nc_wd q cA) s σ H locs → lv_has ls 4 [(0, .ref (q 1)), (1, .int (np_i x1)), (2, .long (np_l x2))] → W p l e R s m args below meth c H locs 0 0 Q (F0 m 0 ls []) := by
  intro x1 x2 σ H locs ls hf hat hl
  unfold f_Grammar_takePart at hf
  refine lv_aload_n C.x C.b dd_Grammar_takePart_0 rfl (lv_at hl 0 rfl) ?_
  refine np_get (v := .ref (q 2)) C i_Grammar hat.1 1 (nc_o1 _) rfl 0 (by decide) tw_50 rfl rfl dd_Grammar_takePart_1 ?_
  refine lv_aload_n C.x C.b dd_Grammar_takePart_4 rfl (lv_at hl 0 rfl) ?_
  refine np_callVi (As := []) (rest := [.ref (q 2)]) C (c_Grammar_usedDots l _) np_allgood tw_355 tw_356 tw_357 tw_2 tw_358 (nA := 0) (by decide +kernel) rfl ⟨rfl, rfl, Nat.le_of_ble_eq_true rfl, Nat.le_of_ble_eq_true rfl⟩ (nc_o1 _) rfl hat rfl hl.1 (Nat.le_of_ble_eq_true rfl) dd_Grammar_takePart_5 hf (fun o1 H locs hf hat => ?_)
  refine lv_aload_n C.x C.b dd_Grammar_takePart_8 rfl (lv_at hl 0 rfl) ?_
  refine np_get (v := .int (np_i (o1.2 1 5))) C i_Grammar hat.1 1 (nc_o1 _) rfl 5 (by decide) tw_62 rfl rfl dd_Grammar_takePart_9 ?_
  refine np_iadd C dd_Grammar_takePart_12 ?_
  refine lv_iload_n C.x C.b dd_Grammar_takePart_13 rfl (lv_at hl 1 rfl) ?_
  refine np_iastore C hat 2 (nc_a2 _) 0 rfl (by decide) (nc_s2 _ _ _) dd_Grammar_takePart_14 hf (fun H locs hat hf => ?_)
  refine lv_aload_n C.x C.b dd_Grammar_takePart_15 rfl (lv_at hl 0 rfl) ?_
  refine np_get (v := .ref (q 3)) C i_Grammar hat.1 1 (nc_o1 _) rfl 1 (by decide) tw_53 rfl rfl dd_Grammar_takePart_16 ?_
  refine lv_aload_n C.x C.b dd_Grammar_takePart_19 rfl (lv_at hl 0 rfl) ?_
  refine np_callVi (As := []) (rest := [.ref (q 3)]) C (c_Grammar_usedDots l _) np_allgood tw_355 tw_356 tw_357 tw_2 tw_358 (nA := 0) (by decide +kernel) rfl ⟨rfl, rfl, Nat.le_of_ble_eq_true rfl, Nat.le_of_ble_eq_true rfl⟩ (nc_o1 _) rfl hat rfl hl.1 (Nat.le_of_ble_eq_true rfl) dd_Grammar_takePart_20 hf (fun o2 H locs hf hat => ?_)
  refine lv_aload_n C.x C.b dd_Grammar_takePart_23 rfl (lv_at hl 0 rfl) ?_
  refine np_get (v := .int (np_i (o2.2 1 5))) C i_Grammar hat.1 1 (nc_o1 _) rfl 5 (by decide) tw_62 rfl rfl dd_Grammar_takePart_24 ?_
  refine np_iadd C dd_Grammar_takePart_27 ?_
  refine lv_lload_n C.x C.b dd_Grammar_takePart_28 rfl (lv_at hl 2 rfl) ?_
  refine np_lastore C hat 3 (nc_a3 _) 1 rfl (by decide) (nc_s3 _ _ _) dd_Grammar_takePart_29 hf (fun H locs hat hf => ?_)
  refine lv_aload_n C.x C.b dd_Grammar_takePart_30 rfl (lv_at hl 0 rfl) ?_
  refine lv_dup C.x C.b dd_Grammar_takePart_31 rfl ?_
  refine np_get (v := .int (np_i ((np_st o2.2 3 (o2.1 + (o2.2 1 5)) x2) 1 5))) C i_Grammar hat.1 1 (nc_o1 _) rfl 5 (by decide) tw_62 rfl rfl dd_Grammar_takePart_32 ?_
  refine lv_iconst (v := np_i 1) C.x C.b dd_Grammar_takePart_35 rfl ?_
  refine np_iadd C dd_Grammar_takePart_36 ?_
  refine np_put C i_Grammar t_Grammar tok_Grammar n_Grammar hat 1 (nc_o1 _) rfl 5 (by decide) tw_62 rfl rfl (by decide +kernel) (np_narI (((np_st o2.2 3 (o2.1 + (o2.2 1 5)) x2) 1 5) + 1)) (np_fitI (((np_st o2.2 3 (o2.1 + (o2.2 1 5)) x2) 1 5) + 1)) (Nat.le_of_ble_eq_true rfl) (nc_s1_5 _ _) dd_Grammar_takePart_37 (fun H locs hat => ?_)
  refine lv_aload_n C.x C.b dd_Grammar_takePart_40 rfl (lv_at hl 0 rfl) ?_
  refine np_get (v := .int (np_i ((np_st (np_st o2.2 3 (o2.1 + (o2.2 1 5)) x2) 1 5 (((np_st o2.2 3 (o2.1 + (o2.2 1 5)) x2) 1 5) + 1)) 1 5))) C i_Grammar hat.1 1 (nc_o1 _) rfl 5 (by decide) tw_62 rfl rfl dd_Grammar_takePart_41 ?_
  exact hQ _ _ _ _ _ dd_Grammar_takePart_44 hf hat
set_option maxHeartbeats 4000000 in
set_option maxRecDepth 100000 in
theorem c_Grammar_takePart (l : Launch) {gA : Nat → Nat} {D : va_G} {q : Nat → Nat} {cA : Nat → ClassId} (x1 x2 : Int) (σ : np_S) : np_Mi gA l D np_cl (np_ty cA) (nc_wd q cA) yy_Grammar_takePart (.code yy_Grammar_takePart prog_3_method_6_code 4 (some .int) :: np_al) { frames := 1, cells := 0, slots := 0, locals := 20 } [.ref (q 1), .int (np_i x1), .long (np_l x2)] σ (f_Grammar_takePart x1 x2 σ) :=
  np_mki (by decide +kernel) (Nat.le_of_ble_eq_true rfl) (fun o p e R s m args below meth c Q A ls hf C hQ hat hl => w_f_Grammar_takePart C hQ x1 x2 σ _ _ _ hf hat (lv_sub hl [0, 1, 2] rfl))
set_option maxHeartbeats 4000000 in
set_option maxRecDepth 100000 in
theorem w_f_Grammar_makeRule (C : np_Cx gA p R s m args c D np_cl (np_ty cA) A np_al "NotationParse$Grammar" prog_3_method_8_code 3 { frames := 0, cells := 0, slots := 0, locals := 0 }) (hQ : ∀ (pc : Nat) (ls : Array Slot) (H : Heap) (locs : List Loc) (v : Int) {σ : np_S}, decode prog_3_method_8_code pc = .ok (.ireturn, 1) → some (v, σ) = some out → np_At D np_cl A (nc_wd q cA) s σ H locs → W p l e R s m args below meth c H locs 0 0 Q (F0 m pc ls [.int (np_i v)]))   : ∀ (x1 : Int) (σ : np_S) (H : Heap) (locs : List Loc) (ls : Array Slot), f_Grammar_makeRule  x1 σ = some out → np_At D np_cl A (nc_wd q cA) s σ H locs → lv_has ls 3 [(0, .ref (q 1)), (1, .int (np_i x1))] → W p l e R s m args below meth c H locs 0 0 Q (F0 m 0 ls []) := by
  intro x1 σ H locs ls hf hat hl
  unfold f_Grammar_makeRule at hf
  refine lv_aload_n C.x C.b dd_Grammar_makeRule_0 rfl (lv_at hl 0 rfl) ?_
  refine np_get (v := .int (np_i (σ 1 4))) C i_Grammar hat.1 1 (nc_o1 _) rfl 4 (by decide) tw_59 rfl rfl dd_Grammar_makeRule_1 ?_
  refine lv_istore_n (lv' := [(2, .int (np_i (σ 1 4))), (0, .ref (q 1)), (1, .int (np_i x1))]) C.x C.b dd_Grammar_makeRule_4 rfl hl (by decide) rfl (fun ls hl => ?_)
  refine lv_aload_n C.x C.b dd_Grammar_makeRule_5 rfl (lv_at hl 1 rfl) ?_
  refine np_get (v := .ref (q 4)) C i_Grammar hat.1 1 (nc_o1 _) rfl 2 (by decide) tw_55 rfl rfl dd_Grammar_makeRule_6 ?_
  refine lv_iload_n C.x C.b dd_Grammar_makeRule_9 rfl (lv_at hl 0 rfl) ?_
  refine lv_iload_n C.x C.b dd_Grammar_makeRule_10 rfl (lv_at hl 2 rfl) ?_
  refine np_iastore C hat 4 (nc_a4 _) 0 rfl (by decide) (nc_s4 _ _ _) dd_Grammar_makeRule_11 hf (fun H locs hat hf => ?_)
  refine lv_aload_n C.x C.b dd_Grammar_makeRule_12 rfl (lv_at hl 1 rfl) ?_
  refine np_get (v := .ref (q 5)) C i_Grammar hat.1 1 (nc_o1 _) rfl 3 (by decide) tw_58 rfl rfl dd_Grammar_makeRule_13 ?_
  refine lv_iload_n C.x C.b dd_Grammar_makeRule_16 rfl (lv_at hl 0 rfl) ?_
  refine lv_aload_n C.x C.b dd_Grammar_makeRule_17 rfl (lv_at hl 1 rfl) ?_
  refine np_get (v := .int (np_i ((np_st σ 4 (σ 1 4) x1) 1 5))) C i_Grammar hat.1 1 (nc_o1 _) rfl 5 (by decide) tw_62 rfl rfl dd_Grammar_makeRule_18 ?_
  refine np_iastore C hat 5 (nc_a5 _) 0 rfl (by decide) (nc_s5 _ _ _) dd_Grammar_makeRule_21 hf (fun H locs hat hf => ?_)
  refine lv_aload_n C.x C.b dd_Grammar_makeRule_22 rfl (lv_at hl 1 rfl) ?_
  refine lv_dup C.x C.b dd_Grammar_makeRule_23 rfl ?_
  refine np_get (v := .int (np_i ((np_st (np_st σ 4 (σ 1 4) x1) 5 (σ 1 4) ((np_st σ 4 (σ 1 4) x1) 1 5)) 1 4))) C i_Grammar hat.1 1 (nc_o1 _) rfl 4 (by decide) tw_59 rfl rfl dd_Grammar_makeRule_24 ?_
  refine lv_iconst (v := np_i 1) C.x C.b dd_Grammar_makeRule_27 rfl ?_
  refine np_iadd C dd_Grammar_makeRule_28 ?_
  refine np_put C i_Grammar t_Grammar tok_Grammar n_Grammar hat 1 (nc_o1 _) rfl 4 (by decide) tw_59 rfl rfl (by decide +kernel) (np_narI (((np_st (np_st σ 4 (σ 1 4) x1) 5 (σ 1 4) ((np_st σ 4 (σ 1 4) x1) 1 5)) 1 4) + 1)) (np_fitI (((np_st (np_st σ 4 (σ 1 4) x1) 5 (σ 1 4) ((np_st σ 4 (σ 1 4) x1) 1 5)) 1 4) + 1)) (Nat.le_of_ble_eq_true rfl) (nc_s1_4 _ _) dd_Grammar_makeRule_29 (fun H locs hat => ?_)
  refine lv_aload_n C.x C.b dd_Grammar_makeRule_32 rfl (lv_at hl 1 rfl) ?_
  refine lv_iconst (v := np_i 0) C.x C.b dd_Grammar_makeRule_33 rfl ?_
  refine np_put C i_Grammar t_Grammar tok_Grammar n_Grammar hat 1 (nc_o1 _) rfl 5 (by decide) tw_62 rfl rfl (by decide +kernel) (np_narI 0) (np_fitI 0) (Nat.le_of_ble_eq_true rfl) (nc_s1_5 _ _) dd_Grammar_makeRule_34 (fun H locs hat => ?_)
  refine lv_iload_n C.x C.b dd_Grammar_makeRule_37 rfl (lv_at hl 0 rfl) ?_
  exact hQ _ _ _ _ _ dd_Grammar_makeRule_38 hf hat
set_option maxHeartbeats 4000000 in
set_option maxRecDepth 100000 in
theorem c_Grammar_makeRule (l : Launch) {gA : Nat → Nat} {D : va_G} {q : Nat → Nat} {cA : Nat → ClassId} (x1 : Int) (σ : np_S) : np_Mi gA l D np_cl (np_ty cA) (nc_wd q cA) yy_Grammar_makeRule (.code yy_Grammar_makeRule prog_3_method_8_code 3 (some .int) :: np_al) { frames := 0, cells := 0, slots := 0, locals := 0 } [.ref (q 1), .int (np_i x1)] σ (f_Grammar_makeRule x1 σ) :=
  np_mki (by decide +kernel) (Nat.le_of_ble_eq_true rfl) (fun o p e R s m args below meth c Q A ls hf C hQ hat hl => w_f_Grammar_makeRule C hQ x1 σ _ _ _ hf hat (lv_sub hl [0, 1] rfl))
set_option maxHeartbeats 4000000 in
set_option maxRecDepth 100000 in
theorem w_f_Grammar_hasKey_3 (C : np_Cx gA p R s m args c D np_cl (np_ty cA) A np_al "NotationParse$Grammar" prog_3_method_9_code 4 { frames := 1, cells := 0, slots := 0, locals := 20 }) (hQ : ∀ (pc : Nat) (ls : Array Slot) (H : Heap) (locs : List Loc) (v : Int) {σ : np_S}, decode prog_3_method_9_code pc = .ok (.ireturn, 1) → np_ck (v = 0 ∨ v = 1) (some (v, σ)) = some out → np_At D np_cl A (nc_wd q cA) s σ H locs → W p l e R s m args below meth c H locs 0 0 Q (F0 m pc ls [.int (np_i v)]))   : ∀ (n : Nat), ∀ (x1 x3 : Int) (σ : np_S) (H : Heap) (locs : List Loc) (ls : Array Slot), f_Grammar_hasKey_3  n x1 x3 σ = some out → np_At D np_cl A (nc_wd q cA) s σ H locs → lv_has ls 4 [(0, .ref (q 1)), (1, .long (np_l x1)), (3, .int (np_i x3))] → W p l e R s m args below meth c H locs 0 0 Q (F0 m 3 ls []) := by
  intro n
  induction n with
  | zero => intro x1 x3 σ H locs ls hf; cases hf
  | succ n ih =>
    intro x1 x3 σ H locs ls hf hat hl
    have h3 := ih
    have hf : f_Grammar_hasKey_3_b  (fun x1 x3 σ => f_Grammar_hasKey_3  n x1 x3 σ) x1 x3 σ = some out := hf
    unfold f_Grammar_hasKey_3_b at hf
    refine lv_iload_n C.x C.b dd_Grammar_hasKey_3 rfl (lv_at hl 2 rfl) ?_
    refine lv_aload_n C.x C.b dd_Grammar_hasKey_4 rfl (lv_at hl 0 rfl) ?_
    refine np_callVi (As := []) (rest := [.int (np_i x3)]) C (c_Grammar_usedDots l _) np_allgood tw_355 tw_356 tw_357 tw_2 tw_358 (nA := 0) (by decide +kernel) rfl ⟨rfl, rfl, Nat.le_of_ble_eq_true rfl, Nat.le_of_ble_eq_true rfl⟩ (nc_o1 _) rfl hat rfl hl.1 (Nat.le_of_ble_eq_true rfl) dd_Grammar_hasKey_5 hf (fun o1 H locs hf hat => ?_)
    refine np_icmp_ge (tgt := 30) C dd_Grammar_hasKey_8 (by decide) hf (fun _ hf => ?_) (fun _ hf => ?_)
    · refine lv_iconst (v := np_i 0) C.x C.b dd_Grammar_hasKey_30 rfl ?_
      exact hQ _ _ _ _ _ dd_Grammar_hasKey_31 hf hat
    · refine lv_aload_n C.x C.b dd_Grammar_hasKey_11 rfl (lv_at hl 0 rfl) ?_
      refine np_get (v := .ref (q 3)) C i_Grammar hat.1 1 (nc_o1 _) rfl 1 (by decide) tw_53 rfl rfl dd_Grammar_hasKey_12 ?_
      refine lv_iload_n C.x C.b dd_Grammar_hasKey_15 rfl (lv_at hl 2 rfl) ?_
      refine np_laload C hat.1 3 (nc_a3 _) 1 rfl (by decide) dd_Grammar_hasKey_16 hf (fun hf => ?_)
      refine lv_lload_n C.x C.b dd_Grammar_hasKey_17 rfl (lv_at hl 1 rfl) ?_
      refine np_lcmp C dd_Grammar_hasKey_18 hf (fun hf => ?_)
      refine np_if_ne (tgt := 24) C dd_Grammar_hasKey_19 (by decide) hf (fun _ hf => ?_) (fun _ hf => ?_)
      · refine lv_iinc (v := np_i (x3 + 1)) (lv' := [(3, .int (np_i (x3 + 1))), (0, .ref (q 1)), (1, .long (np_l x1))]) C.x C.b dd_Grammar_hasKey_24 hl (k := 2) rfl (np_inc _ _) (by decide) rfl (fun ls hl => ?_)
        refine lv_goto (tgt := 3) C.x C.b dd_Grammar_hasKey_27 (by decide) ?_
        exact h3 _ _ _ _ _ _ hf hat (lv_sub hl [1, 2, 0] rfl)
      · refine lv_iconst (v := np_i 1) C.x C.b dd_Grammar_hasKey_22 rfl ?_
        exact hQ _ _ _ _ _ dd_Grammar_hasKey_23 hf hat
set_option maxHeartbeats 4000000 in
set_option maxRecDepth 100000 in
theorem w_f_Grammar_hasKey (C : np_Cx gA p R s m args c D np_cl (np_ty cA) A np_al "NotationParse$Grammar" prog_3_method_9_code 4 { frames := 1, cells := 0, slots := 0, locals := 20 }) (hQ : ∀ (pc : Nat) (ls : Array Slot) (H : Heap) (locs : List Loc) (v : Int) {σ : np_S}, decode prog_3_method_9_code pc = .ok (.ireturn, 1) → np_ck (v = 0 ∨ v = 1) (some (v, σ)) = some out → np_At D np_cl A (nc_wd q cA) s σ H locs → W p l e R s m args below meth c H locs 0 0 Q (F0 m pc ls [.int (np_i v)]))   : ∀ (x1 : Int) (σ : np_S) (H : Heap) (locs : List Loc) (ls : Array Slot), f_Grammar_hasKey  x1 σ = some out → np_At D np_cl A (nc_wd q cA) s σ H locs → lv_has ls 4 [(0, .ref (q 1)), (1, .long (np_l x1))] → W p l e R s m args below meth c H locs 0 0 Q (F0 m 0 ls []) := by
  intro x1 σ H locs ls hf hat hl
  unfold f_Grammar_hasKey at hf
  refine lv_bipush (v := np_i 14) C.x C.b dd_Grammar_hasKey_0 (by decide +kernel) ?_
  refine lv_istore_n (lv' := [(3, .int (np_i 14)), (0, .ref (q 1)), (1, .long (np_l x1))]) C.x C.b dd_Grammar_hasKey_2 rfl hl (by decide) rfl (fun ls hl => ?_)
  exact w_f_Grammar_hasKey_3 C hQ  6000 _ _ _ _ _ _ hf hat (lv_sub hl [1, 2, 0] rfl)
set_option maxHeartbeats 4000000 in
set_option maxRecDepth 100000 in
theorem c_Grammar_hasKey (l : Launch) {gA : Nat → Nat} {D : va_G} {q : Nat → Nat} {cA : Nat → ClassId} (x1 : Int) (σ : np_S) : np_Mi gA l D np_cl (np_ty cA) (nc_wd q cA) yy_Grammar_hasKey (.code yy_Grammar_hasKey prog_3_method_9_code 4 (some .boolean) :: np_al) { frames := 1, cells := 0, slots := 0, locals := 20 } [.ref (q 1), .long (np_l x1)] σ (f_Grammar_hasKey x1 σ) :=
  np_mkz (by decide +kernel) (Nat.le_of_ble_eq_true rfl) (fun o p e R s m args below meth c Q A ls hf C hQ hat hl => w_f_Grammar_hasKey C hQ x1 σ _ _ _ hf hat (lv_sub hl [0, 1] rfl))
set_option maxHeartbeats 4000000 in
set_option maxRecDepth 100000 in
theorem w_f_Text_takeRow_33 (C : np_Cx gA p R s m args c D np_cl (np_ty cA) A np_al "NotationParse$Text" prog_6_method_6_code 9 { frames := 2, cells := 0, slots := 0, locals := 43 }) (hQ : ∀ (pc : Nat) (ls : Array Slot) (H : Heap) (locs : List Loc) {σ : np_S}, decode prog_6_method_6_code pc = .ok (.return_, 1) → some ((0 : Int), σ) = some out → np_At D np_cl A (nc_wd q cA) s σ H locs → W p l e R s m args below meth c H locs 0 0 Q (F0 m pc ls []))   : ∀ (x1 : Int) (σ : np_S) (H : Heap) (locs : List Loc) (ls : Array Slot), f_Text_takeRow_33  x1 σ = some out → np_At D np_cl A (nc_wd q cA) s σ H locs → lv_has ls 9 [(0, .ref (q 6)), (1, .int (np_i x1))] → W p l e R s m args below meth c H locs 0 0 Q (F0 m 33 ls []) := by
  intro x1 σ H locs ls hf hat hl
  unfold f_Text_takeRow_33 at hf
  refine lv_aload_n C.x C.b dd_Text_takeRow_33 rfl (lv_at hl 0 rfl) ?_
  refine lv_iload_n C.x C.b dd_Text_takeRow_34 rfl (lv_at hl 1 rfl) ?_
  refine np_put C i_Text t_Text tok_Text n_Text hat 6 (nc_o6 _) rfl 6 (by decide) tw_97 rfl rfl (by decide +kernel) (np_narI x1) (np_fitI x1) (Nat.le_of_ble_eq_true rfl) (nc_s6_6 _ _) dd_Text_takeRow_35 (fun H locs hat => ?_)
  exact hQ _ _ _ _ dd_Text_takeRow_38 hf hat
set_option maxHeartbeats 4000000 in
set_option maxRecDepth 100000 in
theorem w_f_Text_takeRow_134 (C : np_Cx gA p R s m args c D np_cl (np_ty cA) A np_al "NotationParse$Text" prog_6_method_6_code 9 { frames := 2, cells := 0, slots := 0, locals := 43 }) (hQ : ∀ (pc : Nat) (ls : Array Slot) (H : Heap) (locs : List Loc) {σ : np_S}, decode prog_6_method_6_code pc = .ok (.return_, 1) → some ((0 : Int), σ) = some out → np_At D np_cl A (nc_wd q cA) s σ H locs → W p l e R s m args below meth c H locs 0 0 Q (F0 m pc ls []))   : ∀ (x1 t1 t2 : Int) (σ : np_S) (H : Heap) (locs : List Loc) (ls : Array Slot), f_Text_takeRow_134  x1 t1 t2 σ = some out → np_At D np_cl A (nc_wd q cA) s σ H locs → lv_has ls 9 [(0, .ref (q 6)), (1, .int (np_i x1))] → W p l e R s m args below meth c H locs 0 0 Q (F0 m 134 ls [.long (np_l t2), .int (np_i t1), .ref (q 9)]) := by
  intro x1 t1 t2 σ H locs ls hf hat hl
  unfold f_Text_takeRow_134 at hf
  refine np_lastore C hat 9 (nc_a9 _) 1 rfl (by decide) (nc_s9 _ _ _) dd_Text_takeRow_134 hf (fun H locs hat hf => ?_)
  refine lv_aload_n C.x C.b dd_Text_takeRow_135 rfl (lv_at hl 0 rfl) ?_
  refine np_get (v := .ref (q 10)) C i_Text hat.1 6 (nc_o6 _) rfl 4 (by decide) tw_92 rfl rfl dd_Text_takeRow_136 ?_
  refine lv_aload_n C.x C.b dd_Text_takeRow_139 rfl (lv_at hl 0 rfl) ?_
  refine np_get (v := .int (np_i ((np_st σ 9 t1 t2) 6 5))) C i_Text hat.1 6 (nc_o6 _) rfl 5 (by decide) tw_94 rfl rfl dd_Text_takeRow_140 ?_
  refine lv_iload_n C.x C.b dd_Text_takeRow_143 rfl (lv_at hl 1 rfl) ?_
  refine np_iastore C hat 10 (nc_a10 _) 0 rfl (by decide) (nc_s10 _ _ _) dd_Text_takeRow_144 hf (fun H locs hat hf => ?_)
  refine lv_aload_n C.x C.b dd_Text_takeRow_145 rfl (lv_at hl 0 rfl) ?_
  refine lv_dup C.x C.b dd_Text_takeRow_146 rfl ?_
  refine np_get (v := .int (np_i ((np_st (np_st σ 9 t1 t2) 10 ((np_st σ 9 t1 t2) 6 5) x1) 6 5))) C i_Text hat.1 6 (nc_o6 _) rfl 5 (by decide) tw_94 rfl rfl dd_Text_takeRow_147 ?_
  refine lv_iconst (v := np_i 1) C.x C.b dd_Text_takeRow_150 rfl ?_
  refine np_iadd C dd_Text_takeRow_151 ?_
  refine np_put C i_Text t_Text tok_Text n_Text hat 6 (nc_o6 _) rfl 5 (by decide) tw_94 rfl rfl (by decide +kernel) (np_narI (((np_st (np_st σ 9 t1 t2) 10 ((np_st σ 9 t1 t2) 6 5) x1) 6 5) + 1)) (np_fitI (((np_st (np_st σ 9 t1 t2) 10 ((np_st σ 9 t1 t2) 6 5) x1) 6 5) + 1)) (Nat.le_of_ble_eq_true rfl) (nc_s6_5 _ _) dd_Text_takeRow_152 (fun H locs hat => ?_)
  exact hQ _ _ _ _ dd_Text_takeRow_155 hf hat
set_option maxHeartbeats 4000000 in
set_option maxRecDepth 100000 in
theorem w_f_Text_takeRow_132 (C : np_Cx gA p R s m args c D np_cl (np_ty cA) A np_al "NotationParse$Text" prog_6_method_6_code 9 { frames := 2, cells := 0, slots := 0, locals := 43 }) (hQ : ∀ (pc : Nat) (ls : Array Slot) (H : Heap) (locs : List Loc) {σ : np_S}, decode prog_6_method_6_code pc = .ok (.return_, 1) → some ((0 : Int), σ) = some out → np_At D np_cl A (nc_wd q cA) s σ H locs → W p l e R s m args below meth c H locs 0 0 Q (F0 m pc ls []))   : ∀ (x1 x6 t1 : Int) (σ : np_S) (H : Heap) (locs : List Loc) (ls : Array Slot), f_Text_takeRow_132  x1 x6 t1 σ = some out → np_At D np_cl A (nc_wd q cA) s σ H locs → lv_has ls 9 [(0, .ref (q 6)), (1, .int (np_i x1)), (6, .long (np_l x6))] → W p l e R s m args below meth c H locs 0 0 Q (F0 m 132 ls [.int (np_i t1), .ref (q 9)]) := by
  intro x1 x6 t1 σ H locs ls hf hat hl
  unfold f_Text_takeRow_132 at hf
  refine lv_lload C.x C.b dd_Text_takeRow_132 (lv_at hl 2 rfl) ?_
  exact w_f_Text_takeRow_134 C hQ  _ _ _ _ _ _ _ hf hat (lv_sub hl [0, 1] rfl)
set_option maxHeartbeats 4000000 in
set_option maxRecDepth 100000 in
theorem w_f_Text_takeRow_92 (C : np_Cx gA p R s m args c D np_cl (np_ty cA) A np_al "NotationParse$Text" prog_6_method_6_code 9 { frames := 2, cells := 0, slots := 0, locals := 43 }) (hQ : ∀ (pc : Nat) (ls : Array Slot) (H : Heap) (locs : List Loc) {σ : np_S}, decode prog_6_method_6_code pc = .ok (.return_, 1) → some ((0 : Int), σ) = some out → np_At D np_cl A (nc_wd q cA) s σ H locs → W p l e R s m args below meth c H locs 0 0 Q (F0 m pc ls []))   : ∀ (x1 x6 t0 : Int) (σ : np_S) (H : Heap) (locs : List Loc) (ls : Array Slot), f_Text_takeRow_92  x1 x6 t0 σ = some out → np_At D np_cl A (nc_wd q cA) s σ H locs → lv_has ls 9 [(0, .ref (q 6)), (1, .int (np_i x1)), (4, .ref (q 1)), (6, .long (np_l x6))] → W p l e R s m args below meth c H locs 0 0 Q (F0 m 92 ls [.int (np_i t0)]) := by
  intro x1 x6 t0 σ H locs ls hf hat hl
  unfold f_Text_takeRow_92 at hf
  refine lv_istore (lv' := [(8, .int (np_i t0)), (0, .ref (q 6)), (1, .int (np_i x1)), (4, .ref (q 1)), (6, .long (np_l x6))]) C.x C.b dd_Text_takeRow_92 hl (by decide) rfl (fun ls hl => ?_)
  refine lv_aload_n C.x C.b dd_Text_takeRow_94 rfl (lv_at hl 1 rfl) ?_
  refine np_get (v := .ref (q 8)) C i_Text hat.1 6 (nc_o6 _) rfl 2 (by decide) tw_88 rfl rfl dd_Text_takeRow_95 ?_
  refine lv_aload_n C.x C.b dd_Text_takeRow_98 rfl (lv_at hl 1 rfl) ?_
  refine np_get (v := .int (np_i (σ 6 5))) C i_Text hat.1 6 (nc_o6 _) rfl 5 (by decide) tw_94 rfl rfl dd_Text_takeRow_99 ?_
  refine lv_lload C.x C.b dd_Text_takeRow_102 (lv_at hl 4 rfl) ?_
  refine np_lastore C hat 8 (nc_a8 _) 1 rfl (by decide) (nc_s8 _ _ _) dd_Text_takeRow_104 hf (fun H locs hat hf => ?_)
  refine lv_aload_n C.x C.b dd_Text_takeRow_105 rfl (lv_at hl 1 rfl) ?_
  refine np_get (v := .ref (q 9)) C i_Text hat.1 6 (nc_o6 _) rfl 3 (by decide) tw_90 rfl rfl dd_Text_takeRow_106 ?_
  refine lv_aload_n C.x C.b dd_Text_takeRow_109 rfl (lv_at hl 1 rfl) ?_
  refine np_get (v := .int (np_i ((np_st σ 8 (σ 6 5) x6) 6 5))) C i_Text hat.1 6 (nc_o6 _) rfl 5 (by decide) tw_94 rfl rfl dd_Text_takeRow_110 ?_
  refine lv_iload C.x C.b dd_Text_takeRow_113 (lv_at hl 0 rfl) ?_
  refine np_if_eq (tgt := 132) C dd_Text_takeRow_115 (by decide) hf (fun _ hf => ?_) (fun _ hf => ?_)
  · exact w_f_Text_takeRow_132 C hQ  _ _ _ _ _ _ _ hf hat (lv_sub hl [1, 2, 4] rfl)
  · refine lv_aload C.x C.b dd_Text_takeRow_118 (lv_at hl 3 rfl) ?_
    refine lv_lload C.x C.b dd_Text_takeRow_120 (lv_at hl 4 rfl) ?_
    refine np_callVi (As := [.long (np_l x6)]) (rest := [.int (np_i ((np_st σ 8 (σ 6 5) x6) 6 5)), .ref (q 9)]) C (c_Grammar_hasKey l x6 _) np_allgood tw_740 tw_352 tw_353 tw_2 tw_354 (nA := 1) (by decide +kernel) rfl ⟨rfl, rfl, Nat.le_of_ble_eq_true rfl, Nat.le_of_ble_eq_true rfl⟩ (nc_o1 _) rfl hat rfl hl.1 (Nat.le_of_ble_eq_true rfl) dd_Text_takeRow_122 hf (fun o1 H locs hf hat => ?_)
    refine np_if_ne (tgt := 132) C dd_Text_takeRow_125 (by decide) hf (fun _ hf => ?_) (fun _ hf => ?_)
    · exact w_f_Text_takeRow_132 C hQ  _ _ _ _ _ _ _ hf hat (lv_sub hl [1, 2, 4] rfl)
    · refine lv_lconst (v := np_l 0) C.x C.b dd_Text_takeRow_128 (by decide +kernel) ?_
      refine lv_goto (tgt := 134) C.x C.b dd_Text_takeRow_129 (by decide) ?_
      exact w_f_Text_takeRow_134 C hQ  _ _ _ _ _ _ _ hf hat (lv_sub hl [1, 2] rfl)
set_option maxHeartbeats 4000000 in
set_option maxRecDepth 100000 in
theorem w_f_Text_takeRow_87 (C : np_Cx gA p R s m args c D np_cl (np_ty cA) A np_al "NotationParse$Text" prog_6_method_6_code 9 { frames := 2, cells := 0, slots := 0, locals := 43 }) (hQ : ∀ (pc : Nat) (ls : Array Slot) (H : Heap) (locs : List Loc) {σ : np_S}, decode prog_6_method_6_code pc = .ok (.return_, 1) → some ((0 : Int), σ) = some out → np_At D np_cl A (nc_wd q cA) s σ H locs → W p l e R s m args below meth c H locs 0 0 Q (F0 m pc ls []))   : ∀ (x1 x6 : Int) (σ : np_S) (H : Heap) (locs : List Loc) (ls : Array Slot), f_Text_takeRow_87  x1 x6 σ = some out → np_At D np_cl A (nc_wd q cA) s σ H locs → lv_has ls 9 [(0, .ref (q 6)), (1, .int (np_i x1)), (4, .ref (q 1)), (6, .long (np_l x6))] → W p l e R s m args below meth c H locs 0 0 Q (F0 m 87 ls []) := by
  intro x1 x6 σ H locs ls hf hat hl
  unfold f_Text_takeRow_87 at hf
  refine lv_iconst (v := np_i 1) C.x C.b dd_Text_takeRow_87 rfl ?_
  refine lv_goto (tgt := 92) C.x C.b dd_Text_takeRow_88 (by decide) ?_
  exact w_f_Text_takeRow_92 C hQ  _ _ _ _ _ _ _ hf hat (lv_sub hl [0, 1, 2, 3] rfl)
set_option maxHeartbeats 4000000 in
set_option maxRecDepth 100000 in
theorem w_f_Text_takeRow_45 (C : np_Cx gA p R s m args c D np_cl (np_ty cA) A np_al "NotationParse$Text" prog_6_method_6_code 9 { frames := 2, cells := 0, slots := 0, locals := 43 }) (hQ : ∀ (pc : Nat) (ls : Array Slot) (H : Heap) (locs : List Loc) {σ : np_S}, decode prog_6_method_6_code pc = .ok (.return_, 1) → some ((0 : Int), σ) = some out → np_At D np_cl A (nc_wd q cA) s σ H locs → W p l e R s m args below meth c H locs 0 0 Q (F0 m pc ls []))   : ∀ (n : Nat), ∀ (x1 x2 x3 x6 x8 : Int) (σ : np_S) (H : Heap) (locs : List Loc) (ls : Array Slot), f_Text_takeRow_45  n x1 x2 x3 x6 x8 σ = some out → np_At D np_cl A (nc_wd q cA) s σ H locs → lv_has ls 9 [(0, .ref (q 6)), (1, .int (np_i x1)), (2, .int (np_i x2)), (3, .int (np_i x3)), (4, .ref (q 1)), (6, .long (np_l x6)), (8, .int (np_i x8))] → W p l e R s m args below meth c H locs 0 0 Q (F0 m 45 ls []) := by
  intro n
  induction n with
  | zero => intro x1 x2 x3 x6 x8 σ H locs ls hf; cases hf
  | succ n ih =>
    intro x1 x2 x3 x6 x8 σ H locs ls hf hat hl
    have h45 := ih
    have hf : f_Text_takeRow_45_b  (fun x1 x2 x3 x6 x8 σ => f_Text_takeRow_45  n x1 x2 x3 x6 x8 σ) x1 x2 x3 x6 x8 σ = some out := hf
    unfold f_Text_takeRow_45_b at hf
    refine lv_iload C.x C.b dd_Text_takeRow_45 (lv_at hl 6 rfl) ?_
    refine lv_iload_n C.x C.b dd_Text_takeRow_47 rfl (lv_at hl 2 rfl) ?_
    refine np_icmp_ge (tgt := 77) C dd_Text_takeRow_48 (by decide) hf (fun _ hf => ?_) (fun _ hf => ?_)
    · refine lv_iload_n C.x C.b dd_Text_takeRow_77 rfl (lv_at hl 3 rfl) ?_
      refine lv_iconst (v := np_i 2) C.x C.b dd_Text_takeRow_78 rfl ?_
      refine np_icmp_eq (tgt := 87) C dd_Text_takeRow_79 (by decide) hf (fun _ hf => ?_) (fun _ hf => ?_)
      · exact w_f_Text_takeRow_87 C hQ  _ _ _ _ _ _ hf hat (lv_sub hl [0, 1, 4, 5] rfl)
      · refine lv_iload_n C.x C.b dd_Text_takeRow_82 rfl (lv_at hl 3 rfl) ?_
        refine lv_iconst (v := np_i 3) C.x C.b dd_Text_takeRow_83 rfl ?_
        refine np_icmp_ne (tgt := 91) C dd_Text_takeRow_84 (by decide) hf (fun _ hf => ?_) (fun _ hf => ?_)
        · refine lv_iconst (v := np_i 0) C.x C.b dd_Text_takeRow_91 rfl ?_
          exact w_f_Text_takeRow_92 C hQ  _ _ _ _ _ _ _ hf hat (lv_sub hl [0, 1, 4, 5] rfl)
        · exact w_f_Text_takeRow_87 C hQ  _ _ _ _ _ _ hf hat (lv_sub hl [0, 1, 4, 5] rfl)
    · refine lv_lload C.x C.b dd_Text_takeRow_51 (lv_at hl 5 rfl) ?_
      refine lv_bipush (v := np_i 8) C.x C.b dd_Text_takeRow_53 (by decide +kernel) ?_
      refine np_lshl C dd_Text_takeRow_55 ?_
      refine lv_aload_n C.x C.b dd_Text_takeRow_56 rfl (lv_at hl 0 rfl) ?_
      refine np_get (v := .ref (q 7)) C i_Text hat.1 6 (nc_o6 _) rfl 0 (by decide) tw_85 rfl rfl dd_Text_takeRow_57 ?_
      refine lv_iload C.x C.b dd_Text_takeRow_60 (lv_at hl 6 rfl) ?_
      refine np_baload C hat.1 7 (nc_a7 _) 2 rfl (by decide) dd_Text_takeRow_62 hf (fun hf => ?_)
      refine lv_sipush (v := np_i 255) C.x C.b dd_Text_takeRow_63 (by decide +kernel) ?_
      refine np_iand C dd_Text_takeRow_66 ?_
      refine np_i2l C dd_Text_takeRow_67 hf (fun hf => ?_)
      refine np_lor C dd_Text_takeRow_68 ?_
      refine lv_lstore (lv' := [(6, .long (np_l (np_orl (np_shll x6 8) (np_andi (σ 7 x8) 255)))), (0, .ref (q 6)), (1, .int (np_i x1)), (2, .int (np_i x2)), (3, .int (np_i x3)), (4, .ref (q 1)), (8, .int (np_i x8))]) C.x C.b dd_Text_takeRow_69 hl (by decide) rfl (fun ls hl => ?_)
      refine lv_iinc (v := np_i (x8 + 1)) (lv' := [(8, .int (np_i (x8 + 1))), (6, .long (np_l (np_orl (np_shll x6 8) (np_andi (σ 7 x8) 255)))), (0, .ref (q 6)), (1, .int (np_i x1)), (2, .int (np_i x2)), (3, .int (np_i x3)), (4, .ref (q 1))]) C.x C.b dd_Text_takeRow_71 hl (k := 6) rfl (np_inc _ _) (by decide) rfl (fun ls hl => ?_)
      refine lv_goto (tgt := 45) C.x C.b dd_Text_takeRow_74 (by decide) ?_
      exact h45 _ _ _ _ _ _ _ _ _ hf hat (lv_sub hl [2, 3, 4, 5, 6, 1, 0] rfl)
set_option maxHeartbeats 4000000 in
set_option maxRecDepth 100000 in
theorem w_f_Text_takeRow_13 (C : np_Cx gA p R s m args c D np_cl (np_ty cA) A np_al "NotationParse$Text" prog_6_method_6_code 9 { frames := 2, cells := 0, slots := 0, locals := 43 }) (hQ : ∀ (pc : Nat) (ls : Array Slot) (H : Heap) (locs : List Loc) {σ : np_S}, decode prog_6_method_6_code pc = .ok (.return_, 1) → some ((0 : Int), σ) = some out → np_At D np_cl A (nc_wd q cA) s σ H locs → W p l e R s m args below meth c H locs 0 0 Q (F0 m pc ls []))   : ∀ (x1 x2 x3 t0 : Int) (σ : np_S) (H : Heap) (locs : List Loc) (ls : Array Slot), f_Text_takeRow_13  x1 x2 x3 t0 σ = some out → np_At D np_cl A (nc_wd q cA) s σ H locs → lv_has ls 9 [(0, .ref (q 6)), (1, .int (np_i x1)), (2, .int (np_i x2)), (3, .int (np_i x3)), (4, .ref (q 1))] → W p l e R s m args below meth c H locs 0 0 Q (F0 m 13 ls [.int (np_i t0)]) := by
  intro x1 x2 x3 t0 σ H locs ls hf hat hl
  unfold f_Text_takeRow_13 at hf
  refine lv_istore (lv' := [(5, .int (np_i t0)), (0, .ref (q 6)), (1, .int (np_i x1)), (2, .int (np_i x2)), (3, .int (np_i x3)), (4, .ref (q 1))]) C.x C.b dd_Text_takeRow_13 hl (by decide) rfl (fun ls hl => ?_)
  refine lv_iload_n C.x C.b dd_Text_takeRow_15 rfl (lv_at hl 4 rfl) ?_
  refine np_if_eq (tgt := 33) C dd_Text_takeRow_16 (by decide) hf (fun _ hf => ?_) (fun _ hf => ?_)
  · exact w_f_Text_takeRow_33 C hQ  _ _ _ _ _ hf hat (lv_sub hl [1, 2] rfl)
  · refine lv_iload C.x C.b dd_Text_takeRow_19 (lv_at hl 0 rfl) ?_
    refine np_if_ne (tgt := 33) C dd_Text_takeRow_21 (by decide) hf (fun _ hf => ?_) (fun _ hf => ?_)
    · exact w_f_Text_takeRow_33 C hQ  _ _ _ _ _ hf hat (lv_sub hl [1, 2] rfl)
    · refine lv_aload_n C.x C.b dd_Text_takeRow_24 rfl (lv_at hl 1 rfl) ?_
      refine np_get (v := .int (np_i (σ 6 5))) C i_Text hat.1 6 (nc_o6 _) rfl 5 (by decide) tw_94 rfl rfl dd_Text_takeRow_25 ?_
      refine lv_bipush (v := np_i 30) C.x C.b dd_Text_takeRow_28 (by decide +kernel) ?_
      refine np_icmp_lt (tgt := 39) C dd_Text_takeRow_30 (by decide) hf (fun _ hf => ?_) (fun _ hf => ?_)
      · refine lv_lconst (v := np_l 0) C.x C.b dd_Text_takeRow_39 (by decide +kernel) ?_
        refine lv_lstore (lv' := [(6, .long (np_l 0)), (5, .int (np_i t0)), (0, .ref (q 6)), (1, .int (np_i x1)), (2, .int (np_i x2)), (3, .int (np_i x3)), (4, .ref (q 1))]) C.x C.b dd_Text_takeRow_40 hl (by decide) rfl (fun ls hl => ?_)
        refine lv_iload_n C.x C.b dd_Text_takeRow_42 rfl (lv_at hl 3 rfl) ?_
        refine lv_istore (lv' := [(8, .int (np_i x1)), (6, .long (np_l 0)), (5, .int (np_i t0)), (0, .ref (q 6)), (1, .int (np_i x1)), (2, .int (np_i x2)), (3, .int (np_i x3)), (4, .ref (q 1))]) C.x C.b dd_Text_takeRow_43 hl (by decide) rfl (fun ls hl => ?_)
        exact w_f_Text_takeRow_45 C hQ  6000 _ _ _ _ _ _ _ _ _ hf hat (lv_sub hl [3, 4, 5, 6, 7, 1, 0] rfl)
      · exact w_f_Text_takeRow_33 C hQ  _ _ _ _ _ hf hat (lv_sub hl [1, 2] rfl)
set_option maxHeartbeats 4000000 in
set_option maxRecDepth 100000 in
theorem w_f_Text_takeRow (C : np_Cx gA p R s m args c D np_cl (np_ty cA) A np_al "NotationParse$Text" prog_6_method_6_code 9 { frames := 2, cells := 0, slots := 0, locals := 43 }) (hQ : ∀ (pc : Nat) (ls : Array Slot) (H : Heap) (locs : List Loc) {σ : np_S}, decode prog_6_method_6_code pc = .ok (.return_, 1) → some ((0 : Int), σ) = some out → np_At D np_cl A (nc_wd q cA) s σ H locs → W p l e R s m args below meth c H locs 0 0 Q (F0 m pc ls []))   : ∀ (x1 x2 x3 : Int) (σ : np_S) (H : Heap) (locs : List Loc) (ls : Array Slot), f_Text_takeRow  x1 x2 x3 σ = some out → np_At D np_cl A (nc_wd q cA) s σ H locs → lv_has ls 9 [(0, .ref (q 6)), (1, .int (np_i x1)), (2, .int (np_i x2)), (3, .int (np_i x3)), (4, .ref (q 1))] → W p l e R s m args below meth c H locs 0 0 Q (F0 m 0 ls []) := by
  intro x1 x2 x3 σ H locs ls hf hat hl
  unfold f_Text_takeRow at hf
  refine lv_iload_n C.x C.b dd_Text_takeRow_0 rfl (lv_at hl 2 rfl) ?_
  refine lv_iload_n C.x C.b dd_Text_takeRow_1 rfl (lv_at hl 1 rfl) ?_
  refine np_isub C dd_Text_takeRow_2 ?_
  refine lv_bipush (v := np_i 8) C.x C.b dd_Text_takeRow_3 (by decide +kernel) ?_
  refine np_icmp_le (tgt := 12) C dd_Text_takeRow_5 (by decide) hf (fun _ hf => ?_) (fun _ hf => ?_)
  · refine lv_iconst (v := np_i 0) C.x C.b dd_Text_takeRow_12 rfl ?_
    exact w_f_Text_takeRow_13 C hQ  _ _ _ _ _ _ _ _ hf hat (lv_sub hl [0, 1, 2, 3, 4] rfl)
  · refine lv_iconst (v := np_i 1) C.x C.b dd_Text_takeRow_8 rfl ?_
    refine lv_goto (tgt := 13) C.x C.b dd_Text_takeRow_9 (by decide) ?_
    exact w_f_Text_takeRow_13 C hQ  _ _ _ _ _ _ _ _ hf hat (lv_sub hl [0, 1, 2, 3, 4] rfl)
set_option maxHeartbeats 4000000 in
set_option maxRecDepth 100000 in
theorem c_Text_takeRow (l : Launch) {gA : Nat → Nat} {D : va_G} {q : Nat → Nat} {cA : Nat → ClassId} (x1 x2 x3 : Int) (σ : np_S) : np_Mv gA l D np_cl (np_ty cA) (nc_wd q cA) yy_Text_takeRow (.code yy_Text_takeRow prog_6_method_6_code 9 none :: np_al) { frames := 2, cells := 0, slots := 0, locals := 43 } [.ref (q 6), .int (np_i x1), .int (np_i x2), .int (np_i x3), .ref (q 1)] σ (f_Text_takeRow x1 x2 x3 σ) :=
  np_mkv (by decide +kernel) (Nat.le_of_ble_eq_true rfl) (fun o p e R s m args below meth c Q A ls hf C hQ hat hl => w_f_Text_takeRow C hQ x1 x2 x3 σ _ _ _ hf hat (lv_sub hl [0, 1, 2, 3, 4] rfl))
set_option maxHeartbeats 4000000 in
set_option maxRecDepth 100000 in
theorem w_f_Chart_cell (C : np_Cx gA p R s m args c D np_cl (np_ty cA) A np_al "NotationParse$Chart" prog_2_method_20_code 4 { frames := 0, cells := 0, slots := 0, locals := 0 }) (hQ : ∀ (pc : Nat) (ls : Array Slot) (H : Heap) (locs : List Loc) (v : Int) {σ : np_S}, decode prog_2_method_20_code pc = .ok (.ireturn, 1) → some (v, σ) = some out → np_At D np_cl A (nc_wd q cA) s σ H locs → W p l e R s m args below meth c H locs 0 0 Q (F0 m pc ls [.int (np_i v)]))   : ∀ (x1 x2 x3 : Int) (σ : np_S) (H : Heap) (locs : List Loc) (ls : Array Slot), f_Chart_cell  x1 x2 x3 σ = some out → np_At D np_cl A (nc_wd q cA) s σ H locs → lv_has ls 4 [(1, .int (np_i x1)), (2, .int (np_i x2)), (3, .int (np_i x3))] → W p l e R s m args below meth c H locs 0 0 Q (F0 m 0 ls []) := by
  intro x1 x2 x3 σ H locs ls hf hat hl
  unfold f_Chart_cell at hf
  refine lv_iload_n C.x C.b dd_Chart_cell_0 rfl (lv_at hl 1 rfl) ?_
  refine lv_iload_n C.x C.b dd_Chart_cell_1 rfl (lv_at hl 1 rfl) ?_
  refine lv_iconst (v := np_i 1) C.x C.b dd_Chart_cell_2 rfl ?_
  refine np_isub C dd_Chart_cell_3 ?_
  refine np_imul C dd_Chart_cell_4 ?_
  refine lv_iconst (v := np_i 2) C.x C.b dd_Chart_cell_5 rfl ?_
  refine np_idiv C dd_Chart_cell_6 hf (fun hf => ?_)
  refine lv_iload_n C.x C.b dd_Chart_cell_7 rfl (lv_at hl 0 rfl) ?_
  refine np_iadd C dd_Chart_cell_8 ?_
  refine lv_bipush (v := np_i 11) C.x C.b dd_Chart_cell_9 (by decide +kernel) ?_
  refine np_imul C dd_Chart_cell_11 ?_
  refine lv_iload_n C.x C.b dd_Chart_cell_12 rfl (lv_at hl 2 rfl) ?_
  refine np_iadd C dd_Chart_cell_13 ?_
  exact hQ _ _ _ _ _ dd_Chart_cell_14 hf hat
set_option maxHeartbeats 4000000 in
set_option maxRecDepth 100000 in
theorem c_Chart_cell (l : Launch) {gA : Nat → Nat} {D : va_G} {q : Nat → Nat} {cA : Nat → ClassId} (x1 x2 x3 : Int) (σ : np_S) : np_Mi gA l D np_cl (np_ty cA) (nc_wd q cA) yy_Chart_cell (.code yy_Chart_cell prog_2_method_20_code 4 (some .int) :: np_al) { frames := 0, cells := 0, slots := 0, locals := 0 } [.ref (q 11), .int (np_i x1), .int (np_i x2), .int (np_i x3)] σ (f_Chart_cell x1 x2 x3 σ) :=
  np_mki (by decide +kernel) (Nat.le_of_ble_eq_true rfl) (fun o p e R s m args below meth c Q A ls hf C hQ hat hl => w_f_Chart_cell C hQ x1 x2 x3 σ _ _ _ hf hat (lv_sub hl [1, 2, 3] rfl))
set_option maxHeartbeats 4000000 in
set_option maxRecDepth 100000 in
theorem w_f_Chart_addTrees (C : np_Cx gA p R s m args c D np_cl (np_ty cA) A np_al "NotationParse$Chart" prog_2_method_18_code 3 { frames := 1, cells := 0, slots := 0, locals := 21 }) (hQ : ∀ (pc : Nat) (ls : Array Slot) (H : Heap) (locs : List Loc) {σ : np_S}, decode prog_2_method_18_code pc = .ok (.return_, 1) → some ((0 : Int), σ) = some out → np_At D np_cl A (nc_wd q cA) s σ H locs → W p l e R s m args below meth c H locs 0 0 Q (F0 m pc ls []))   : ∀ (x1 x2 : Int) (σ : np_S) (H : Heap) (locs : List Loc) (ls : Array Slot), f_Chart_addTrees  x1 x2 σ = some out → np_At D np_cl A (nc_wd q cA) s σ H locs → lv_has ls 3 [(0, .ref (q 11)), (1, .int (np_i x1)), (2, .int (np_i x2))] → W p l e R s m args below meth c H locs 0 0 Q (F0 m 0 ls []) := by
  intro x1 x2 σ H locs ls hf hat hl
  unfold f_Chart_addTrees at hf
  refine lv_aload_n C.x C.b dd_Chart_addTrees_0 rfl (lv_at hl 0 rfl) ?_
  refine np_get (v := .ref (q 14)) C i_Chart hat.1 11 (nc_o11 _) rfl 3 (by decide) tw_124 rfl rfl dd_Chart_addTrees_1 ?_
  refine lv_iload_n C.x C.b dd_Chart_addTrees_4 rfl (lv_at hl 1 rfl) ?_
  refine lv_aload_n C.x C.b dd_Chart_addTrees_5 rfl (lv_at hl 0 rfl) ?_
  refine np_get (v := .ref (q 14)) C i_Chart hat.1 11 (nc_o11 _) rfl 3 (by decide) tw_124 rfl rfl dd_Chart_addTrees_6 ?_
  refine lv_iload_n C.x C.b dd_Chart_addTrees_9 rfl (lv_at hl 1 rfl) ?_
  refine np_iaload C hat.1 14 (nc_a14 _) 0 rfl (by decide) dd_Chart_addTrees_10 hf (fun hf => ?_)
  refine lv_iload_n C.x C.b dd_Chart_addTrees_11 rfl (lv_at hl 2 rfl) ?_
  refine np_iadd C dd_Chart_addTrees_12 ?_
  refine np_ldc (v := 1000000) C tw_832 dd_Chart_addTrees_13 ?_
  refine np_mmin C tw_833 tw_293 tw_17 tw_294 (Nat.le_of_ble_eq_true rfl) (Nat.le_of_ble_eq_true rfl) hl.1 dd_Chart_addTrees_15 hf (fun hf => ?_)
  refine np_iastore C hat 14 (nc_a14 _) 0 rfl (by decide) (nc_s14 _ _ _) dd_Chart_addTrees_18 hf (fun H locs hat hf => ?_)
  exact hQ _ _ _ _ dd_Chart_addTrees_19 hf hat
set_option maxHeartbeats 4000000 in
set_option maxRecDepth 100000 in
theorem c_Chart_addTrees (l : Launch) {gA : Nat → Nat} {D : va_G} {q : Nat → Nat} {cA : Nat → ClassId} (x1 x2 : Int) (σ : np_S) : np_Mv gA l D np_cl (np_ty cA) (nc_wd q cA) yy_Chart_addTrees (.code yy_Chart_addTrees prog_2_method_18_code 3 none :: np_al) { frames := 1, cells := 0, slots := 0, locals := 21 } [.ref (q 11), .int (np_i x1), .int (np_i x2)] σ (f_Chart_addTrees x1 x2 σ) :=
  np_mkv (by decide +kernel) (Nat.le_of_ble_eq_true rfl) (fun o p e R s m args below meth c Q A ls hf C hQ hat hl => w_f_Chart_addTrees C hQ x1 x2 σ _ _ _ hf hat (lv_sub hl [0, 1, 2] rfl))
set_option maxHeartbeats 4000000 in
set_option maxRecDepth 100000 in
theorem w_f_Chart_sumTerms_109 (C : np_Cx gA p R s m args c D np_cl (np_ty cA) A np_al "NotationParse$Chart" prog_2_method_17_code 6 { frames := 2, cells := 0, slots := 0, locals := 43 }) (hQ : ∀ (pc : Nat) (ls : Array Slot) (H : Heap) (locs : List Loc) {σ : np_S}, decode prog_2_method_17_code pc = .ok (.return_, 1) → some ((0 : Int), σ) = some out → np_At D np_cl A (nc_wd q cA) s σ H locs → W p l e R s m args below meth c H locs 0 0 Q (F0 m pc ls []))   : ∀ (n : Nat), ∀ (x3 x4 : Int) (σ : np_S) (H : Heap) (locs : List Loc) (ls : Array Slot), f_Chart_sumTerms_109  n x3 x4 σ = some out → np_At D np_cl A (nc_wd q cA) s σ H locs → lv_has ls 6 [(0, .ref (q 11)), (3, .int (np_i x3)), (4, .int (np_i x4))] → W p l e R s m args below meth c H locs 0 0 Q (F0 m 109 ls []) := by
  intro n
  induction n with
  | zero => intro x3 x4 σ H locs ls hf; cases hf
  | succ n ih =>
    intro x3 x4 σ H locs ls hf hat hl
    have h109 := ih
    have hf : f_Chart_sumTerms_109_b  (fun x3 x4 σ => f_Chart_sumTerms_109  n x3 x4 σ) x3 x4 σ = some out := hf
    unfold f_Chart_sumTerms_109_b at hf
    refine lv_iload C.x C.b dd_Chart_sumTerms_109 (lv_at hl 2 rfl) ?_
    refine np_if_lt (tgt := 139) C dd_Chart_sumTerms_111 (by decide) hf (fun _ hf => ?_) (fun _ hf => ?_)
    · exact hQ _ _ _ _ dd_Chart_sumTerms_139 hf hat
    · refine lv_aload_n C.x C.b dd_Chart_sumTerms_114 rfl (lv_at hl 0 rfl) ?_
      refine lv_iload_n C.x C.b dd_Chart_sumTerms_115 rfl (lv_at hl 1 rfl) ?_
      refine lv_iload C.x C.b dd_Chart_sumTerms_116 (lv_at hl 2 rfl) ?_
      refine np_iadd C dd_Chart_sumTerms_118 ?_
      refine lv_aload_n C.x C.b dd_Chart_sumTerms_119 rfl (lv_at hl 0 rfl) ?_
      refine np_get (v := .ref (q 14)) C i_Chart hat.1 11 (nc_o11 _) rfl 3 (by decide) tw_124 rfl rfl dd_Chart_sumTerms_120 ?_
      refine lv_iload_n C.x C.b dd_Chart_sumTerms_123 rfl (lv_at hl 1 rfl) ?_
      refine lv_iload C.x C.b dd_Chart_sumTerms_124 (lv_at hl 2 rfl) ?_
      refine np_iadd C dd_Chart_sumTerms_126 ?_
      refine lv_iconst (v := np_i 1) C.x C.b dd_Chart_sumTerms_127 rfl ?_
      refine np_iadd C dd_Chart_sumTerms_128 ?_
      refine np_iaload C hat.1 14 (nc_a14 _) 0 rfl (by decide) dd_Chart_sumTerms_129 hf (fun hf => ?_)
      refine np_callVv (As := [.int (np_i (x3 + x4)), .int (np_i (σ 14 ((x3 + x4) + 1)))]) (rest := []) C (c_Chart_addTrees l (x3 + x4) (σ 14 ((x3 + x4) + 1)) _) np_allgood tw_828 tw_830 tp_20 tw_5 tw_831 (nA := 2) (by decide +kernel) rfl ⟨rfl, rfl, Nat.le_of_ble_eq_true rfl, Nat.le_of_ble_eq_true rfl⟩ (nc_o11 _) rfl hat rfl hl.1 (Nat.le_of_ble_eq_true rfl) dd_Chart_sumTerms_130 hf (fun o1 H locs hf hat => ?_)
      refine lv_iinc (v := np_i (x4 + (-1))) (lv' := [(4, .int (np_i (x4 + (-1)))), (0, .ref (q 11)), (3, .int (np_i x3))]) C.x C.b dd_Chart_sumTerms_133 hl (k := 2) rfl (np_inc _ _) (by decide) rfl (fun ls hl => ?_)
      refine lv_goto (tgt := 109) C.x C.b dd_Chart_sumTerms_136 (by decide) ?_
      exact h109 _ _ _ _ _ _ hf hat (lv_sub hl [1, 2, 0] rfl)
set_option maxHeartbeats 4000000 in
set_option maxRecDepth 100000 in
theorem w_f_Chart_sumTerms_99 (C : np_Cx gA p R s m args c D np_cl (np_ty cA) A np_al "NotationParse$Chart" prog_2_method_17_code 6 { frames := 2, cells := 0, slots := 0, locals := 43 }) (hQ : ∀ (pc : Nat) (ls : Array Slot) (H : Heap) (locs : List Loc) {σ : np_S}, decode prog_2_method_17_code pc = .ok (.return_, 1) → some ((0 : Int), σ) = some out → np_At D np_cl A (nc_wd q cA) s σ H locs → W p l e R s m args below meth c H locs 0 0 Q (F0 m pc ls [])) {k37 : (Int → Int → Int → Int → np_S → Option np_O)} (h37 : ∀ (x1 x2 x3 x4 : Int) (σ : np_S) (H : Heap) (locs : List Loc) (ls : Array Slot), k37 x1 x2 x3 x4 σ = some out → np_At D np_cl A (nc_wd q cA) s σ H locs → lv_has ls 6 [(0, .ref (q 11)), (1, .int (np_i x1)), (2, .int (np_i x2)), (3, .int (np_i x3)), (4, .int (np_i x4))] → W p l e R s m args below meth c H locs 0 0 Q (F0 m 37 ls [])) : ∀ (x1 x2 x3 x4 : Int) (σ : np_S) (H : Heap) (locs : List Loc) (ls : Array Slot), f_Chart_sumTerms_99 k37 x1 x2 x3 x4 σ = some out → np_At D np_cl A (nc_wd q cA) s σ H locs → lv_has ls 6 [(0, .ref (q 11)), (1, .int (np_i x1)), (2, .int (np_i x2)), (3, .int (np_i x3)), (4, .int (np_i x4))] → W p l e R s m args below meth c H locs 0 0 Q (F0 m 99 ls []) := by
  intro x1 x2 x3 x4 σ H locs ls hf hat hl
  unfold f_Chart_sumTerms_99 at hf
  refine lv_iinc (v := np_i (x4 + 1)) (lv' := [(4, .int (np_i (x4 + 1))), (0, .ref (q 11)), (1, .int (np_i x1)), (2, .int (np_i x2)), (3, .int (np_i x3))]) C.x C.b dd_Chart_sumTerms_99 hl (k := 4) rfl (np_inc _ _) (by decide) rfl (fun ls hl => ?_)
  refine lv_goto (tgt := 37) C.x C.b dd_Chart_sumTerms_102 (by decide) ?_
  exact h37 _ _ _ _ _ _ _ _ hf hat (lv_sub hl [1, 2, 3, 4, 0] rfl)
set_option maxHeartbeats 4000000 in
set_option maxRecDepth 100000 in
theorem w_f_Chart_sumTerms_37 (C : np_Cx gA p R s m args c D np_cl (np_ty cA) A np_al "NotationParse$Chart" prog_2_method_17_code 6 { frames := 2, cells := 0, slots := 0, locals := 43 }) (hQ : ∀ (pc : Nat) (ls : Array Slot) (H : Heap) (locs : List Loc) {σ : np_S}, decode prog_2_method_17_code pc = .ok (.return_, 1) → some ((0 : Int), σ) = some out → np_At D np_cl A (nc_wd q cA) s σ H locs → W p l e R s m args below meth c H locs 0 0 Q (F0 m pc ls []))   : ∀ (n : Nat), ∀ (x1 x2 x3 x4 : Int) (σ : np_S) (H : Heap) (locs : List Loc) (ls : Array Slot), f_Chart_sumTerms_37  n x1 x2 x3 x4 σ = some out → np_At D np_cl A (nc_wd q cA) s σ H locs → lv_has ls 6 [(0, .ref (q 11)), (1, .int (np_i x1)), (2, .int (np_i x2)), (3, .int (np_i x3)), (4, .int (np_i x4))] → W p l e R s m args below meth c H locs 0 0 Q (F0 m 37 ls []) := by
  intro n
  induction n with
  | zero => intro x1 x2 x3 x4 σ H locs ls hf; cases hf
  | succ n ih =>
    intro x1 x2 x3 x4 σ H locs ls hf hat hl
    have h37 := ih
    have hf : f_Chart_sumTerms_37_b  (fun x1 x2 x3 x4 σ => f_Chart_sumTerms_37  n x1 x2 x3 x4 σ) x1 x2 x3 x4 σ = some out := hf
    unfold f_Chart_sumTerms_37_b at hf
    refine lv_iload C.x C.b dd_Chart_sumTerms_37 (lv_at hl 4 rfl) ?_
    refine lv_aload_n C.x C.b dd_Chart_sumTerms_39 rfl (lv_at hl 0 rfl) ?_
    refine np_get (v := .ref (q 1)) C i_Chart hat.1 11 (nc_o11 _) rfl 0 (by decide) tw_121 rfl rfl dd_Chart_sumTerms_40 ?_
    refine np_get (v := .int (np_i (σ 1 4))) C i_Grammar hat.1 1 (nc_o1 _) rfl 4 (by decide) tw_61 rfl rfl dd_Chart_sumTerms_43 ?_
    refine np_icmp_ge (tgt := 105) C dd_Chart_sumTerms_46 (by decide) hf (fun _ hf => ?_) (fun _ hf => ?_)
    · refine lv_bipush (v := np_i 9) C.x C.b dd_Chart_sumTerms_105 (by decide +kernel) ?_
      refine lv_istore (lv' := [(4, .int (np_i 9)), (0, .ref (q 11)), (1, .int (np_i x1)), (2, .int (np_i x2)), (3, .int (np_i x3))]) C.x C.b dd_Chart_sumTerms_107 hl (by decide) rfl (fun ls hl => ?_)
      exact w_f_Chart_sumTerms_109 C hQ  6000 _ _ _ _ _ _ hf hat (lv_sub hl [1, 4, 0] rfl)
    · refine lv_aload_n C.x C.b dd_Chart_sumTerms_49 rfl (lv_at hl 0 rfl) ?_
      refine np_get (v := .ref (q 1)) C i_Chart hat.1 11 (nc_o11 _) rfl 0 (by decide) tw_121 rfl rfl dd_Chart_sumTerms_50 ?_
      refine lv_iload C.x C.b dd_Chart_sumTerms_53 (lv_at hl 4 rfl) ?_
      refine np_callVi (As := [.int (np_i x4)]) (rest := []) C (c_Grammar_lastDot l x4 _) np_allgood tw_775 tw_776 tw_777 tw_2 tw_778 (nA := 1) (by decide +kernel) rfl ⟨rfl, rfl, Nat.le_of_ble_eq_true rfl, Nat.le_of_ble_eq_true rfl⟩ (nc_o1 _) rfl hat rfl hl.1 (Nat.le_of_ble_eq_true rfl) dd_Chart_sumTerms_55 hf (fun o2 H locs hf hat => ?_)
      refine lv_istore (lv' := [(5, .int (np_i o2.1)), (0, .ref (q 11)), (1, .int (np_i x1)), (2, .int (np_i x2)), (3, .int (np_i x3)), (4, .int (np_i x4))]) C.x C.b dd_Chart_sumTerms_58 hl (by decide) rfl (fun ls hl => ?_)
      refine lv_aload_n C.x C.b dd_Chart_sumTerms_60 rfl (lv_at hl 1 rfl) ?_
      refine lv_iload_n C.x C.b dd_Chart_sumTerms_61 rfl (lv_at hl 2 rfl) ?_
      refine lv_iload_n C.x C.b dd_Chart_sumTerms_62 rfl (lv_at hl 3 rfl) ?_
      refine lv_iload C.x C.b dd_Chart_sumTerms_63 (lv_at hl 0 rfl) ?_
      refine np_callVi (As := [.int (np_i x1), .int (np_i x2), .int (np_i o2.1)]) (rest := []) C (c_Chart_isReached l x1 x2 o2.1 _) np_allgood tw_779 tw_781 tp_11 tw_5 tw_782 (nA := 3) (by decide +kernel) rfl ⟨rfl, rfl, Nat.le_of_ble_eq_true rfl, Nat.le_of_ble_eq_true rfl⟩ (nc_o11 _) rfl hat rfl hl.1 (Nat.le_of_ble_eq_true rfl) dd_Chart_sumTerms_65 hf (fun o3 H locs hf hat => ?_)
      refine np_if_eq (tgt := 99) C dd_Chart_sumTerms_68 (by decide) hf (fun _ hf => ?_) (fun _ hf => ?_)
      · exact w_f_Chart_sumTerms_99 C hQ h37 _ _ _ _ _ _ _ _ hf hat (lv_sub hl [1, 2, 3, 4, 5] rfl)
      · refine lv_aload_n C.x C.b dd_Chart_sumTerms_71 rfl (lv_at hl 1 rfl) ?_
        refine lv_iload_n C.x C.b dd_Chart_sumTerms_72 rfl (lv_at hl 4 rfl) ?_
        refine lv_aload_n C.x C.b dd_Chart_sumTerms_73 rfl (lv_at hl 1 rfl) ?_
        refine np_get (v := .ref (q 1)) C i_Chart hat.1 11 (nc_o11 _) rfl 0 (by decide) tw_121 rfl rfl dd_Chart_sumTerms_74 ?_
        refine np_get (v := .ref (q 4)) C i_Grammar hat.1 1 (nc_o1 _) rfl 2 (by decide) tw_56 rfl rfl dd_Chart_sumTerms_77 ?_
        refine lv_iload C.x C.b dd_Chart_sumTerms_80 (lv_at hl 5 rfl) ?_
        refine np_iaload C hat.1 4 (nc_a4 _) 0 rfl (by decide) dd_Chart_sumTerms_82 hf (fun hf => ?_)
        refine np_iadd C dd_Chart_sumTerms_83 ?_
        refine lv_aload_n C.x C.b dd_Chart_sumTerms_84 rfl (lv_at hl 1 rfl) ?_
        refine np_get (v := .ref (q 13)) C i_Chart hat.1 11 (nc_o11 _) rfl 2 (by decide) tw_123 rfl rfl dd_Chart_sumTerms_85 ?_
        refine lv_iload_n C.x C.b dd_Chart_sumTerms_88 rfl (lv_at hl 3 rfl) ?_
        refine lv_bipush (v := np_i 98) C.x C.b dd_Chart_sumTerms_89 (by decide +kernel) ?_
        refine np_imul C dd_Chart_sumTerms_91 ?_
        refine lv_iload C.x C.b dd_Chart_sumTerms_92 (lv_at hl 0 rfl) ?_
        refine np_iadd C dd_Chart_sumTerms_94 ?_
        refine np_iaload C hat.1 13 (nc_a13 _) 0 rfl (by decide) dd_Chart_sumTerms_95 hf (fun hf => ?_)
        refine np_callVv (As := [.int (np_i (x3 + (o3.2 4 x4))), .int (np_i (o3.2 13 ((x2 * 98) + o2.1)))]) (rest := []) C (c_Chart_addTrees l (x3 + (o3.2 4 x4)) (o3.2 13 ((x2 * 98) + o2.1)) _) np_allgood tw_828 tw_830 tp_20 tw_5 tw_831 (nA := 2) (by decide +kernel) rfl ⟨rfl, rfl, Nat.le_of_ble_eq_true rfl, Nat.le_of_ble_eq_true rfl⟩ (nc_o11 _) rfl hat rfl hl.1 (Nat.le_of_ble_eq_true rfl) dd_Chart_sumTerms_96 hf (fun o4 H locs hf hat => ?_)
        exact w_f_Chart_sumTerms_99 C hQ h37 _ _ _ _ _ _ _ _ hf hat (lv_sub hl [1, 2, 3, 4, 5] rfl)
set_option maxHeartbeats 4000000 in
set_option maxRecDepth 100000 in
theorem w_f_Chart_sumTerms_11 (C : np_Cx gA p R s m args c D np_cl (np_ty cA) A np_al "NotationParse$Chart" prog_2_method_17_code 6 { frames := 2, cells := 0, slots := 0, locals := 43 }) (hQ : ∀ (pc : Nat) (ls : Array Slot) (H : Heap) (locs : List Loc) {σ : np_S}, decode prog_2_method_17_code pc = .ok (.return_, 1) → some ((0 : Int), σ) = some out → np_At D np_cl A (nc_wd q cA) s σ H locs → W p l e R s m args below meth c H locs 0 0 Q (F0 m pc ls []))   : ∀ (n : Nat), ∀ (x1 x2 x3 x4 : Int) (σ : np_S) (H : Heap) (locs : List Loc) (ls : Array Slot), f_Chart_sumTerms_11  n x1 x2 x3 x4 σ = some out → np_At D np_cl A (nc_wd q cA) s σ H locs → lv_has ls 6 [(0, .ref (q 11)), (1, .int (np_i x1)), (2, .int (np_i x2)), (3, .int (np_i x3)), (4, .int (np_i x4))] → W p l e R s m args below meth c H locs 0 0 Q (F0 m 11 ls []) := by
  intro n
  induction n with
  | zero => intro x1 x2 x3 x4 σ H locs ls hf; cases hf
  | succ n ih =>
    intro x1 x2 x3 x4 σ H locs ls hf hat hl
    have h11 := ih
    have hf : f_Chart_sumTerms_11_b  (fun x1 x2 x3 x4 σ => f_Chart_sumTerms_11  n x1 x2 x3 x4 σ) x1 x2 x3 x4 σ = some out := hf
    unfold f_Chart_sumTerms_11_b at hf
    refine lv_iload C.x C.b dd_Chart_sumTerms_11 (lv_at hl 4 rfl) ?_
    refine lv_bipush (v := np_i 10) C.x C.b dd_Chart_sumTerms_13 (by decide +kernel) ?_
    refine np_icmp_gt (tgt := 34) C dd_Chart_sumTerms_15 (by decide) hf (fun _ hf => ?_) (fun _ hf => ?_)
    · refine lv_iconst (v := np_i 0) C.x C.b dd_Chart_sumTerms_34 rfl ?_
      refine lv_istore (lv' := [(4, .int (np_i 0)), (0, .ref (q 11)), (1, .int (np_i x1)), (2, .int (np_i x2)), (3, .int (np_i x3))]) C.x C.b dd_Chart_sumTerms_35 hl (by decide) rfl (fun ls hl => ?_)
      exact w_f_Chart_sumTerms_37 C hQ  6000 _ _ _ _ _ _ _ _ hf hat (lv_sub hl [1, 2, 3, 4, 0] rfl)
    · refine lv_aload_n C.x C.b dd_Chart_sumTerms_18 rfl (lv_at hl 0 rfl) ?_
      refine np_get (v := .ref (q 14)) C i_Chart hat.1 11 (nc_o11 _) rfl 3 (by decide) tw_124 rfl rfl dd_Chart_sumTerms_19 ?_
      refine lv_iload_n C.x C.b dd_Chart_sumTerms_22 rfl (lv_at hl 3 rfl) ?_
      refine lv_iload C.x C.b dd_Chart_sumTerms_23 (lv_at hl 4 rfl) ?_
      refine np_iadd C dd_Chart_sumTerms_25 ?_
      refine lv_iconst (v := np_i 0) C.x C.b dd_Chart_sumTerms_26 rfl ?_
      refine np_iastore C hat 14 (nc_a14 _) 0 rfl (by decide) (nc_s14 _ _ _) dd_Chart_sumTerms_27 hf (fun H locs hat hf => ?_)
      refine lv_iinc (v := np_i (x4 + 1)) (lv' := [(4, .int (np_i (x4 + 1))), (0, .ref (q 11)), (1, .int (np_i x1)), (2, .int (np_i x2)), (3, .int (np_i x3))]) C.x C.b dd_Chart_sumTerms_28 hl (k := 4) rfl (np_inc _ _) (by decide) rfl (fun ls hl => ?_)
      refine lv_goto (tgt := 11) C.x C.b dd_Chart_sumTerms_31 (by decide) ?_
      exact h11 _ _ _ _ _ _ _ _ hf hat (lv_sub hl [1, 2, 3, 4, 0] rfl)
set_option maxHeartbeats 4000000 in
set_option maxRecDepth 100000 in
theorem w_f_Chart_sumTerms (C : np_Cx gA p R s m args c D np_cl (np_ty cA) A np_al "NotationParse$Chart" prog_2_method_17_code 6 { frames := 2, cells := 0, slots := 0, locals := 43 }) (hQ : ∀ (pc : Nat) (ls : Array Slot) (H : Heap) (locs : List Loc) {σ : np_S}, decode prog_2_method_17_code pc = .ok (.return_, 1) → some ((0 : Int), σ) = some out → np_At D np_cl A (nc_wd q cA) s σ H locs → W p l e R s m args below meth c H locs 0 0 Q (F0 m pc ls []))   : ∀ (x1 x2 : Int) (σ : np_S) (H : Heap) (locs : List Loc) (ls : Array Slot), f_Chart_sumTerms  x1 x2 σ = some out → np_At D np_cl A (nc_wd q cA) s σ H locs → lv_has ls 6 [(0, .ref (q 11)), (1, .int (np_i x1)), (2, .int (np_i x2))] → W p l e R s m args below meth c H locs 0 0 Q (F0 m 0 ls []) := by
  intro x1 x2 σ H locs ls hf hat hl
  unfold f_Chart_sumTerms at hf
  refine lv_aload_n C.x C.b dd_Chart_sumTerms_0 rfl (lv_at hl 0 rfl) ?_
  refine lv_iload_n C.x C.b dd_Chart_sumTerms_1 rfl (lv_at hl 1 rfl) ?_
  refine lv_iload_n C.x C.b dd_Chart_sumTerms_2 rfl (lv_at hl 2 rfl) ?_
  refine lv_iconst (v := np_i 0) C.x C.b dd_Chart_sumTerms_3 rfl ?_
  refine np_callVi (As := [.int (np_i x1), .int (np_i x2), .int (np_i 0)]) (rest := []) C (c_Chart_cell l x1 x2 0 _) np_allgood tw_816 tw_818 tp_18 tw_5 tw_819 (nA := 3) (by decide +kernel) rfl ⟨rfl, rfl, Nat.le_of_ble_eq_true rfl, Nat.le_of_ble_eq_true rfl⟩ (nc_o11 _) rfl hat rfl hl.1 (Nat.le_of_ble_eq_true rfl) dd_Chart_sumTerms_4 hf (fun o5 H locs hf hat => ?_)
  refine lv_istore_n (lv' := [(3, .int (np_i o5.1)), (0, .ref (q 11)), (1, .int (np_i x1)), (2, .int (np_i x2))]) C.x C.b dd_Chart_sumTerms_7 rfl hl (by decide) rfl (fun ls hl => ?_)
  refine lv_iconst (v := np_i 0) C.x C.b dd_Chart_sumTerms_8 rfl ?_
  refine lv_istore (lv' := [(4, .int (np_i 0)), (3, .int (np_i o5.1)), (0, .ref (q 11)), (1, .int (np_i x1)), (2, .int (np_i x2))]) C.x C.b dd_Chart_sumTerms_9 hl (by decide) rfl (fun ls hl => ?_)
  exact w_f_Chart_sumTerms_11 C hQ  6000 _ _ _ _ _ _ _ _ hf hat (lv_sub hl [2, 3, 4, 1, 0] rfl)
set_option maxHeartbeats 4000000 in
set_option maxRecDepth 100000 in
theorem c_Chart_sumTerms (l : Launch) {gA : Nat → Nat} {D : va_G} {q : Nat → Nat} {cA : Nat → ClassId} (x1 x2 : Int) (σ : np_S) : np_Mv gA l D np_cl (np_ty cA) (nc_wd q cA) yy_Chart_sumTerms (.code yy_Chart_sumTerms prog_2_method_17_code 6 none :: np_al) { frames := 2, cells := 0, slots := 0, locals := 43 } [.ref (q 11), .int (np_i x1), .int (np_i x2)] σ (f_Chart_sumTerms x1 x2 σ) :=
  np_mkv (by decide +kernel) (Nat.le_of_ble_eq_true rfl) (fun o p e R s m args below meth c Q A ls hf C hQ hat hl => w_f_Chart_sumTerms C hQ x1 x2 σ _ _ _ hf hat (lv_sub hl [0, 1, 2] rfl))
end NW2
