section NW1
variable {p : Program} {l : Launch} {e : Env} {R : Room} {s : State} {m : MethodId} {args : Array Value} {below : List Frame} {meth : Method} {c : Code} {Q : State → Prop} {D : va_G} {A : Nat → Prop} {q : Nat → Nat} {cA : Nat → ClassId} {out : np_O} {gA : Nat → Nat}
set_option maxHeartbeats 4000000 in
set_option maxRecDepth 100000 in
theorem w_f_Arrays_rangeCheck (C : np_Cx gA p R s m args c D np_cl (np_ty cA) A np_al "java/util/Arrays" prog_25_method_30_code 3 { frames := 0, cells := 0, slots := 0, locals := 0 }) (hQ : ∀ (pc : Nat) (ls : Array Slot) (H : Heap) (locs : List Loc) {σ : np_S}, decode prog_25_method_30_code pc = .ok (.return_, 1) → some ((0 : Int), σ) = some out → np_At D np_cl A (nc_wd q cA) s σ H locs → W p l e R s m args below meth c H locs 0 0 Q (F0 m pc ls []))   : ∀ (x0 x1 x2 : Int) (σ : np_S) (H : Heap) (locs : List Loc) (ls : Array Slot), f_Arrays_rangeCheck  x0 x1 x2 σ = some out → np_At D np_cl A (nc_wd q cA) s σ H locs → lv_has ls 3 [(0, .int (np_i x0)), (1, .int (np_i x1)), (2, .int (np_i x2))] → W p l e R s m args below meth c H locs 0 0 Q (F0 m 0 ls []) := by
  intro x0 x1 x2 σ H locs ls hf hat hl
  unfold f_Arrays_rangeCheck at hf
  refine lv_iload_n C.x C.b dd_Arrays_rangeCheck_0 rfl (lv_at hl 1 rfl) ?_
  refine lv_iload_n C.x C.b dd_Arrays_rangeCheck_1 rfl (lv_at hl 2 rfl) ?_
  refine np_icmp_le (tgt := 46) C dd_Arrays_rangeCheck_2 (by decide) hf (fun _ hf => ?_) (fun _ hf => ?_)
  · refine lv_iload_n C.x C.b dd_Arrays_rangeCheck_46 rfl (lv_at hl 1 rfl) ?_
    refine np_if_ge (tgt := 59) C dd_Arrays_rangeCheck_47 (by decide) hf (fun _ hf => ?_) (fun _ hf => ?_)
    · refine lv_iload_n C.x C.b dd_Arrays_rangeCheck_59 rfl (lv_at hl 2 rfl) ?_
      refine lv_iload_n C.x C.b dd_Arrays_rangeCheck_60 rfl (lv_at hl 0 rfl) ?_
      refine np_icmp_le (tgt := 73) C dd_Arrays_rangeCheck_61 (by decide) hf (fun _ hf => ?_) (fun _ hf => ?_)
      · exact hQ _ _ _ _ dd_Arrays_rangeCheck_73 hf hat
      · cases hf
    · cases hf
  · cases hf
set_option maxHeartbeats 4000000 in
set_option maxRecDepth 100000 in
theorem c_Arrays_rangeCheck (l : Launch) {gA : Nat → Nat} {D : va_G} {q : Nat → Nat} {cA : Nat → ClassId} (x0 x1 x2 : Int) (σ : np_S) : np_Mv gA l D np_cl (np_ty cA) (nc_wd q cA) yy_Arrays_rangeCheck (.code yy_Arrays_rangeCheck prog_25_method_30_code 3 none :: np_al) { frames := 0, cells := 0, slots := 0, locals := 0 } [.int (np_i x0), .int (np_i x1), .int (np_i x2)] σ (f_Arrays_rangeCheck x0 x1 x2 σ) :=
  np_mkv (by decide +kernel) (Nat.le_of_ble_eq_true rfl) (fun o p e R s m args below meth c Q A ls hf C hQ hat hl => w_f_Arrays_rangeCheck C hQ x0 x1 x2 σ _ _ _ hf hat (lv_sub hl [0, 1, 2] rfl))
set_option maxHeartbeats 4000000 in
set_option maxRecDepth 100000 in
theorem w_f_Arrays_fill_2_10 (C : np_Cx gA p R s m args c D np_cl (np_ty cA) A np_al "java/util/Arrays" prog_25_method_104_code 5 { frames := 1, cells := 0, slots := 0, locals := 22 }) (hQ : ∀ (pc : Nat) (ls : Array Slot) (H : Heap) (locs : List Loc) {σ : np_S}, decode prog_25_method_104_code pc = .ok (.return_, 1) → some ((0 : Int), σ) = some out → np_At D np_cl A (nc_wd q cA) s σ H locs → W p l e R s m args below meth c H locs 0 0 Q (F0 m pc ls []))   : ∀ (n : Nat), ∀ (x2 x3 x4 : Int) (σ : np_S) (H : Heap) (locs : List Loc) (ls : Array Slot), f_Arrays_fill_2_10  n x2 x3 x4 σ = some out → np_At D np_cl A (nc_wd q cA) s σ H locs → lv_has ls 5 [(0, .ref (q 2)), (2, .int (np_i x2)), (3, .int (np_i x3)), (4, .int (np_i x4))] → W p l e R s m args below meth c H locs 0 0 Q (F0 m 10 ls []) := by
  intro n
  induction n with
  | zero => intro x2 x3 x4 σ H locs ls hf; cases hf
  | succ n ih =>
    intro x2 x3 x4 σ H locs ls hf hat hl
    have h10 := ih
    have hf : f_Arrays_fill_2_10_b  (fun x2 x3 x4 σ => f_Arrays_fill_2_10  n x2 x3 x4 σ) x2 x3 x4 σ = some out := hf
    unfold f_Arrays_fill_2_10_b at hf
    refine lv_iload C.x C.b dd_Arrays_fill_10 (lv_at hl 3 rfl) ?_
    refine lv_iload_n C.x C.b dd_Arrays_fill_12 rfl (lv_at hl 1 rfl) ?_
    refine np_icmp_ge (tgt := 27) C dd_Arrays_fill_13 (by decide) hf (fun _ hf => ?_) (fun _ hf => ?_)
    · exact hQ _ _ _ _ dd_Arrays_fill_27 hf hat
    · refine lv_aload_n C.x C.b dd_Arrays_fill_16 rfl (lv_at hl 0 rfl) ?_
      refine lv_iload C.x C.b dd_Arrays_fill_17 (lv_at hl 3 rfl) ?_
      refine lv_iload_n C.x C.b dd_Arrays_fill_19 rfl (lv_at hl 2 rfl) ?_
      refine np_iastore C hat 2 (nc_a2 _) 0 rfl (by decide) (nc_s2 _ _ _) dd_Arrays_fill_20 hf (fun H locs hat hf => ?_)
      refine lv_iinc (v := np_i (x4 + 1)) (lv' := [(4, .int (np_i (x4 + 1))), (0, .ref (q 2)), (2, .int (np_i x2)), (3, .int (np_i x3))]) C.x C.b dd_Arrays_fill_21 hl (k := 3) rfl (np_inc _ _) (by decide) rfl (fun ls hl => ?_)
      refine lv_goto (tgt := 10) C.x C.b dd_Arrays_fill_24 (by decide) ?_
      exact h10 _ _ _ _ _ _ _ hf hat (lv_sub hl [1, 2, 3, 0] rfl)
set_option maxHeartbeats 4000000 in
set_option maxRecDepth 100000 in
theorem w_f_Arrays_fill_2 (C : np_Cx gA p R s m args c D np_cl (np_ty cA) A np_al "java/util/Arrays" prog_25_method_104_code 5 { frames := 1, cells := 0, slots := 0, locals := 22 }) (hQ : ∀ (pc : Nat) (ls : Array Slot) (H : Heap) (locs : List Loc) {σ : np_S}, decode prog_25_method_104_code pc = .ok (.return_, 1) → some ((0 : Int), σ) = some out → np_At D np_cl A (nc_wd q cA) s σ H locs → W p l e R s m args below meth c H locs 0 0 Q (F0 m pc ls []))   : ∀ (x1 x2 x3 : Int) (σ : np_S) (H : Heap) (locs : List Loc) (ls : Array Slot), f_Arrays_fill_2  x1 x2 x3 σ = some out → np_At D np_cl A (nc_wd q cA) s σ H locs → lv_has ls 5 [(0, .ref (q 2)), (1, .int (np_i x1)), (2, .int (np_i x2)), (3, .int (np_i x3))] → W p l e R s m args below meth c H locs 0 0 Q (F0 m 0 ls []) := by
  intro x1 x2 x3 σ H locs ls hf hat hl
  unfold f_Arrays_fill_2 at hf
  refine lv_aload_n C.x C.b dd_Arrays_fill_0 rfl (lv_at hl 0 rfl) ?_
  refine np_alen (n := 105) C hat.1 2 (nc_a2 _) 0 rfl (show Int32.ofNat 105 = np_i 105 by decide +kernel) dd_Arrays_fill_1 ?_
  refine lv_iload_n C.x C.b dd_Arrays_fill_2 rfl (lv_at hl 1 rfl) ?_
  refine lv_iload_n C.x C.b dd_Arrays_fill_3 rfl (lv_at hl 2 rfl) ?_
  refine np_callSv (As := [.int (np_i 105), .int (np_i x1), .int (np_i x2)]) (rest := []) C (c_Arrays_rangeCheck l 105 x1 x2 _) np_allgood tw_494 tw_495 tw_3 tw_496 (nA := 3) (by decide +kernel) rfl ⟨rfl, rfl, Nat.le_of_ble_eq_true rfl, Nat.le_of_ble_eq_true rfl⟩ hat rfl hl.1 (Nat.le_of_ble_eq_true rfl) dd_Arrays_fill_4 hf (fun o1 H locs hf hat => ?_)
  refine lv_iload_n C.x C.b dd_Arrays_fill_7 rfl (lv_at hl 1 rfl) ?_
  refine lv_istore (lv' := [(4, .int (np_i x1)), (0, .ref (q 2)), (1, .int (np_i x1)), (2, .int (np_i x2)), (3, .int (np_i x3))]) C.x C.b dd_Arrays_fill_8 hl (by decide) rfl (fun ls hl => ?_)
  exact w_f_Arrays_fill_2_10 C hQ  20000 _ _ _ _ _ _ _ hf hat (lv_sub hl [1, 3, 4, 0] rfl)
set_option maxHeartbeats 4000000 in
set_option maxRecDepth 100000 in
theorem c_Arrays_fill_2 (l : Launch) {gA : Nat → Nat} {D : va_G} {q : Nat → Nat} {cA : Nat → ClassId} (x1 x2 x3 : Int) (σ : np_S) : np_Mv gA l D np_cl (np_ty cA) (nc_wd q cA) yy_Arrays_fill (.code yy_Arrays_fill prog_25_method_104_code 5 none :: np_al) { frames := 1, cells := 0, slots := 0, locals := 22 } [.ref (q 2), .int (np_i x1), .int (np_i x2), .int (np_i x3)] σ (f_Arrays_fill_2 x1 x2 x3 σ) :=
  np_mkv (by decide +kernel) (Nat.le_of_ble_eq_true rfl) (fun o p e R s m args below meth c Q A ls hf C hQ hat hl => w_f_Arrays_fill_2 C hQ x1 x2 x3 σ _ _ _ hf hat (lv_sub hl [0, 1, 2, 3] rfl))
set_option maxHeartbeats 4000000 in
set_option maxRecDepth 100000 in
theorem w_f_Arrays_fill2_3_10 (C : np_Cx gA p R s m args c D np_cl (np_ty cA) A np_al "java/util/Arrays" prog_25_method_102_code 6 { frames := 1, cells := 0, slots := 0, locals := 22 }) (hQ : ∀ (pc : Nat) (ls : Array Slot) (H : Heap) (locs : List Loc) {σ : np_S}, decode prog_25_method_102_code pc = .ok (.return_, 1) → some ((0 : Int), σ) = some out → np_At D np_cl A (nc_wd q cA) s σ H locs → W p l e R s m args below meth c H locs 0 0 Q (F0 m pc ls []))   : ∀ (n : Nat), ∀ (x2 x3 x5 : Int) (σ : np_S) (H : Heap) (locs : List Loc) (ls : Array Slot), f_Arrays_fill2_3_10  n x2 x3 x5 σ = some out → np_At D np_cl A (nc_wd q cA) s σ H locs → lv_has ls 6 [(0, .ref (q 3)), (2, .int (np_i x2)), (3, .long (np_l x3)), (5, .int (np_i x5))] → W p l e R s m args below meth c H locs 0 0 Q (F0 m 10 ls []) := by
  intro n
  induction n with
  | zero => intro x2 x3 x5 σ H locs ls hf; cases hf
  | succ n ih =>
    intro x2 x3 x5 σ H locs ls hf hat hl
    have h10 := ih
    have hf : f_Arrays_fill2_3_10_b  (fun x2 x3 x5 σ => f_Arrays_fill2_3_10  n x2 x3 x5 σ) x2 x3 x5 σ = some out := hf
    unfold f_Arrays_fill2_3_10_b at hf
    refine lv_iload C.x C.b dd_Arrays_fill2_10 (lv_at hl 3 rfl) ?_
    refine lv_iload_n C.x C.b dd_Arrays_fill2_12 rfl (lv_at hl 1 rfl) ?_
    refine np_icmp_ge (tgt := 27) C dd_Arrays_fill2_13 (by decide) hf (fun _ hf => ?_) (fun _ hf => ?_)
    · exact hQ _ _ _ _ dd_Arrays_fill2_27 hf hat
    · refine lv_aload_n C.x C.b dd_Arrays_fill2_16 rfl (lv_at hl 0 rfl) ?_
      refine lv_iload C.x C.b dd_Arrays_fill2_17 (lv_at hl 3 rfl) ?_
      refine lv_lload_n C.x C.b dd_Arrays_fill2_19 rfl (lv_at hl 2 rfl) ?_
      refine np_lastore C hat 3 (nc_a3 _) 1 rfl (by decide) (nc_s3 _ _ _) dd_Arrays_fill2_20 hf (fun H locs hat hf => ?_)
      refine lv_iinc (v := np_i (x5 + 1)) (lv' := [(5, .int (np_i (x5 + 1))), (0, .ref (q 3)), (2, .int (np_i x2)), (3, .long (np_l x3))]) C.x C.b dd_Arrays_fill2_21 hl (k := 3) rfl (np_inc _ _) (by decide) rfl (fun ls hl => ?_)
      refine lv_goto (tgt := 10) C.x C.b dd_Arrays_fill2_24 (by decide) ?_
      exact h10 _ _ _ _ _ _ _ hf hat (lv_sub hl [1, 2, 3, 0] rfl)
set_option maxHeartbeats 4000000 in
set_option maxRecDepth 100000 in
theorem w_f_Arrays_fill2_3 (C : np_Cx gA p R s m args c D np_cl (np_ty cA) A np_al "java/util/Arrays" prog_25_method_102_code 6 { frames := 1, cells := 0, slots := 0, locals := 22 }) (hQ : ∀ (pc : Nat) (ls : Array Slot) (H : Heap) (locs : List Loc) {σ : np_S}, decode prog_25_method_102_code pc = .ok (.return_, 1) → some ((0 : Int), σ) = some out → np_At D np_cl A (nc_wd q cA) s σ H locs → W p l e R s m args below meth c H locs 0 0 Q (F0 m pc ls []))   : ∀ (x1 x2 x3 : Int) (σ : np_S) (H : Heap) (locs : List Loc) (ls : Array Slot), f_Arrays_fill2_3  x1 x2 x3 σ = some out → np_At D np_cl A (nc_wd q cA) s σ H locs → lv_has ls 6 [(0, .ref (q 3)), (1, .int (np_i x1)), (2, .int (np_i x2)), (3, .long (np_l x3))] → W p l e R s m args below meth c H locs 0 0 Q (F0 m 0 ls []) := by
  intro x1 x2 x3 σ H locs ls hf hat hl
  unfold f_Arrays_fill2_3 at hf
  refine lv_aload_n C.x C.b dd_Arrays_fill2_0 rfl (lv_at hl 0 rfl) ?_
  refine np_alen (n := 105) C hat.1 3 (nc_a3 _) 1 rfl (show Int32.ofNat 105 = np_i 105 by decide +kernel) dd_Arrays_fill2_1 ?_
  refine lv_iload_n C.x C.b dd_Arrays_fill2_2 rfl (lv_at hl 1 rfl) ?_
  refine lv_iload_n C.x C.b dd_Arrays_fill2_3 rfl (lv_at hl 2 rfl) ?_
  refine np_callSv (As := [.int (np_i 105), .int (np_i x1), .int (np_i x2)]) (rest := []) C (c_Arrays_rangeCheck l 105 x1 x2 _) np_allgood tw_494 tw_495 tw_3 tw_496 (nA := 3) (by decide +kernel) rfl ⟨rfl, rfl, Nat.le_of_ble_eq_true rfl, Nat.le_of_ble_eq_true rfl⟩ hat rfl hl.1 (Nat.le_of_ble_eq_true rfl) dd_Arrays_fill2_4 hf (fun o1 H locs hf hat => ?_)
  refine lv_iload_n C.x C.b dd_Arrays_fill2_7 rfl (lv_at hl 1 rfl) ?_
  refine lv_istore (lv' := [(5, .int (np_i x1)), (0, .ref (q 3)), (1, .int (np_i x1)), (2, .int (np_i x2)), (3, .long (np_l x3))]) C.x C.b dd_Arrays_fill2_8 hl (by decide) rfl (fun ls hl => ?_)
  exact w_f_Arrays_fill2_3_10 C hQ  20000 _ _ _ _ _ _ _ hf hat (lv_sub hl [1, 3, 4, 0] rfl)
set_option maxHeartbeats 4000000 in
set_option maxRecDepth 100000 in
theorem c_Arrays_fill2_3 (l : Launch) {gA : Nat → Nat} {D : va_G} {q : Nat → Nat} {cA : Nat → ClassId} (x1 x2 x3 : Int) (σ : np_S) : np_Mv gA l D np_cl (np_ty cA) (nc_wd q cA) yy_Arrays_fill2 (.code yy_Arrays_fill2 prog_25_method_102_code 6 none :: np_al) { frames := 1, cells := 0, slots := 0, locals := 22 } [.ref (q 3), .int (np_i x1), .int (np_i x2), .long (np_l x3)] σ (f_Arrays_fill2_3 x1 x2 x3 σ) :=
  np_mkv (by decide +kernel) (Nat.le_of_ble_eq_true rfl) (fun o p e R s m args below meth c Q A ls hf C hQ hat hl => w_f_Arrays_fill2_3 C hQ x1 x2 x3 σ _ _ _ hf hat (lv_sub hl [0, 1, 2, 3] rfl))
set_option maxHeartbeats 4000000 in
set_option maxRecDepth 100000 in
theorem w_f_Grammar_dropHand (C : np_Cx gA p R s m args c D np_cl (np_ty cA) A np_al "NotationParse$Grammar" prog_3_method_7_code 1 { frames := 2, cells := 0, slots := 0, locals := 47 }) (hQ : ∀ (pc : Nat) (ls : Array Slot) (H : Heap) (locs : List Loc) {σ : np_S}, decode prog_3_method_7_code pc = .ok (.return_, 1) → some ((0 : Int), σ) = some out → np_At D np_cl A (nc_wd q cA) s σ H locs → W p l e R s m args below meth c H locs 0 0 Q (F0 m pc ls []))   : ∀ (σ : np_S) (H : Heap) (locs : List Loc) (ls : Array Slot), f_Grammar_dropHand  σ = some out → np_At D np_cl A (nc_wd q cA) s σ H locs → lv_has ls 1 [(0, .ref (q 1))] → W p l e R s m args below meth c H locs 0 0 Q (F0 m 0 ls []) := by
  intro σ H locs ls hf hat hl
  unfold f_Grammar_dropHand at hf
  refine lv_aload_n C.x C.b dd_Grammar_dropHand_0 rfl (lv_at hl 0 rfl) ?_
  refine np_get (v := .ref (q 2)) C i_Grammar hat.1 1 (nc_o1 _) rfl 0 (by decide) tw_50 rfl rfl dd_Grammar_dropHand_1 ?_
  refine lv_aload_n C.x C.b dd_Grammar_dropHand_4 rfl (lv_at hl 0 rfl) ?_
  refine np_callVi (As := []) (rest := [.ref (q 2)]) C (c_Grammar_usedDots l _) np_allgood tw_355 tw_356 tw_357 tw_2 tw_358 (nA := 0) (by decide +kernel) rfl ⟨rfl, rfl, Nat.le_of_ble_eq_true rfl, Nat.le_of_ble_eq_true rfl⟩ (va_recv C.k hat.1 (ci := 1) (q0 := 1) rfl (nc_o1 _)) hat rfl hl.1 (Nat.le_of_ble_eq_true rfl) dd_Grammar_dropHand_5 hf (fun o1 H locs hf hat => ?_)
  refine lv_aload_n C.x C.b dd_Grammar_dropHand_8 rfl (lv_at hl 0 rfl) ?_
  refine np_callVi (As := []) (rest := [.int (np_i o1.1), .ref (q 2)]) C (c_Grammar_usedDots l _) np_allgood tw_355 tw_356 tw_357 tw_2 tw_358 (nA := 0) (by decide +kernel) rfl ⟨rfl, rfl, Nat.le_of_ble_eq_true rfl, Nat.le_of_ble_eq_true rfl⟩ (va_recv C.k hat.1 (ci := 1) (q0 := 1) rfl (nc_o1 _)) hat rfl hl.1 (Nat.le_of_ble_eq_true rfl) dd_Grammar_dropHand_9 hf (fun o2 H locs hf hat => ?_)
  refine lv_bipush (v := np_i 7) C.x C.b dd_Grammar_dropHand_12 (by decide +kernel) ?_
  refine np_iadd C dd_Grammar_dropHand_14 ?_
  refine lv_iconst (v := np_i (-1)) C.x C.b dd_Grammar_dropHand_15 rfl ?_
  refine np_callSv (As := [.ref (q 2), .int (np_i o1.1), .int (np_i (o2.1 + 7)), .int (np_i ((-1)))]) (rest := []) C (c_Arrays_fill_2 l o1.1 (o2.1 + 7) ((-1)) _) np_allgood tw_491 tw_492 tw_3 tw_493 (nA := 4) (by decide +kernel) rfl ⟨rfl, rfl, Nat.le_of_ble_eq_true rfl, Nat.le_of_ble_eq_true rfl⟩ hat rfl hl.1 (Nat.le_of_ble_eq_true rfl) dd_Grammar_dropHand_16 hf (fun o3 H locs hf hat => ?_)
  refine lv_aload_n C.x C.b dd_Grammar_dropHand_19 rfl (lv_at hl 0 rfl) ?_
  refine np_get (v := .ref (q 3)) C i_Grammar hat.1 1 (nc_o1 _) rfl 1 (by decide) tw_53 rfl rfl dd_Grammar_dropHand_20 ?_
  refine lv_aload_n C.x C.b dd_Grammar_dropHand_23 rfl (lv_at hl 0 rfl) ?_
  refine np_callVi (As := []) (rest := [.ref (q 3)]) C (c_Grammar_usedDots l _) np_allgood tw_355 tw_356 tw_357 tw_2 tw_358 (nA := 0) (by decide +kernel) rfl ⟨rfl, rfl, Nat.le_of_ble_eq_true rfl, Nat.le_of_ble_eq_true rfl⟩ (va_recv C.k hat.1 (ci := 1) (q0 := 1) rfl (nc_o1 _)) hat rfl hl.1 (Nat.le_of_ble_eq_true rfl) dd_Grammar_dropHand_24 hf (fun o4 H locs hf hat => ?_)
  refine lv_aload_n C.x C.b dd_Grammar_dropHand_27 rfl (lv_at hl 0 rfl) ?_
  refine np_callVi (As := []) (rest := [.int (np_i o4.1), .ref (q 3)]) C (c_Grammar_usedDots l _) np_allgood tw_355 tw_356 tw_357 tw_2 tw_358 (nA := 0) (by decide +kernel) rfl ⟨rfl, rfl, Nat.le_of_ble_eq_true rfl, Nat.le_of_ble_eq_true rfl⟩ (va_recv C.k hat.1 (ci := 1) (q0 := 1) rfl (nc_o1 _)) hat rfl hl.1 (Nat.le_of_ble_eq_true rfl) dd_Grammar_dropHand_28 hf (fun o5 H locs hf hat => ?_)
  refine lv_bipush (v := np_i 7) C.x C.b dd_Grammar_dropHand_31 (by decide +kernel) ?_
  refine np_iadd C dd_Grammar_dropHand_33 ?_
  refine np_ldc2 (v := (-1)) C tw_44 dd_Grammar_dropHand_34 ?_
  refine np_callSv (As := [.ref (q 3), .int (np_i o4.1), .int (np_i (o5.1 + 7)), .long (np_l ((-1)))]) (rest := []) C (c_Arrays_fill2_3 l o4.1 (o5.1 + 7) ((-1)) _) np_allgood tw_703 tw_704 tw_3 tw_705 (nA := 4) (by decide +kernel) rfl ⟨rfl, rfl, Nat.le_of_ble_eq_true rfl, Nat.le_of_ble_eq_true rfl⟩ hat rfl hl.1 (Nat.le_of_ble_eq_true rfl) dd_Grammar_dropHand_37 hf (fun o6 H locs hf hat => ?_)
  refine lv_aload_n C.x C.b dd_Grammar_dropHand_40 rfl (lv_at hl 0 rfl) ?_
  refine lv_iconst (v := np_i 0) C.x C.b dd_Grammar_dropHand_41 rfl ?_
  refine np_put C i_Grammar t_Grammar tok_Grammar n_Grammar hat 1 (nc_o1 _) rfl 5 (by decide) tw_62 rfl rfl (by decide +kernel) (np_narI 0) (np_fitI 0) (Nat.le_of_ble_eq_true rfl) (nc_s1_5 _ _) dd_Grammar_dropHand_42 (fun H locs hat => ?_)
  exact hQ _ _ _ _ dd_Grammar_dropHand_45 hf hat
set_option maxHeartbeats 4000000 in
set_option maxRecDepth 100000 in
theorem c_Grammar_dropHand (l : Launch) {gA : Nat → Nat} {D : va_G} {q : Nat → Nat} {cA : Nat → ClassId} (σ : np_S) : np_Mv gA l D np_cl (np_ty cA) (nc_wd q cA) yy_Grammar_dropHand (.code yy_Grammar_dropHand prog_3_method_7_code 1 none :: np_al) { frames := 2, cells := 0, slots := 0, locals := 47 } [.ref (q 1)] σ (f_Grammar_dropHand  σ) :=
  np_mkv (by decide +kernel) (Nat.le_of_ble_eq_true rfl) (fun o p e R s m args below meth c Q A ls hf C hQ hat hl => w_f_Grammar_dropHand C hQ  σ _ _ _ hf hat (lv_sub hl [0] rfl))
set_option maxHeartbeats 4000000 in
set_option maxRecDepth 100000 in
theorem w_f_Grammar_handHasWord_2 (C : np_Cx gA p R s m args c D np_cl (np_ty cA) A np_al "NotationParse$Grammar" prog_3_method_5_code 2 { frames := 1, cells := 0, slots := 0, locals := 20 }) (hQ : ∀ (pc : Nat) (ls : Array Slot) (H : Heap) (locs : List Loc) (v : Int) {σ : np_S}, decode prog_3_method_5_code pc = .ok (.ireturn, 1) → np_ck (v = 0 ∨ v = 1) (some (v, σ)) = some out → np_At D np_cl A (nc_wd q cA) s σ H locs → W p l e R s m args below meth c H locs 0 0 Q (F0 m pc ls [.int (np_i v)]))   : ∀ (n : Nat), ∀ (x1 : Int) (σ : np_S) (H : Heap) (locs : List Loc) (ls : Array Slot), f_Grammar_handHasWord_2  n x1 σ = some out → np_At D np_cl A (nc_wd q cA) s σ H locs → lv_has ls 2 [(0, .ref (q 1)), (1, .int (np_i x1))] → W p l e R s m args below meth c H locs 0 0 Q (F0 m 2 ls []) := by
  intro n
  induction n with
  | zero => intro x1 σ H locs ls hf; cases hf
  | succ n ih =>
    intro x1 σ H locs ls hf hat hl
    have h2 := ih
    have hf : f_Grammar_handHasWord_2_b  (fun x1 σ => f_Grammar_handHasWord_2  n x1 σ) x1 σ = some out := hf
    unfold f_Grammar_handHasWord_2_b at hf
    refine lv_iload_n C.x C.b dd_Grammar_handHasWord_2 rfl (lv_at hl 1 rfl) ?_
    refine lv_aload_n C.x C.b dd_Grammar_handHasWord_3 rfl (lv_at hl 0 rfl) ?_
    refine np_get (v := .int (np_i (σ 1 5))) C i_Grammar hat.1 1 (nc_o1 _) rfl 5 (by decide) tw_62 rfl rfl dd_Grammar_handHasWord_4 ?_
    refine np_icmp_ge (tgt := 36) C dd_Grammar_handHasWord_7 (by decide) hf (fun _ hf => ?_) (fun _ hf => ?_)
    · refine lv_iconst (v := np_i 0) C.x C.b dd_Grammar_handHasWord_36 rfl ?_
      exact hQ _ _ _ _ _ dd_Grammar_handHasWord_37 hf hat
    · refine lv_aload_n C.x C.b dd_Grammar_handHasWord_10 rfl (lv_at hl 0 rfl) ?_
      refine np_get (v := .ref (q 3)) C i_Grammar hat.1 1 (nc_o1 _) rfl 1 (by decide) tw_53 rfl rfl dd_Grammar_handHasWord_11 ?_
      refine lv_aload_n C.x C.b dd_Grammar_handHasWord_14 rfl (lv_at hl 0 rfl) ?_
      refine np_callVi (As := []) (rest := [.ref (q 3)]) C (c_Grammar_usedDots l _) np_allgood tw_355 tw_356 tw_357 tw_2 tw_358 (nA := 0) (by decide +kernel) rfl ⟨rfl, rfl, Nat.le_of_ble_eq_true rfl, Nat.le_of_ble_eq_true rfl⟩ (va_recv C.k hat.1 (ci := 1) (q0 := 1) rfl (nc_o1 _)) hat rfl hl.1 (Nat.le_of_ble_eq_true rfl) dd_Grammar_handHasWord_15 hf (fun o1 H locs hf hat => ?_)
      refine lv_iload_n C.x C.b dd_Grammar_handHasWord_18 rfl (lv_at hl 1 rfl) ?_
      refine np_iadd C dd_Grammar_handHasWord_19 ?_
      refine np_laload C hat.1 3 (nc_a3 _) 1 rfl (by decide) dd_Grammar_handHasWord_20 hf (fun hf => ?_)
      refine np_ldc2 (v := (-1)) C tw_44 dd_Grammar_handHasWord_21 ?_
      refine np_lcmp C dd_Grammar_handHasWord_24 hf (fun hf => ?_)
      refine np_if_eq (tgt := 30) C dd_Grammar_handHasWord_25 (by decide) hf (fun _ hf => ?_) (fun _ hf => ?_)
      · refine lv_iinc (v := np_i (x1 + 1)) (lv' := [(1, .int (np_i (x1 + 1))), (0, .ref (q 1))]) C.x C.b dd_Grammar_handHasWord_30 hl (k := 1) rfl (np_inc _ _) (by decide) rfl (fun ls hl => ?_)
        refine lv_goto (tgt := 2) C.x C.b dd_Grammar_handHasWord_33 (by decide) ?_
        exact h2 _ _ _ _ _ hf hat (lv_sub hl [1, 0] rfl)
      · refine lv_iconst (v := np_i 1) C.x C.b dd_Grammar_handHasWord_28 rfl ?_
        exact hQ _ _ _ _ _ dd_Grammar_handHasWord_29 hf hat
set_option maxHeartbeats 4000000 in
set_option maxRecDepth 100000 in
theorem w_f_Grammar_handHasWord (C : np_Cx gA p R s m args c D np_cl (np_ty cA) A np_al "NotationParse$Grammar" prog_3_method_5_code 2 { frames := 1, cells := 0, slots := 0, locals := 20 }) (hQ : ∀ (pc : Nat) (ls : Array Slot) (H : Heap) (locs : List Loc) (v : Int) {σ : np_S}, decode prog_3_method_5_code pc = .ok (.ireturn, 1) → np_ck (v = 0 ∨ v = 1) (some (v, σ)) = some out → np_At D np_cl A (nc_wd q cA) s σ H locs → W p l e R s m args below meth c H locs 0 0 Q (F0 m pc ls [.int (np_i v)]))   : ∀ (σ : np_S) (H : Heap) (locs : List Loc) (ls : Array Slot), f_Grammar_handHasWord  σ = some out → np_At D np_cl A (nc_wd q cA) s σ H locs → lv_has ls 2 [(0, .ref (q 1))] → W p l e R s m args below meth c H locs 0 0 Q (F0 m 0 ls []) := by
  intro σ H locs ls hf hat hl
  unfold f_Grammar_handHasWord at hf
  refine lv_iconst (v := np_i 0) C.x C.b dd_Grammar_handHasWord_0 rfl ?_
  refine lv_istore_n (lv' := [(1, .int (np_i 0)), (0, .ref (q 1))]) C.x C.b dd_Grammar_handHasWord_1 rfl hl (by decide) rfl (fun ls hl => ?_)
  exact w_f_Grammar_handHasWord_2 C hQ  20000 _ _ _ _ _ hf hat (lv_sub hl [1, 0] rfl)
set_option maxHeartbeats 4000000 in
set_option maxRecDepth 100000 in
theorem c_Grammar_handHasWord (l : Launch) {gA : Nat → Nat} {D : va_G} {q : Nat → Nat} {cA : Nat → ClassId} (σ : np_S) : np_Mi gA l D np_cl (np_ty cA) (nc_wd q cA) yy_Grammar_handHasWord (.code yy_Grammar_handHasWord prog_3_method_5_code 2 (some .boolean) :: np_al) { frames := 1, cells := 0, slots := 0, locals := 20 } [.ref (q 1)] σ (f_Grammar_handHasWord  σ) :=
  np_mkz (by decide +kernel) (Nat.le_of_ble_eq_true rfl) (fun o p e R s m args below meth c Q A ls hf C hQ hat hl => w_f_Grammar_handHasWord C hQ  σ _ _ _ hf hat (lv_sub hl [0] rfl))
set_option maxHeartbeats 4000000 in
set_option maxRecDepth 100000 in
theorem w_f_Tree_fell (C : np_Cx gA p R s m args c D np_cl (np_ty cA) A np_al "NotationParse$Tree" prog_7_method_2_code 1 { frames := 0, cells := 0, slots := 0, locals := 0 }) (hQ : ∀ (pc : Nat) (ls : Array Slot) (H : Heap) (locs : List Loc) {σ : np_S}, decode prog_7_method_2_code pc = .ok (.return_, 1) → some ((0 : Int), σ) = some out → np_At D np_cl A (nc_wd q cA) s σ H locs → W p l e R s m args below meth c H locs 0 0 Q (F0 m pc ls []))   : ∀ (σ : np_S) (H : Heap) (locs : List Loc) (ls : Array Slot), f_Tree_fell  σ = some out → np_At D np_cl A (nc_wd q cA) s σ H locs → lv_has ls 1 [(0, .ref (q 15))] → W p l e R s m args below meth c H locs 0 0 Q (F0 m 0 ls []) := by
  intro σ H locs ls hf hat hl
  unfold f_Tree_fell at hf
  refine lv_aload_n C.x C.b dd_Tree_fell_0 rfl (lv_at hl 0 rfl) ?_
  refine lv_iconst (v := np_i 0) C.x C.b dd_Tree_fell_1 rfl ?_
  refine np_put C i_Tree t_Tree tok_Tree n_Tree hat 15 (nc_o15 _) rfl 2 (by decide) tw_142 rfl rfl (by decide +kernel) (np_narI 0) (np_fitI 0) (Nat.le_of_ble_eq_true rfl) (nc_s15_2 _ _) dd_Tree_fell_2 (fun H locs hat => ?_)
  exact hQ _ _ _ _ dd_Tree_fell_5 hf hat
set_option maxHeartbeats 4000000 in
set_option maxRecDepth 100000 in
theorem c_Tree_fell (l : Launch) {gA : Nat → Nat} {D : va_G} {q : Nat → Nat} {cA : Nat → ClassId} (σ : np_S) : np_Mv gA l D np_cl (np_ty cA) (nc_wd q cA) yy_Tree_fell (.code yy_Tree_fell prog_7_method_2_code 1 none :: np_al) { frames := 0, cells := 0, slots := 0, locals := 0 } [.ref (q 15)] σ (f_Tree_fell  σ) :=
  np_mkv (by decide +kernel) (Nat.le_of_ble_eq_true rfl) (fun o p e R s m args below meth c Q A ls hf C hQ hat hl => w_f_Tree_fell C hQ  σ _ _ _ hf hat (lv_sub hl [0] rfl))
set_option maxHeartbeats 4000000 in
set_option maxRecDepth 100000 in
theorem w_f_Grammar_makeRule (C : np_Cx gA p R s m args c D np_cl (np_ty cA) A np_al "NotationParse$Grammar" prog_3_method_8_code 3 { frames := 0, cells := 0, slots := 0, locals := 0 }) (hQ : ∀ (pc : Nat) (ls : Array Slot) (H : Heap) (locs : List Loc) (v : Int) {σ : np_S}, decode prog_3_method_8_code pc = .ok (.ireturn, 1) → some (v, σ) = some out → np_At D np_cl A (nc_wd q cA) s σ H locs → W p l e R s m args below meth c H locs 0 0 Q (F0 m pc ls [.int (np_i v)]))   : ∀ (x1 : Int) (σ : np_S) (H : Heap) (locs : List Loc) (ls : Array Slot), f_Grammar_makeRule  x1 σ = some out → np_At D np_cl A (nc_wd q cA) s σ H locs → lv_has ls 3 [(0, .ref (q 1)), (1, .int (np_i x1))] → W p l e R s m args below meth c H locs 0 0 Q (F0 m 0 ls []) := by
  intro x1 σ H locs ls hf hat hl
  unfold f_Grammar_makeRule at hf
  refine lv_aload_n C.x C.b dd_Grammar_makeRule_0 rfl (lv_at hl 0 rfl) ?_
  refine np_get (v := .int (np_i (σ 1 4))) C i_Grammar hat.1 1 (nc_o1 _) rfl 4 (by decide) tw_59 rfl rfl dd_Grammar_makeRule_1 ?_
  refine lv_istore_n (lv' := [(2, .int (np_i (σ 1 4))), (0, .ref (q 1)), (1, .int (np_i x1))]) C.x C.b dd_Grammar_makeRule_4 rfl hl (by decide) rfl (fun ls hl => ?_)
  refine lv_aload_n C.x C.b dd_Grammar_makeRule_5 rfl (lv_at hl 1 rfl) ?_
  refine np_get (v := .ref (q 4)) C i_Grammar hat.1 1 (nc_o1 _) rfl 2 (by decide) tw_55 rfl rfl dd_Grammar_makeRule_6 ?_
  refine lv_iload_n C.x C.b dd_Grammar_makeRule_9 rfl (lv_at hl 0 rfl) ?_
  refine lv_iload_n C.x C.b dd_Grammar_makeRule_10 rfl (lv_at hl 2 rfl) ?_
  refine np_iastore C hat 4 (nc_a4 _) 0 rfl (by decide) (nc_s4 _ _ _) dd_Grammar_makeRule_11 hf (fun H locs hat hf => ?_)
  refine lv_aload_n C.x C.b dd_Grammar_makeRule_12 rfl (lv_at hl 1 rfl) ?_
  refine np_get (v := .ref (q 5)) C i_Grammar hat.1 1 (nc_o1 _) rfl 3 (by decide) tw_58 rfl rfl dd_Grammar_makeRule_13 ?_
  refine lv_iload_n C.x C.b dd_Grammar_makeRule_16 rfl (lv_at hl 0 rfl) ?_
  refine lv_aload_n C.x C.b dd_Grammar_makeRule_17 rfl (lv_at hl 1 rfl) ?_
  refine np_get (v := .int (np_i ((np_st σ 4 (σ 1 4) x1) 1 5))) C i_Grammar hat.1 1 (nc_o1 _) rfl 5 (by decide) tw_62 rfl rfl dd_Grammar_makeRule_18 ?_
  refine np_iastore C hat 5 (nc_a5 _) 0 rfl (by decide) (nc_s5 _ _ _) dd_Grammar_makeRule_21 hf (fun H locs hat hf => ?_)
  refine lv_aload_n C.x C.b dd_Grammar_makeRule_22 rfl (lv_at hl 1 rfl) ?_
  refine lv_dup C.x C.b dd_Grammar_makeRule_23 rfl ?_
  refine np_get (v := .int (np_i ((np_st (np_st σ 4 (σ 1 4) x1) 5 (σ 1 4) ((np_st σ 4 (σ 1 4) x1) 1 5)) 1 4))) C i_Grammar hat.1 1 (nc_o1 _) rfl 4 (by decide) tw_59 rfl rfl dd_Grammar_makeRule_24 ?_
  refine lv_iconst (v := np_i 1) C.x C.b dd_Grammar_makeRule_27 rfl ?_
  refine np_iadd C dd_Grammar_makeRule_28 ?_
  refine np_put C i_Grammar t_Grammar tok_Grammar n_Grammar hat 1 (nc_o1 _) rfl 4 (by decide) tw_59 rfl rfl (by decide +kernel) (np_narI (((np_st (np_st σ 4 (σ 1 4) x1) 5 (σ 1 4) ((np_st σ 4 (σ 1 4) x1) 1 5)) 1 4) + 1)) (np_fitI (((np_st (np_st σ 4 (σ 1 4) x1) 5 (σ 1 4) ((np_st σ 4 (σ 1 4) x1) 1 5)) 1 4) + 1)) (Nat.le_of_ble_eq_true rfl) (nc_s1_4 _ _) dd_Grammar_makeRule_29 (fun H locs hat => ?_)
  refine lv_aload_n C.x C.b dd_Grammar_makeRule_32 rfl (lv_at hl 1 rfl) ?_
  refine lv_iconst (v := np_i 0) C.x C.b dd_Grammar_makeRule_33 rfl ?_
  refine np_put C i_Grammar t_Grammar tok_Grammar n_Grammar hat 1 (nc_o1 _) rfl 5 (by decide) tw_62 rfl rfl (by decide +kernel) (np_narI 0) (np_fitI 0) (Nat.le_of_ble_eq_true rfl) (nc_s1_5 _ _) dd_Grammar_makeRule_34 (fun H locs hat => ?_)
  refine lv_iload_n C.x C.b dd_Grammar_makeRule_37 rfl (lv_at hl 0 rfl) ?_
  exact hQ _ _ _ _ _ dd_Grammar_makeRule_38 hf hat
set_option maxHeartbeats 4000000 in
set_option maxRecDepth 100000 in
theorem c_Grammar_makeRule (l : Launch) {gA : Nat → Nat} {D : va_G} {q : Nat → Nat} {cA : Nat → ClassId} (x1 : Int) (σ : np_S) : np_Mi gA l D np_cl (np_ty cA) (nc_wd q cA) yy_Grammar_makeRule (.code yy_Grammar_makeRule prog_3_method_8_code 3 (some .int) :: np_al) { frames := 0, cells := 0, slots := 0, locals := 0 } [.ref (q 1), .int (np_i x1)] σ (f_Grammar_makeRule x1 σ) :=
  np_mki (by decide +kernel) (Nat.le_of_ble_eq_true rfl) (fun o p e R s m args below meth c Q A ls hf C hQ hat hl => w_f_Grammar_makeRule C hQ x1 σ _ _ _ hf hat (lv_sub hl [0, 1] rfl))
set_option maxHeartbeats 4000000 in
set_option maxRecDepth 100000 in
theorem w_f_Text_append_5 (C : np_Cx gA p R s m args c D np_cl (np_ty cA) A np_al "NotationParse$Text" prog_6_method_2_code 5 { frames := 1, cells := 0, slots := 0, locals := 22 }) (hQ : ∀ (pc : Nat) (ls : Array Slot) (H : Heap) (locs : List Loc) {σ : np_S}, decode prog_6_method_2_code pc = .ok (.return_, 1) → some ((0 : Int), σ) = some out → np_At D np_cl A (nc_wd q cA) s σ H locs → W p l e R s m args below meth c H locs 0 0 Q (F0 m pc ls []))   : ∀ (n : Nat), ∀ (x1 x4 : Int) (σ : np_S) (H : Heap) (locs : List Loc) (ls : Array Slot), f_Text_append_5  n x1 x4 σ = some out → np_At D np_cl A (nc_wd q cA) s σ H locs → lv_has ls 5 [(0, .ref (q 6)), (1, .long (np_l x1)), (4, .int (np_i x4))] → W p l e R s m args below meth c H locs 0 0 Q (F0 m 5 ls []) := by
  intro n
  induction n with
  | zero => intro x1 x4 σ H locs ls hf; cases hf
  | succ n ih =>
    intro x1 x4 σ H locs ls hf hat hl
    have h5 := ih
    have hf : f_Text_append_5_b  (fun x1 x4 σ => f_Text_append_5  n x1 x4 σ) x1 x4 σ = some out := hf
    unfold f_Text_append_5_b at hf
    refine lv_iload C.x C.b dd_Text_append_5 (lv_at hl 2 rfl) ?_
    refine np_if_lt (tgt := 42) C dd_Text_append_7 (by decide) hf (fun _ hf => ?_) (fun _ hf => ?_)
    · exact hQ _ _ _ _ dd_Text_append_42 hf hat
    · refine lv_aload_n C.x C.b dd_Text_append_10 rfl (lv_at hl 0 rfl) ?_
      refine np_get (v := .ref (q 7)) C i_Text hat.1 6 (nc_o6 _) rfl 0 (by decide) tw_85 rfl rfl dd_Text_append_11 ?_
      refine lv_aload_n C.x C.b dd_Text_append_14 rfl (lv_at hl 0 rfl) ?_
      refine np_get (v := .int (np_i (σ 6 1))) C i_Text hat.1 6 (nc_o6 _) rfl 1 (by decide) tw_86 rfl rfl dd_Text_append_15 ?_
      refine lv_lload_n C.x C.b dd_Text_append_18 rfl (lv_at hl 1 rfl) ?_
      refine lv_iload C.x C.b dd_Text_append_19 (lv_at hl 2 rfl) ?_
      refine np_callSi (As := [.long (np_l x1), .int (np_i x4)]) (rest := [.int (np_i (σ 6 1)), .ref (q 7)]) C (c_Spelling_byteOf l x1 x4 _) np_allgood tw_234 tw_235 tw_14 tw_236 (nA := 2) (by decide +kernel) rfl ⟨rfl, rfl, Nat.le_of_ble_eq_true rfl, Nat.le_of_ble_eq_true rfl⟩ hat rfl hl.1 (Nat.le_of_ble_eq_true rfl) dd_Text_append_21 hf (fun o1 H locs hf hat => ?_)
      refine np_i2b C dd_Text_append_24 ?_
      refine np_bastore C hat 7 (nc_a7 _) 2 rfl (by decide) (nc_s7 _ _ _) dd_Text_append_25 hf (fun H locs hat hf => ?_)
      refine lv_aload_n C.x C.b dd_Text_append_26 rfl (lv_at hl 0 rfl) ?_
      refine lv_dup C.x C.b dd_Text_append_27 rfl ?_
      refine np_get (v := .int (np_i ((np_st o1.2 7 (σ 6 1) (Int.bmod (Int.bmod o1.1 256) 256)) 6 1))) C i_Text hat.1 6 (nc_o6 _) rfl 1 (by decide) tw_86 rfl rfl dd_Text_append_28 ?_
      refine lv_iconst (v := np_i 1) C.x C.b dd_Text_append_31 rfl ?_
      refine np_iadd C dd_Text_append_32 ?_
      refine np_put C i_Text t_Text tok_Text n_Text hat 6 (nc_o6 _) rfl 1 (by decide) tw_86 rfl rfl (by decide +kernel) (np_narI (((np_st o1.2 7 (σ 6 1) (Int.bmod (Int.bmod o1.1 256) 256)) 6 1) + 1)) (np_fitI (((np_st o1.2 7 (σ 6 1) (Int.bmod (Int.bmod o1.1 256) 256)) 6 1) + 1)) (Nat.le_of_ble_eq_true rfl) (nc_s6_1 _ _) dd_Text_append_33 (fun H locs hat => ?_)
      refine lv_iinc (v := np_i (x4 + (-1))) (lv' := [(4, .int (np_i (x4 + (-1)))), (0, .ref (q 6)), (1, .long (np_l x1))]) C.x C.b dd_Text_append_36 hl (k := 2) rfl (np_inc _ _) (by decide) rfl (fun ls hl => ?_)
      refine lv_goto (tgt := 5) C.x C.b dd_Text_append_39 (by decide) ?_
      exact h5 _ _ _ _ _ _ hf hat (lv_sub hl [1, 2, 0] rfl)
set_option maxHeartbeats 4000000 in
set_option maxRecDepth 100000 in
theorem w_f_Text_append (C : np_Cx gA p R s m args c D np_cl (np_ty cA) A np_al "NotationParse$Text" prog_6_method_2_code 5 { frames := 1, cells := 0, slots := 0, locals := 22 }) (hQ : ∀ (pc : Nat) (ls : Array Slot) (H : Heap) (locs : List Loc) {σ : np_S}, decode prog_6_method_2_code pc = .ok (.return_, 1) → some ((0 : Int), σ) = some out → np_At D np_cl A (nc_wd q cA) s σ H locs → W p l e R s m args below meth c H locs 0 0 Q (F0 m pc ls []))   : ∀ (x1 x3 : Int) (σ : np_S) (H : Heap) (locs : List Loc) (ls : Array Slot), f_Text_append  x1 x3 σ = some out → np_At D np_cl A (nc_wd q cA) s σ H locs → lv_has ls 5 [(0, .ref (q 6)), (1, .long (np_l x1)), (3, .int (np_i x3))] → W p l e R s m args below meth c H locs 0 0 Q (F0 m 0 ls []) := by
  intro x1 x3 σ H locs ls hf hat hl
  unfold f_Text_append at hf
  refine lv_iload_n C.x C.b dd_Text_append_0 rfl (lv_at hl 2 rfl) ?_
  refine lv_iconst (v := np_i 1) C.x C.b dd_Text_append_1 rfl ?_
  refine np_isub C dd_Text_append_2 ?_
  refine lv_istore (lv' := [(4, .int (np_i (x3 - 1))), (0, .ref (q 6)), (1, .long (np_l x1)), (3, .int (np_i x3))]) C.x C.b dd_Text_append_3 hl (by decide) rfl (fun ls hl => ?_)
  exact w_f_Text_append_5 C hQ  20000 _ _ _ _ _ _ hf hat (lv_sub hl [1, 2, 0] rfl)
set_option maxHeartbeats 4000000 in
set_option maxRecDepth 100000 in
theorem c_Text_append (l : Launch) {gA : Nat → Nat} {D : va_G} {q : Nat → Nat} {cA : Nat → ClassId} (x1 x3 : Int) (σ : np_S) : np_Mv gA l D np_cl (np_ty cA) (nc_wd q cA) yy_Text_append (.code yy_Text_append prog_6_method_2_code 5 none :: np_al) { frames := 1, cells := 0, slots := 0, locals := 22 } [.ref (q 6), .long (np_l x1), .int (np_i x3)] σ (f_Text_append x1 x3 σ) :=
  np_mkv (by decide +kernel) (Nat.le_of_ble_eq_true rfl) (fun o p e R s m args below meth c Q A ls hf C hQ hat hl => w_f_Text_append C hQ x1 x3 σ _ _ _ hf hat (lv_sub hl [0, 1, 2] rfl))
set_option maxHeartbeats 4000000 in
set_option maxRecDepth 100000 in
theorem w_f_N_put_26 (C : np_Cx gA p R s m args c D np_cl (np_ty cA) A np_al "NotationParse" prog_1_method_5_code 4 { frames := 2, cells := 0, slots := 0, locals := 46 }) (hQ : ∀ (pc : Nat) (ls : Array Slot) (H : Heap) (locs : List Loc) (v : Int) {σ : np_S}, decode prog_1_method_5_code pc = .ok (.ireturn, 1) → np_ck (v = 0 ∨ v = 1) (some (v, σ)) = some out → np_At D np_cl A (nc_wd q cA) s σ H locs → W p l e R s m args below meth c H locs 0 0 Q (F0 m pc ls [.int (np_i v)]))   : ∀ (σ : np_S) (H : Heap) (locs : List Loc) (ls : Array Slot), f_N_put_26  σ = some out → np_At D np_cl A (nc_wd q cA) s σ H locs → lv_has ls 4 [] → W p l e R s m args below meth c H locs 0 0 Q (F0 m 26 ls []) := by
  intro σ H locs ls hf hat hl
  unfold f_N_put_26 at hf
  refine lv_iconst (v := np_i 0) C.x C.b dd_N_put_26 rfl ?_
  exact hQ _ _ _ _ _ dd_N_put_27 hf hat
set_option maxHeartbeats 4000000 in
set_option maxRecDepth 100000 in
theorem w_f_N_put (C : np_Cx gA p R s m args c D np_cl (np_ty cA) A np_al "NotationParse" prog_1_method_5_code 4 { frames := 2, cells := 0, slots := 0, locals := 46 }) (hQ : ∀ (pc : Nat) (ls : Array Slot) (H : Heap) (locs : List Loc) (v : Int) {σ : np_S}, decode prog_1_method_5_code pc = .ok (.ireturn, 1) → np_ck (v = 0 ∨ v = 1) (some (v, σ)) = some out → np_At D np_cl A (nc_wd q cA) s σ H locs → W p l e R s m args below meth c H locs 0 0 Q (F0 m pc ls [.int (np_i v)]))   : ∀ (x1 x3 : Int) (σ : np_S) (H : Heap) (locs : List Loc) (ls : Array Slot), f_N_put  x1 x3 σ = some out → np_At D np_cl A (nc_wd q cA) s σ H locs → lv_has ls 4 [(0, .ref (q 0)), (1, .long (np_l x1)), (3, .int (np_i x3))] → W p l e R s m args below meth c H locs 0 0 Q (F0 m 0 ls []) := by
  intro x1 x3 σ H locs ls hf hat hl
  unfold f_N_put at hf
  refine lv_iload_n C.x C.b dd_N_put_0 rfl (lv_at hl 2 rfl) ?_
  refine lv_iconst (v := np_i 1) C.x C.b dd_N_put_1 rfl ?_
  refine np_icmp_lt (tgt := 26) C dd_N_put_2 (by decide) hf (fun _ hf => ?_) (fun _ hf => ?_)
  · exact w_f_N_put_26 C hQ   _ _ _ _ hf hat (lv_sub hl [] rfl)
  · refine lv_iload_n C.x C.b dd_N_put_5 rfl (lv_at hl 2 rfl) ?_
    refine lv_bipush (v := np_i 8) C.x C.b dd_N_put_6 (by decide +kernel) ?_
    refine np_icmp_gt (tgt := 26) C dd_N_put_8 (by decide) hf (fun _ hf => ?_) (fun _ hf => ?_)
    · exact w_f_N_put_26 C hQ   _ _ _ _ hf hat (lv_sub hl [] rfl)
    · refine lv_iload_n C.x C.b dd_N_put_11 rfl (lv_at hl 2 rfl) ?_
      refine lv_sipush (v := np_i 200) C.x C.b dd_N_put_12 (by decide +kernel) ?_
      refine lv_aload_n C.x C.b dd_N_put_15 rfl (lv_at hl 0 rfl) ?_
      refine np_get (v := .ref (q 6)) C i_N hat.1 0 (nc_o0 _) rfl 1 (by decide) tw_205 rfl rfl dd_N_put_16 ?_
      refine np_get (v := .int (np_i (σ 6 1))) C i_Text hat.1 6 (nc_o6 _) rfl 1 (by decide) tw_87 rfl rfl dd_N_put_19 ?_
      refine np_isub C dd_N_put_22 ?_
      refine np_icmp_le (tgt := 28) C dd_N_put_23 (by decide) hf (fun _ hf => ?_) (fun _ hf => ?_)
      · refine lv_aload_n C.x C.b dd_N_put_28 rfl (lv_at hl 0 rfl) ?_
        refine np_get (v := .ref (q 6)) C i_N hat.1 0 (nc_o0 _) rfl 1 (by decide) tw_205 rfl rfl dd_N_put_29 ?_
        refine lv_lload_n C.x C.b dd_N_put_32 rfl (lv_at hl 1 rfl) ?_
        refine lv_iload_n C.x C.b dd_N_put_33 rfl (lv_at hl 2 rfl) ?_
        refine np_callVv (As := [.long (np_l x1), .int (np_i x3)]) (rest := []) C (c_Text_append l x1 x3 _) np_allgood tw_230 tw_231 tw_232 tw_4 tw_233 (nA := 2) (by decide +kernel) rfl ⟨rfl, rfl, Nat.le_of_ble_eq_true rfl, Nat.le_of_ble_eq_true rfl⟩ (va_recv C.k hat.1 (ci := 2) (q0 := 6) rfl (nc_o6 _)) hat rfl hl.1 (Nat.le_of_ble_eq_true rfl) dd_N_put_34 hf (fun o1 H locs hf hat => ?_)
        refine lv_iconst (v := np_i 1) C.x C.b dd_N_put_37 rfl ?_
        exact hQ _ _ _ _ _ dd_N_put_38 hf hat
      · exact w_f_N_put_26 C hQ   _ _ _ _ hf hat (lv_sub hl [] rfl)
set_option maxHeartbeats 4000000 in
set_option maxRecDepth 100000 in
theorem c_N_put (l : Launch) {gA : Nat → Nat} {D : va_G} {q : Nat → Nat} {cA : Nat → ClassId} (x1 x3 : Int) (σ : np_S) : np_Mi gA l D np_cl (np_ty cA) (nc_wd q cA) yy_N_put (.code yy_N_put prog_1_method_5_code 4 (some .boolean) :: np_al) { frames := 2, cells := 0, slots := 0, locals := 46 } [.ref (q 0), .long (np_l x1), .int (np_i x3)] σ (f_N_put x1 x3 σ) :=
  np_mkz (by decide +kernel) (Nat.le_of_ble_eq_true rfl) (fun o p e R s m args below meth c Q A ls hf C hQ hat hl => w_f_N_put C hQ x1 x3 σ _ _ _ hf hat (lv_sub hl [0, 1, 2] rfl))
set_option maxHeartbeats 4000000 in
set_option maxRecDepth 100000 in
theorem w_f_N_clear (C : np_Cx gA p R s m args c D np_cl (np_ty cA) A np_al "NotationParse" prog_1_method_6_code 1 { frames := 0, cells := 0, slots := 0, locals := 0 }) (hQ : ∀ (pc : Nat) (ls : Array Slot) (H : Heap) (locs : List Loc) {σ : np_S}, decode prog_1_method_6_code pc = .ok (.return_, 1) → some ((0 : Int), σ) = some out → np_At D np_cl A (nc_wd q cA) s σ H locs → W p l e R s m args below meth c H locs 0 0 Q (F0 m pc ls []))   : ∀ (σ : np_S) (H : Heap) (locs : List Loc) (ls : Array Slot), f_N_clear  σ = some out → np_At D np_cl A (nc_wd q cA) s σ H locs → lv_has ls 1 [(0, .ref (q 0))] → W p l e R s m args below meth c H locs 0 0 Q (F0 m 0 ls []) := by
  intro σ H locs ls hf hat hl
  unfold f_N_clear at hf
  refine lv_aload_n C.x C.b dd_N_clear_0 rfl (lv_at hl 0 rfl) ?_
  refine np_get (v := .ref (q 6)) C i_N hat.1 0 (nc_o0 _) rfl 1 (by decide) tw_205 rfl rfl dd_N_clear_1 ?_
  refine lv_iconst (v := np_i 0) C.x C.b dd_N_clear_4 rfl ?_
  refine np_put C i_Text t_Text tok_Text n_Text hat 6 (nc_o6 _) rfl 1 (by decide) tw_87 rfl rfl (by decide +kernel) (np_narI 0) (np_fitI 0) (Nat.le_of_ble_eq_true rfl) (nc_s6_1 _ _) dd_N_clear_5 (fun H locs hat => ?_)
  exact hQ _ _ _ _ dd_N_clear_8 hf hat
set_option maxHeartbeats 4000000 in
set_option maxRecDepth 100000 in
theorem c_N_clear (l : Launch) {gA : Nat → Nat} {D : va_G} {q : Nat → Nat} {cA : Nat → ClassId} (σ : np_S) : np_Mv gA l D np_cl (np_ty cA) (nc_wd q cA) yy_N_clear (.code yy_N_clear prog_1_method_6_code 1 none :: np_al) { frames := 0, cells := 0, slots := 0, locals := 0 } [.ref (q 0)] σ (f_N_clear  σ) :=
  np_mkv (by decide +kernel) (Nat.le_of_ble_eq_true rfl) (fun o p e R s m args below meth c Q A ls hf C hQ hat hl => w_f_N_clear C hQ  σ _ _ _ hf hat (lv_sub hl [0] rfl))
set_option maxHeartbeats 4000000 in
set_option maxRecDepth 100000 in
theorem w_f_Text_kindAt (C : np_Cx gA p R s m args c D np_cl (np_ty cA) A np_al "NotationParse$Text" prog_6_method_4_code 2 { frames := 5, cells := 0, slots := 0, locals := 111 }) (hQ : ∀ (pc : Nat) (ls : Array Slot) (H : Heap) (locs : List Loc) (v : Int) {σ : np_S}, decode prog_6_method_4_code pc = .ok (.ireturn, 1) → some (v, σ) = some out → np_At D np_cl A (nc_wd q cA) s σ H locs → W p l e R s m args below meth c H locs 0 0 Q (F0 m pc ls [.int (np_i v)]))   : ∀ (x1 : Int) (σ : np_S) (H : Heap) (locs : List Loc) (ls : Array Slot), f_Text_kindAt  x1 σ = some out → np_At D np_cl A (nc_wd q cA) s σ H locs → lv_has ls 2 [(0, .ref (q 6)), (1, .int (np_i x1))] → W p l e R s m args below meth c H locs 0 0 Q (F0 m 0 ls []) := by
  intro x1 σ H locs ls hf hat hl
  unfold f_Text_kindAt at hf
  refine lv_aload_n C.x C.b dd_Text_kindAt_0 rfl (lv_at hl 0 rfl) ?_
  refine np_get (v := .ref (q 7)) C i_Text hat.1 6 (nc_o6 _) rfl 0 (by decide) tw_85 rfl rfl dd_Text_kindAt_1 ?_
  refine lv_iload_n C.x C.b dd_Text_kindAt_4 rfl (lv_at hl 1 rfl) ?_
  refine np_baload C hat.1 7 (nc_a7 _) 2 rfl (by decide) dd_Text_kindAt_5 hf (fun hf => ?_)
  refine lv_sipush (v := np_i 255) C.x C.b dd_Text_kindAt_6 (by decide +kernel) ?_
  refine np_iand C dd_Text_kindAt_9 ?_
  refine np_callSi (As := [.int (np_i (np_andi (σ 7 x1) 255))]) (rest := []) C (c_Spelling_kindOf l (np_andi (σ 7 x1) 255) _) np_allgood tw_731 tw_258 tw_14 tw_259 (nA := 1) (by decide +kernel) rfl ⟨rfl, rfl, Nat.le_of_ble_eq_true rfl, Nat.le_of_ble_eq_true rfl⟩ hat rfl hl.1 (Nat.le_of_ble_eq_true rfl) dd_Text_kindAt_10 hf (fun o1 H locs hf hat => ?_)
  exact hQ _ _ _ _ _ dd_Text_kindAt_13 hf hat
set_option maxHeartbeats 4000000 in
set_option maxRecDepth 100000 in
theorem c_Text_kindAt (l : Launch) {gA : Nat → Nat} {D : va_G} {q : Nat → Nat} {cA : Nat → ClassId} (x1 : Int) (σ : np_S) : np_Mi gA l D np_cl (np_ty cA) (nc_wd q cA) yy_Text_kindAt (.code yy_Text_kindAt prog_6_method_4_code 2 (some .int) :: np_al) { frames := 5, cells := 0, slots := 0, locals := 111 } [.ref (q 6), .int (np_i x1)] σ (f_Text_kindAt x1 σ) :=
  np_mki (by decide +kernel) (Nat.le_of_ble_eq_true rfl) (fun o p e R s m args below meth c Q A ls hf C hQ hat hl => w_f_Text_kindAt C hQ x1 σ _ _ _ hf hat (lv_sub hl [0, 1] rfl))
set_option maxHeartbeats 4000000 in
set_option maxRecDepth 100000 in
theorem w_f_Text_endOfRow_32 (C : np_Cx gA p R s m args c D np_cl (np_ty cA) A np_al "NotationParse$Text" prog_6_method_5_code 4 { frames := 6, cells := 0, slots := 0, locals := 132 }) (hQ : ∀ (pc : Nat) (ls : Array Slot) (H : Heap) (locs : List Loc) (v : Int) {σ : np_S}, decode prog_6_method_5_code pc = .ok (.ireturn, 1) → some (v, σ) = some out → np_At D np_cl A (nc_wd q cA) s σ H locs → W p l e R s m args below meth c H locs 0 0 Q (F0 m pc ls [.int (np_i v)]))   : ∀ (x3 : Int) (σ : np_S) (H : Heap) (locs : List Loc) (ls : Array Slot), f_Text_endOfRow_32  x3 σ = some out → np_At D np_cl A (nc_wd q cA) s σ H locs → lv_has ls 4 [(3, .int (np_i x3))] → W p l e R s m args below meth c H locs 0 0 Q (F0 m 32 ls []) := by
  intro x3 σ H locs ls hf hat hl
  unfold f_Text_endOfRow_32 at hf
  refine lv_iload_n C.x C.b dd_Text_endOfRow_32 rfl (lv_at hl 0 rfl) ?_
  exact hQ _ _ _ _ _ dd_Text_endOfRow_33 hf hat
set_option maxHeartbeats 4000000 in
set_option maxRecDepth 100000 in
theorem w_f_Text_endOfRow_9 (C : np_Cx gA p R s m args c D np_cl (np_ty cA) A np_al "NotationParse$Text" prog_6_method_5_code 4 { frames := 6, cells := 0, slots := 0, locals := 132 }) (hQ : ∀ (pc : Nat) (ls : Array Slot) (H : Heap) (locs : List Loc) (v : Int) {σ : np_S}, decode prog_6_method_5_code pc = .ok (.ireturn, 1) → some (v, σ) = some out → np_At D np_cl A (nc_wd q cA) s σ H locs → W p l e R s m args below meth c H locs 0 0 Q (F0 m pc ls [.int (np_i v)]))   : ∀ (n : Nat), ∀ (x2 x3 : Int) (σ : np_S) (H : Heap) (locs : List Loc) (ls : Array Slot), f_Text_endOfRow_9  n x2 x3 σ = some out → np_At D np_cl A (nc_wd q cA) s σ H locs → lv_has ls 4 [(0, .ref (q 6)), (2, .int (np_i x2)), (3, .int (np_i x3))] → W p l e R s m args below meth c H locs 0 0 Q (F0 m 9 ls []) := by
  intro n
  induction n with
  | zero => intro x2 x3 σ H locs ls hf; cases hf
  | succ n ih =>
    intro x2 x3 σ H locs ls hf hat hl
    have h9 := ih
    have hf : f_Text_endOfRow_9_b  (fun x2 x3 σ => f_Text_endOfRow_9  n x2 x3 σ) x2 x3 σ = some out := hf
    unfold f_Text_endOfRow_9_b at hf
    refine lv_iload_n C.x C.b dd_Text_endOfRow_9 rfl (lv_at hl 2 rfl) ?_
    refine lv_aload_n C.x C.b dd_Text_endOfRow_10 rfl (lv_at hl 0 rfl) ?_
    refine np_get (v := .int (np_i (σ 6 1))) C i_Text hat.1 6 (nc_o6 _) rfl 1 (by decide) tw_86 rfl rfl dd_Text_endOfRow_11 ?_
    refine np_icmp_ge (tgt := 32) C dd_Text_endOfRow_14 (by decide) hf (fun _ hf => ?_) (fun _ hf => ?_)
    · exact w_f_Text_endOfRow_32 C hQ  _ _ _ _ _ hf hat (lv_sub hl [2] rfl)
    · refine lv_aload_n C.x C.b dd_Text_endOfRow_17 rfl (lv_at hl 0 rfl) ?_
      refine lv_iload_n C.x C.b dd_Text_endOfRow_18 rfl (lv_at hl 2 rfl) ?_
      refine np_callVi (As := [.int (np_i x3)]) (rest := []) C (c_Text_kindAt l x3 _) np_allgood tw_727 tw_729 tp_1 tw_4 tw_730 (nA := 1) (by decide +kernel) rfl ⟨rfl, rfl, Nat.le_of_ble_eq_true rfl, Nat.le_of_ble_eq_true rfl⟩ (va_recv C.k hat.1 (ci := 2) (q0 := 6) rfl (nc_o6 _)) hat rfl hl.1 (Nat.le_of_ble_eq_true rfl) dd_Text_endOfRow_19 hf (fun o1 H locs hf hat => ?_)
      refine lv_iload_n C.x C.b dd_Text_endOfRow_22 rfl (lv_at hl 1 rfl) ?_
      refine np_icmp_ne (tgt := 32) C dd_Text_endOfRow_23 (by decide) hf (fun _ hf => ?_) (fun _ hf => ?_)
      · exact w_f_Text_endOfRow_32 C hQ  _ _ _ _ _ hf hat (lv_sub hl [2] rfl)
      · refine lv_iinc (v := np_i (x3 + 1)) (lv' := [(3, .int (np_i (x3 + 1))), (0, .ref (q 6)), (2, .int (np_i x2))]) C.x C.b dd_Text_endOfRow_26 hl (k := 2) rfl (np_inc _ _) (by decide) rfl (fun ls hl => ?_)
        refine lv_goto (tgt := 9) C.x C.b dd_Text_endOfRow_29 (by decide) ?_
        exact h9 _ _ _ _ _ _ hf hat (lv_sub hl [1, 2, 0] rfl)
set_option maxHeartbeats 4000000 in
set_option maxRecDepth 100000 in
theorem w_f_Text_endOfRow (C : np_Cx gA p R s m args c D np_cl (np_ty cA) A np_al "NotationParse$Text" prog_6_method_5_code 4 { frames := 6, cells := 0, slots := 0, locals := 132 }) (hQ : ∀ (pc : Nat) (ls : Array Slot) (H : Heap) (locs : List Loc) (v : Int) {σ : np_S}, decode prog_6_method_5_code pc = .ok (.ireturn, 1) → some (v, σ) = some out → np_At D np_cl A (nc_wd q cA) s σ H locs → W p l e R s m args below meth c H locs 0 0 Q (F0 m pc ls [.int (np_i v)]))   : ∀ (x1 x2 : Int) (σ : np_S) (H : Heap) (locs : List Loc) (ls : Array Slot), f_Text_endOfRow  x1 x2 σ = some out → np_At D np_cl A (nc_wd q cA) s σ H locs → lv_has ls 4 [(0, .ref (q 6)), (1, .int (np_i x1)), (2, .int (np_i x2))] → W p l e R s m args below meth c H locs 0 0 Q (F0 m 0 ls []) := by
  intro x1 x2 σ H locs ls hf hat hl
  unfold f_Text_endOfRow at hf
  refine lv_iload_n C.x C.b dd_Text_endOfRow_0 rfl (lv_at hl 1 rfl) ?_
  refine lv_iconst (v := np_i 1) C.x C.b dd_Text_endOfRow_1 rfl ?_
  refine np_iadd C dd_Text_endOfRow_2 ?_
  refine lv_istore_n (lv' := [(3, .int (np_i (x1 + 1))), (0, .ref (q 6)), (1, .int (np_i x1)), (2, .int (np_i x2))]) C.x C.b dd_Text_endOfRow_3 rfl hl (by decide) rfl (fun ls hl => ?_)
  refine lv_iload_n C.x C.b dd_Text_endOfRow_4 rfl (lv_at hl 3 rfl) ?_
  refine lv_iconst (v := np_i 5) C.x C.b dd_Text_endOfRow_5 rfl ?_
  refine np_icmp_eq (tgt := 32) C dd_Text_endOfRow_6 (by decide) hf (fun _ hf => ?_) (fun _ hf => ?_)
  · exact w_f_Text_endOfRow_32 C hQ  _ _ _ _ _ hf hat (lv_sub hl [0] rfl)
  · exact w_f_Text_endOfRow_9 C hQ  20000 _ _ _ _ _ _ hf hat (lv_sub hl [1, 3, 0] rfl)
set_option maxHeartbeats 4000000 in
set_option maxRecDepth 100000 in
theorem c_Text_endOfRow (l : Launch) {gA : Nat → Nat} {D : va_G} {q : Nat → Nat} {cA : Nat → ClassId} (x1 x2 : Int) (σ : np_S) : np_Mi gA l D np_cl (np_ty cA) (nc_wd q cA) yy_Text_endOfRow (.code yy_Text_endOfRow prog_6_method_5_code 4 (some .int) :: np_al) { frames := 6, cells := 0, slots := 0, locals := 132 } [.ref (q 6), .int (np_i x1), .int (np_i x2)] σ (f_Text_endOfRow x1 x2 σ) :=
  np_mki (by decide +kernel) (Nat.le_of_ble_eq_true rfl) (fun o p e R s m args below meth c Q A ls hf C hQ hat hl => w_f_Text_endOfRow C hQ x1 x2 σ _ _ _ hf hat (lv_sub hl [0, 1, 2] rfl))
set_option maxHeartbeats 4000000 in
set_option maxRecDepth 100000 in
theorem w_f_Grammar_hasKey_3 (C : np_Cx gA p R s m args c D np_cl (np_ty cA) A np_al "NotationParse$Grammar" prog_3_method_9_code 4 { frames := 1, cells := 0, slots := 0, locals := 20 }) (hQ : ∀ (pc : Nat) (ls : Array Slot) (H : Heap) (locs : List Loc) (v : Int) {σ : np_S}, decode prog_3_method_9_code pc = .ok (.ireturn, 1) → np_ck (v = 0 ∨ v = 1) (some (v, σ)) = some out → np_At D np_cl A (nc_wd q cA) s σ H locs → W p l e R s m args below meth c H locs 0 0 Q (F0 m pc ls [.int (np_i v)]))   : ∀ (n : Nat), ∀ (x1 x3 : Int) (σ : np_S) (H : Heap) (locs : List Loc) (ls : Array Slot), f_Grammar_hasKey_3  n x1 x3 σ = some out → np_At D np_cl A (nc_wd q cA) s σ H locs → lv_has ls 4 [(0, .ref (q 1)), (1, .long (np_l x1)), (3, .int (np_i x3))] → W p l e R s m args below meth c H locs 0 0 Q (F0 m 3 ls []) := by
  intro n
  induction n with
  | zero => intro x1 x3 σ H locs ls hf; cases hf
  | succ n ih =>
    intro x1 x3 σ H locs ls hf hat hl
    have h3 := ih
    have hf : f_Grammar_hasKey_3_b  (fun x1 x3 σ => f_Grammar_hasKey_3  n x1 x3 σ) x1 x3 σ = some out := hf
    unfold f_Grammar_hasKey_3_b at hf
    refine lv_iload_n C.x C.b dd_Grammar_hasKey_3 rfl (lv_at hl 2 rfl) ?_
    refine lv_aload_n C.x C.b dd_Grammar_hasKey_4 rfl (lv_at hl 0 rfl) ?_
    refine np_callVi (As := []) (rest := [.int (np_i x3)]) C (c_Grammar_usedDots l _) np_allgood tw_355 tw_356 tw_357 tw_2 tw_358 (nA := 0) (by decide +kernel) rfl ⟨rfl, rfl, Nat.le_of_ble_eq_true rfl, Nat.le_of_ble_eq_true rfl⟩ (va_recv C.k hat.1 (ci := 1) (q0 := 1) rfl (nc_o1 _)) hat rfl hl.1 (Nat.le_of_ble_eq_true rfl) dd_Grammar_hasKey_5 hf (fun o1 H locs hf hat => ?_)
    refine np_icmp_ge (tgt := 30) C dd_Grammar_hasKey_8 (by decide) hf (fun _ hf => ?_) (fun _ hf => ?_)
    · refine lv_iconst (v := np_i 0) C.x C.b dd_Grammar_hasKey_30 rfl ?_
      exact hQ _ _ _ _ _ dd_Grammar_hasKey_31 hf hat
    · refine lv_aload_n C.x C.b dd_Grammar_hasKey_11 rfl (lv_at hl 0 rfl) ?_
      refine np_get (v := .ref (q 3)) C i_Grammar hat.1 1 (nc_o1 _) rfl 1 (by decide) tw_53 rfl rfl dd_Grammar_hasKey_12 ?_
      refine lv_iload_n C.x C.b dd_Grammar_hasKey_15 rfl (lv_at hl 2 rfl) ?_
      refine np_laload C hat.1 3 (nc_a3 _) 1 rfl (by decide) dd_Grammar_hasKey_16 hf (fun hf => ?_)
      refine lv_lload_n C.x C.b dd_Grammar_hasKey_17 rfl (lv_at hl 1 rfl) ?_
      refine np_lcmp C dd_Grammar_hasKey_18 hf (fun hf => ?_)
      refine np_if_ne (tgt := 24) C dd_Grammar_hasKey_19 (by decide) hf (fun _ hf => ?_) (fun _ hf => ?_)
      · refine lv_iinc (v := np_i (x3 + 1)) (lv' := [(3, .int (np_i (x3 + 1))), (0, .ref (q 1)), (1, .long (np_l x1))]) C.x C.b dd_Grammar_hasKey_24 hl (k := 2) rfl (np_inc _ _) (by decide) rfl (fun ls hl => ?_)
        refine lv_goto (tgt := 3) C.x C.b dd_Grammar_hasKey_27 (by decide) ?_
        exact h3 _ _ _ _ _ _ hf hat (lv_sub hl [1, 2, 0] rfl)
      · refine lv_iconst (v := np_i 1) C.x C.b dd_Grammar_hasKey_22 rfl ?_
        exact hQ _ _ _ _ _ dd_Grammar_hasKey_23 hf hat
set_option maxHeartbeats 4000000 in
set_option maxRecDepth 100000 in
theorem w_f_Grammar_hasKey (C : np_Cx gA p R s m args c D np_cl (np_ty cA) A np_al "NotationParse$Grammar" prog_3_method_9_code 4 { frames := 1, cells := 0, slots := 0, locals := 20 }) (hQ : ∀ (pc : Nat) (ls : Array Slot) (H : Heap) (locs : List Loc) (v : Int) {σ : np_S}, decode prog_3_method_9_code pc = .ok (.ireturn, 1) → np_ck (v = 0 ∨ v = 1) (some (v, σ)) = some out → np_At D np_cl A (nc_wd q cA) s σ H locs → W p l e R s m args below meth c H locs 0 0 Q (F0 m pc ls [.int (np_i v)]))   : ∀ (x1 : Int) (σ : np_S) (H : Heap) (locs : List Loc) (ls : Array Slot), f_Grammar_hasKey  x1 σ = some out → np_At D np_cl A (nc_wd q cA) s σ H locs → lv_has ls 4 [(0, .ref (q 1)), (1, .long (np_l x1))] → W p l e R s m args below meth c H locs 0 0 Q (F0 m 0 ls []) := by
  intro x1 σ H locs ls hf hat hl
  unfold f_Grammar_hasKey at hf
  refine lv_bipush (v := np_i 14) C.x C.b dd_Grammar_hasKey_0 (by decide +kernel) ?_
  refine lv_istore_n (lv' := [(3, .int (np_i 14)), (0, .ref (q 1)), (1, .long (np_l x1))]) C.x C.b dd_Grammar_hasKey_2 rfl hl (by decide) rfl (fun ls hl => ?_)
  exact w_f_Grammar_hasKey_3 C hQ  20000 _ _ _ _ _ _ hf hat (lv_sub hl [1, 2, 0] rfl)
set_option maxHeartbeats 4000000 in
set_option maxRecDepth 100000 in
theorem c_Grammar_hasKey (l : Launch) {gA : Nat → Nat} {D : va_G} {q : Nat → Nat} {cA : Nat → ClassId} (x1 : Int) (σ : np_S) : np_Mi gA l D np_cl (np_ty cA) (nc_wd q cA) yy_Grammar_hasKey (.code yy_Grammar_hasKey prog_3_method_9_code 4 (some .boolean) :: np_al) { frames := 1, cells := 0, slots := 0, locals := 20 } [.ref (q 1), .long (np_l x1)] σ (f_Grammar_hasKey x1 σ) :=
  np_mkz (by decide +kernel) (Nat.le_of_ble_eq_true rfl) (fun o p e R s m args below meth c Q A ls hf C hQ hat hl => w_f_Grammar_hasKey C hQ x1 σ _ _ _ hf hat (lv_sub hl [0, 1] rfl))
set_option maxHeartbeats 4000000 in
set_option maxRecDepth 100000 in
theorem w_f_Text_takeRow_33 (C : np_Cx gA p R s m args c D np_cl (np_ty cA) A np_al "NotationParse$Text" prog_6_method_6_code 9 { frames := 2, cells := 0, slots := 0, locals := 43 }) (hQ : ∀ (pc : Nat) (ls : Array Slot) (H : Heap) (locs : List Loc) {σ : np_S}, decode prog_6_method_6_code pc = .ok (.return_, 1) → some ((0 : Int), σ) = some out → np_At D np_cl A (nc_wd q cA) s σ H locs → W p l e R s m args below meth c H locs 0 0 Q (F0 m pc ls []))   : ∀ (x1 : Int) (σ : np_S) (H : Heap) (locs : List Loc) (ls : Array Slot), f_Text_takeRow_33  x1 σ = some out → np_At D np_cl A (nc_wd q cA) s σ H locs → lv_has ls 9 [(0, .ref (q 6)), (1, .int (np_i x1))] → W p l e R s m args below meth c H locs 0 0 Q (F0 m 33 ls []) := by
  intro x1 σ H locs ls hf hat hl
  unfold f_Text_takeRow_33 at hf
  refine lv_aload_n C.x C.b dd_Text_takeRow_33 rfl (lv_at hl 0 rfl) ?_
  refine lv_iload_n C.x C.b dd_Text_takeRow_34 rfl (lv_at hl 1 rfl) ?_
  refine np_put C i_Text t_Text tok_Text n_Text hat 6 (nc_o6 _) rfl 6 (by decide) tw_97 rfl rfl (by decide +kernel) (np_narI x1) (np_fitI x1) (Nat.le_of_ble_eq_true rfl) (nc_s6_6 _ _) dd_Text_takeRow_35 (fun H locs hat => ?_)
  exact hQ _ _ _ _ dd_Text_takeRow_38 hf hat
set_option maxHeartbeats 4000000 in
set_option maxRecDepth 100000 in
theorem w_f_Text_takeRow_134 (C : np_Cx gA p R s m args c D np_cl (np_ty cA) A np_al "NotationParse$Text" prog_6_method_6_code 9 { frames := 2, cells := 0, slots := 0, locals := 43 }) (hQ : ∀ (pc : Nat) (ls : Array Slot) (H : Heap) (locs : List Loc) {σ : np_S}, decode prog_6_method_6_code pc = .ok (.return_, 1) → some ((0 : Int), σ) = some out → np_At D np_cl A (nc_wd q cA) s σ H locs → W p l e R s m args below meth c H locs 0 0 Q (F0 m pc ls []))   : ∀ (x1 t1 t2 : Int) (σ : np_S) (H : Heap) (locs : List Loc) (ls : Array Slot), f_Text_takeRow_134  x1 t1 t2 σ = some out → np_At D np_cl A (nc_wd q cA) s σ H locs → lv_has ls 9 [(0, .ref (q 6)), (1, .int (np_i x1))] → W p l e R s m args below meth c H locs 0 0 Q (F0 m 134 ls [.long (np_l t2), .int (np_i t1), .ref (q 9)]) := by
  intro x1 t1 t2 σ H locs ls hf hat hl
  unfold f_Text_takeRow_134 at hf
  refine np_lastore C hat 9 (nc_a9 _) 1 rfl (by decide) (nc_s9 _ _ _) dd_Text_takeRow_134 hf (fun H locs hat hf => ?_)
  refine lv_aload_n C.x C.b dd_Text_takeRow_135 rfl (lv_at hl 0 rfl) ?_
  refine np_get (v := .ref (q 10)) C i_Text hat.1 6 (nc_o6 _) rfl 4 (by decide) tw_92 rfl rfl dd_Text_takeRow_136 ?_
  refine lv_aload_n C.x C.b dd_Text_takeRow_139 rfl (lv_at hl 0 rfl) ?_
  refine np_get (v := .int (np_i ((np_st σ 9 t1 t2) 6 5))) C i_Text hat.1 6 (nc_o6 _) rfl 5 (by decide) tw_94 rfl rfl dd_Text_takeRow_140 ?_
  refine lv_iload_n C.x C.b dd_Text_takeRow_143 rfl (lv_at hl 1 rfl) ?_
  refine np_iastore C hat 10 (nc_a10 _) 0 rfl (by decide) (nc_s10 _ _ _) dd_Text_takeRow_144 hf (fun H locs hat hf => ?_)
  refine lv_aload_n C.x C.b dd_Text_takeRow_145 rfl (lv_at hl 0 rfl) ?_
  refine lv_dup C.x C.b dd_Text_takeRow_146 rfl ?_
  refine np_get (v := .int (np_i ((np_st (np_st σ 9 t1 t2) 10 ((np_st σ 9 t1 t2) 6 5) x1) 6 5))) C i_Text hat.1 6 (nc_o6 _) rfl 5 (by decide) tw_94 rfl rfl dd_Text_takeRow_147 ?_
  refine lv_iconst (v := np_i 1) C.x C.b dd_Text_takeRow_150 rfl ?_
  refine np_iadd C dd_Text_takeRow_151 ?_
  refine np_put C i_Text t_Text tok_Text n_Text hat 6 (nc_o6 _) rfl 5 (by decide) tw_94 rfl rfl (by decide +kernel) (np_narI (((np_st (np_st σ 9 t1 t2) 10 ((np_st σ 9 t1 t2) 6 5) x1) 6 5) + 1)) (np_fitI (((np_st (np_st σ 9 t1 t2) 10 ((np_st σ 9 t1 t2) 6 5) x1) 6 5) + 1)) (Nat.le_of_ble_eq_true rfl) (nc_s6_5 _ _) dd_Text_takeRow_152 (fun H locs hat => ?_)
  exact hQ _ _ _ _ dd_Text_takeRow_155 hf hat
set_option maxHeartbeats 4000000 in
set_option maxRecDepth 100000 in
theorem w_f_Text_takeRow_132 (C : np_Cx gA p R s m args c D np_cl (np_ty cA) A np_al "NotationParse$Text" prog_6_method_6_code 9 { frames := 2, cells := 0, slots := 0, locals := 43 }) (hQ : ∀ (pc : Nat) (ls : Array Slot) (H : Heap) (locs : List Loc) {σ : np_S}, decode prog_6_method_6_code pc = .ok (.return_, 1) → some ((0 : Int), σ) = some out → np_At D np_cl A (nc_wd q cA) s σ H locs → W p l e R s m args below meth c H locs 0 0 Q (F0 m pc ls []))   : ∀ (x1 x6 t1 : Int) (σ : np_S) (H : Heap) (locs : List Loc) (ls : Array Slot), f_Text_takeRow_132  x1 x6 t1 σ = some out → np_At D np_cl A (nc_wd q cA) s σ H locs → lv_has ls 9 [(0, .ref (q 6)), (1, .int (np_i x1)), (6, .long (np_l x6))] → W p l e R s m args below meth c H locs 0 0 Q (F0 m 132 ls [.int (np_i t1), .ref (q 9)]) := by
  intro x1 x6 t1 σ H locs ls hf hat hl
  unfold f_Text_takeRow_132 at hf
  refine lv_lload C.x C.b dd_Text_takeRow_132 (lv_at hl 2 rfl) ?_
  exact w_f_Text_takeRow_134 C hQ  _ _ _ _ _ _ _ hf hat (lv_sub hl [0, 1] rfl)
set_option maxHeartbeats 4000000 in
set_option maxRecDepth 100000 in
theorem w_f_Text_takeRow_92 (C : np_Cx gA p R s m args c D np_cl (np_ty cA) A np_al "NotationParse$Text" prog_6_method_6_code 9 { frames := 2, cells := 0, slots := 0, locals := 43 }) (hQ : ∀ (pc : Nat) (ls : Array Slot) (H : Heap) (locs : List Loc) {σ : np_S}, decode prog_6_method_6_code pc = .ok (.return_, 1) → some ((0 : Int), σ) = some out → np_At D np_cl A (nc_wd q cA) s σ H locs → W p l e R s m args below meth c H locs 0 0 Q (F0 m pc ls []))   : ∀ (x1 x6 t0 : Int) (σ : np_S) (H : Heap) (locs : List Loc) (ls : Array Slot), f_Text_takeRow_92  x1 x6 t0 σ = some out → np_At D np_cl A (nc_wd q cA) s σ H locs → lv_has ls 9 [(0, .ref (q 6)), (1, .int (np_i x1)), (4, .ref (q 1)), (6, .long (np_l x6))] → W p l e R s m args below meth c H locs 0 0 Q (F0 m 92 ls [.int (np_i t0)]) := by
  intro x1 x6 t0 σ H locs ls hf hat hl
  unfold f_Text_takeRow_92 at hf
  refine lv_istore (lv' := [(8, .int (np_i t0)), (0, .ref (q 6)), (1, .int (np_i x1)), (4, .ref (q 1)), (6, .long (np_l x6))]) C.x C.b dd_Text_takeRow_92 hl (by decide) rfl (fun ls hl => ?_)
  refine lv_aload_n C.x C.b dd_Text_takeRow_94 rfl (lv_at hl 1 rfl) ?_
  refine np_get (v := .ref (q 8)) C i_Text hat.1 6 (nc_o6 _) rfl 2 (by decide) tw_88 rfl rfl dd_Text_takeRow_95 ?_
  refine lv_aload_n C.x C.b dd_Text_takeRow_98 rfl (lv_at hl 1 rfl) ?_
  refine np_get (v := .int (np_i (σ 6 5))) C i_Text hat.1 6 (nc_o6 _) rfl 5 (by decide) tw_94 rfl rfl dd_Text_takeRow_99 ?_
  refine lv_lload C.x C.b dd_Text_takeRow_102 (lv_at hl 4 rfl) ?_
  refine np_lastore C hat 8 (nc_a8 _) 1 rfl (by decide) (nc_s8 _ _ _) dd_Text_takeRow_104 hf (fun H locs hat hf => ?_)
  refine lv_aload_n C.x C.b dd_Text_takeRow_105 rfl (lv_at hl 1 rfl) ?_
  refine np_get (v := .ref (q 9)) C i_Text hat.1 6 (nc_o6 _) rfl 3 (by decide) tw_90 rfl rfl dd_Text_takeRow_106 ?_
  refine lv_aload_n C.x C.b dd_Text_takeRow_109 rfl (lv_at hl 1 rfl) ?_
  refine np_get (v := .int (np_i ((np_st σ 8 (σ 6 5) x6) 6 5))) C i_Text hat.1 6 (nc_o6 _) rfl 5 (by decide) tw_94 rfl rfl dd_Text_takeRow_110 ?_
  refine lv_iload C.x C.b dd_Text_takeRow_113 (lv_at hl 0 rfl) ?_
  refine np_if_eq (tgt := 132) C dd_Text_takeRow_115 (by decide) hf (fun _ hf => ?_) (fun _ hf => ?_)
  · exact w_f_Text_takeRow_132 C hQ  _ _ _ _ _ _ _ hf hat (lv_sub hl [1, 2, 4] rfl)
  · refine lv_aload C.x C.b dd_Text_takeRow_118 (lv_at hl 3 rfl) ?_
    refine lv_lload C.x C.b dd_Text_takeRow_120 (lv_at hl 4 rfl) ?_
    refine np_callVi (As := [.long (np_l x6)]) (rest := [.int (np_i ((np_st σ 8 (σ 6 5) x6) 6 5)), .ref (q 9)]) C (c_Grammar_hasKey l x6 _) np_allgood tw_740 tw_352 tw_353 tw_2 tw_354 (nA := 1) (by decide +kernel) rfl ⟨rfl, rfl, Nat.le_of_ble_eq_true rfl, Nat.le_of_ble_eq_true rfl⟩ (va_recv C.k hat.1 (ci := 1) (q0 := 1) rfl (nc_o1 _)) hat rfl hl.1 (Nat.le_of_ble_eq_true rfl) dd_Text_takeRow_122 hf (fun o1 H locs hf hat => ?_)
    refine np_if_ne (tgt := 132) C dd_Text_takeRow_125 (by decide) hf (fun _ hf => ?_) (fun _ hf => ?_)
    · exact w_f_Text_takeRow_132 C hQ  _ _ _ _ _ _ _ hf hat (lv_sub hl [1, 2, 4] rfl)
    · refine lv_lconst (v := np_l 0) C.x C.b dd_Text_takeRow_128 (by decide +kernel) ?_
      refine lv_goto (tgt := 134) C.x C.b dd_Text_takeRow_129 (by decide) ?_
      exact w_f_Text_takeRow_134 C hQ  _ _ _ _ _ _ _ hf hat (lv_sub hl [1, 2] rfl)
set_option maxHeartbeats 4000000 in
set_option maxRecDepth 100000 in
theorem w_f_Text_takeRow_87 (C : np_Cx gA p R s m args c D np_cl (np_ty cA) A np_al "NotationParse$Text" prog_6_method_6_code 9 { frames := 2, cells := 0, slots := 0, locals := 43 }) (hQ : ∀ (pc : Nat) (ls : Array Slot) (H : Heap) (locs : List Loc) {σ : np_S}, decode prog_6_method_6_code pc = .ok (.return_, 1) → some ((0 : Int), σ) = some out → np_At D np_cl A (nc_wd q cA) s σ H locs → W p l e R s m args below meth c H locs 0 0 Q (F0 m pc ls []))   : ∀ (x1 x6 : Int) (σ : np_S) (H : Heap) (locs : List Loc) (ls : Array Slot), f_Text_takeRow_87  x1 x6 σ = some out → np_At D np_cl A (nc_wd q cA) s σ H locs → lv_has ls 9 [(0, .ref (q 6)), (1, .int (np_i x1)), (4, .ref (q 1)), (6, .long (np_l x6))] → W p l e R s m args below meth c H locs 0 0 Q (F0 m 87 ls []) := by
  intro x1 x6 σ H locs ls hf hat hl
  unfold f_Text_takeRow_87 at hf
  refine lv_iconst (v := np_i 1) C.x C.b dd_Text_takeRow_87 rfl ?_
  refine lv_goto (tgt := 92) C.x C.b dd_Text_takeRow_88 (by decide) ?_
  exact w_f_Text_takeRow_92 C hQ  _ _ _ _ _ _ _ hf hat (lv_sub hl [0, 1, 2, 3] rfl)
set_option maxHeartbeats 4000000 in
set_option maxRecDepth 100000 in
theorem w_f_Text_takeRow_45 (C : np_Cx gA p R s m args c D np_cl (np_ty cA) A np_al "NotationParse$Text" prog_6_method_6_code 9 { frames := 2, cells := 0, slots := 0, locals := 43 }) (hQ : ∀ (pc : Nat) (ls : Array Slot) (H : Heap) (locs : List Loc) {σ : np_S}, decode prog_6_method_6_code pc = .ok (.return_, 1) → some ((0 : Int), σ) = some out → np_At D np_cl A (nc_wd q cA) s σ H locs → W p l e R s m args below meth c H locs 0 0 Q (F0 m pc ls []))   : ∀ (n : Nat), ∀ (x1 x2 x3 x6 x8 : Int) (σ : np_S) (H : Heap) (locs : List Loc) (ls : Array Slot), f_Text_takeRow_45  n x1 x2 x3 x6 x8 σ = some out → np_At D np_cl A (nc_wd q cA) s σ H locs → lv_has ls 9 [(0, .ref (q 6)), (1, .int (np_i x1)), (2, .int (np_i x2)), (3, .int (np_i x3)), (4, .ref (q 1)), (6, .long (np_l x6)), (8, .int (np_i x8))] → W p l e R s m args below meth c H locs 0 0 Q (F0 m 45 ls []) := by
  intro n
  induction n with
  | zero => intro x1 x2 x3 x6 x8 σ H locs ls hf; cases hf
  | succ n ih =>
    intro x1 x2 x3 x6 x8 σ H locs ls hf hat hl
    have h45 := ih
    have hf : f_Text_takeRow_45_b  (fun x1 x2 x3 x6 x8 σ => f_Text_takeRow_45  n x1 x2 x3 x6 x8 σ) x1 x2 x3 x6 x8 σ = some out := hf
    unfold f_Text_takeRow_45_b at hf
    refine lv_iload C.x C.b dd_Text_takeRow_45 (lv_at hl 6 rfl) ?_
    refine lv_iload_n C.x C.b dd_Text_takeRow_47 rfl (lv_at hl 2 rfl) ?_
    refine np_icmp_ge (tgt := 77) C dd_Text_takeRow_48 (by decide) hf (fun _ hf => ?_) (fun _ hf => ?_)
    · refine lv_iload_n C.x C.b dd_Text_takeRow_77 rfl (lv_at hl 3 rfl) ?_
      refine lv_iconst (v := np_i 2) C.x C.b dd_Text_takeRow_78 rfl ?_
      refine np_icmp_eq (tgt := 87) C dd_Text_takeRow_79 (by decide) hf (fun _ hf => ?_) (fun _ hf => ?_)
      · exact w_f_Text_takeRow_87 C hQ  _ _ _ _ _ _ hf hat (lv_sub hl [0, 1, 4, 5] rfl)
      · refine lv_iload_n C.x C.b dd_Text_takeRow_82 rfl (lv_at hl 3 rfl) ?_
        refine lv_iconst (v := np_i 3) C.x C.b dd_Text_takeRow_83 rfl ?_
        refine np_icmp_ne (tgt := 91) C dd_Text_takeRow_84 (by decide) hf (fun _ hf => ?_) (fun _ hf => ?_)
        · refine lv_iconst (v := np_i 0) C.x C.b dd_Text_takeRow_91 rfl ?_
          exact w_f_Text_takeRow_92 C hQ  _ _ _ _ _ _ _ hf hat (lv_sub hl [0, 1, 4, 5] rfl)
        · exact w_f_Text_takeRow_87 C hQ  _ _ _ _ _ _ hf hat (lv_sub hl [0, 1, 4, 5] rfl)
    · refine lv_lload C.x C.b dd_Text_takeRow_51 (lv_at hl 5 rfl) ?_
      refine lv_bipush (v := np_i 8) C.x C.b dd_Text_takeRow_53 (by decide +kernel) ?_
      refine np_lshl C dd_Text_takeRow_55 ?_
      refine lv_aload_n C.x C.b dd_Text_takeRow_56 rfl (lv_at hl 0 rfl) ?_
      refine np_get (v := .ref (q 7)) C i_Text hat.1 6 (nc_o6 _) rfl 0 (by decide) tw_85 rfl rfl dd_Text_takeRow_57 ?_
      refine lv_iload C.x C.b dd_Text_takeRow_60 (lv_at hl 6 rfl) ?_
      refine np_baload C hat.1 7 (nc_a7 _) 2 rfl (by decide) dd_Text_takeRow_62 hf (fun hf => ?_)
      refine lv_sipush (v := np_i 255) C.x C.b dd_Text_takeRow_63 (by decide +kernel) ?_
      refine np_iand C dd_Text_takeRow_66 ?_
      refine np_i2l C dd_Text_takeRow_67 hf (fun hf => ?_)
      refine np_lor C dd_Text_takeRow_68 ?_
      refine lv_lstore (lv' := [(6, .long (np_l (np_orl (np_shll x6 8) (np_andi (σ 7 x8) 255)))), (0, .ref (q 6)), (1, .int (np_i x1)), (2, .int (np_i x2)), (3, .int (np_i x3)), (4, .ref (q 1)), (8, .int (np_i x8))]) C.x C.b dd_Text_takeRow_69 hl (by decide) rfl (fun ls hl => ?_)
      refine lv_iinc (v := np_i (x8 + 1)) (lv' := [(8, .int (np_i (x8 + 1))), (6, .long (np_l (np_orl (np_shll x6 8) (np_andi (σ 7 x8) 255)))), (0, .ref (q 6)), (1, .int (np_i x1)), (2, .int (np_i x2)), (3, .int (np_i x3)), (4, .ref (q 1))]) C.x C.b dd_Text_takeRow_71 hl (k := 6) rfl (np_inc _ _) (by decide) rfl (fun ls hl => ?_)
      refine lv_goto (tgt := 45) C.x C.b dd_Text_takeRow_74 (by decide) ?_
      exact h45 _ _ _ _ _ _ _ _ _ hf hat (lv_sub hl [2, 3, 4, 5, 6, 1, 0] rfl)
set_option maxHeartbeats 4000000 in
set_option maxRecDepth 100000 in
theorem w_f_Text_takeRow_13 (C : np_Cx gA p R s m args c D np_cl (np_ty cA) A np_al "NotationParse$Text" prog_6_method_6_code 9 { frames := 2, cells := 0, slots := 0, locals := 43 }) (hQ : ∀ (pc : Nat) (ls : Array Slot) (H : Heap) (locs : List Loc) {σ : np_S}, decode prog_6_method_6_code pc = .ok (.return_, 1) → some ((0 : Int), σ) = some out → np_At D np_cl A (nc_wd q cA) s σ H locs → W p l e R s m args below meth c H locs 0 0 Q (F0 m pc ls []))   : ∀ (x1 x2 x3 t0 : Int) (σ : np_S) (H : Heap) (locs : List Loc) (ls : Array Slot), f_Text_takeRow_13  x1 x2 x3 t0 σ = some out → np_At D np_cl A (nc_wd q cA) s σ H locs → lv_has ls 9 [(0, .ref (q 6)), (1, .int (np_i x1)), (2, .int (np_i x2)), (3, .int (np_i x3)), (4, .ref (q 1))] → W p l e R s m args below meth c H locs 0 0 Q (F0 m 13 ls [.int (np_i t0)]) := by
  intro x1 x2 x3 t0 σ H locs ls hf hat hl
  unfold f_Text_takeRow_13 at hf
  refine lv_istore (lv' := [(5, .int (np_i t0)), (0, .ref (q 6)), (1, .int (np_i x1)), (2, .int (np_i x2)), (3, .int (np_i x3)), (4, .ref (q 1))]) C.x C.b dd_Text_takeRow_13 hl (by decide) rfl (fun ls hl => ?_)
  refine lv_iload_n C.x C.b dd_Text_takeRow_15 rfl (lv_at hl 4 rfl) ?_
  refine np_if_eq (tgt := 33) C dd_Text_takeRow_16 (by decide) hf (fun _ hf => ?_) (fun _ hf => ?_)
  · exact w_f_Text_takeRow_33 C hQ  _ _ _ _ _ hf hat (lv_sub hl [1, 2] rfl)
  · refine lv_iload C.x C.b dd_Text_takeRow_19 (lv_at hl 0 rfl) ?_
    refine np_if_ne (tgt := 33) C dd_Text_takeRow_21 (by decide) hf (fun _ hf => ?_) (fun _ hf => ?_)
    · exact w_f_Text_takeRow_33 C hQ  _ _ _ _ _ hf hat (lv_sub hl [1, 2] rfl)
    · refine lv_aload_n C.x C.b dd_Text_takeRow_24 rfl (lv_at hl 1 rfl) ?_
      refine np_get (v := .int (np_i (σ 6 5))) C i_Text hat.1 6 (nc_o6 _) rfl 5 (by decide) tw_94 rfl rfl dd_Text_takeRow_25 ?_
      refine lv_bipush (v := np_i 30) C.x C.b dd_Text_takeRow_28 (by decide +kernel) ?_
      refine np_icmp_lt (tgt := 39) C dd_Text_takeRow_30 (by decide) hf (fun _ hf => ?_) (fun _ hf => ?_)
      · refine lv_lconst (v := np_l 0) C.x C.b dd_Text_takeRow_39 (by decide +kernel) ?_
        refine lv_lstore (lv' := [(6, .long (np_l 0)), (5, .int (np_i t0)), (0, .ref (q 6)), (1, .int (np_i x1)), (2, .int (np_i x2)), (3, .int (np_i x3)), (4, .ref (q 1))]) C.x C.b dd_Text_takeRow_40 hl (by decide) rfl (fun ls hl => ?_)
        refine lv_iload_n C.x C.b dd_Text_takeRow_42 rfl (lv_at hl 3 rfl) ?_
        refine lv_istore (lv' := [(8, .int (np_i x1)), (6, .long (np_l 0)), (5, .int (np_i t0)), (0, .ref (q 6)), (1, .int (np_i x1)), (2, .int (np_i x2)), (3, .int (np_i x3)), (4, .ref (q 1))]) C.x C.b dd_Text_takeRow_43 hl (by decide) rfl (fun ls hl => ?_)
        exact w_f_Text_takeRow_45 C hQ  20000 _ _ _ _ _ _ _ _ _ hf hat (lv_sub hl [3, 4, 5, 6, 7, 1, 0] rfl)
      · exact w_f_Text_takeRow_33 C hQ  _ _ _ _ _ hf hat (lv_sub hl [1, 2] rfl)
set_option maxHeartbeats 4000000 in
set_option maxRecDepth 100000 in
theorem w_f_Text_takeRow (C : np_Cx gA p R s m args c D np_cl (np_ty cA) A np_al "NotationParse$Text" prog_6_method_6_code 9 { frames := 2, cells := 0, slots := 0, locals := 43 }) (hQ : ∀ (pc : Nat) (ls : Array Slot) (H : Heap) (locs : List Loc) {σ : np_S}, decode prog_6_method_6_code pc = .ok (.return_, 1) → some ((0 : Int), σ) = some out → np_At D np_cl A (nc_wd q cA) s σ H locs → W p l e R s m args below meth c H locs 0 0 Q (F0 m pc ls []))   : ∀ (x1 x2 x3 : Int) (σ : np_S) (H : Heap) (locs : List Loc) (ls : Array Slot), f_Text_takeRow  x1 x2 x3 σ = some out → np_At D np_cl A (nc_wd q cA) s σ H locs → lv_has ls 9 [(0, .ref (q 6)), (1, .int (np_i x1)), (2, .int (np_i x2)), (3, .int (np_i x3)), (4, .ref (q 1))] → W p l e R s m args below meth c H locs 0 0 Q (F0 m 0 ls []) := by
  intro x1 x2 x3 σ H locs ls hf hat hl
  unfold f_Text_takeRow at hf
  refine lv_iload_n C.x C.b dd_Text_takeRow_0 rfl (lv_at hl 2 rfl) ?_
  refine lv_iload_n C.x C.b dd_Text_takeRow_1 rfl (lv_at hl 1 rfl) ?_
  refine np_isub C dd_Text_takeRow_2 ?_
  refine lv_bipush (v := np_i 8) C.x C.b dd_Text_takeRow_3 (by decide +kernel) ?_
  refine np_icmp_le (tgt := 12) C dd_Text_takeRow_5 (by decide) hf (fun _ hf => ?_) (fun _ hf => ?_)
  · refine lv_iconst (v := np_i 0) C.x C.b dd_Text_takeRow_12 rfl ?_
    exact w_f_Text_takeRow_13 C hQ  _ _ _ _ _ _ _ _ hf hat (lv_sub hl [0, 1, 2, 3, 4] rfl)
  · refine lv_iconst (v := np_i 1) C.x C.b dd_Text_takeRow_8 rfl ?_
    refine lv_goto (tgt := 13) C.x C.b dd_Text_takeRow_9 (by decide) ?_
    exact w_f_Text_takeRow_13 C hQ  _ _ _ _ _ _ _ _ hf hat (lv_sub hl [0, 1, 2, 3, 4] rfl)
set_option maxHeartbeats 4000000 in
set_option maxRecDepth 100000 in
theorem c_Text_takeRow (l : Launch) {gA : Nat → Nat} {D : va_G} {q : Nat → Nat} {cA : Nat → ClassId} (x1 x2 x3 : Int) (σ : np_S) : np_Mv gA l D np_cl (np_ty cA) (nc_wd q cA) yy_Text_takeRow (.code yy_Text_takeRow prog_6_method_6_code 9 none :: np_al) { frames := 2, cells := 0, slots := 0, locals := 43 } [.ref (q 6), .int (np_i x1), .int (np_i x2), .int (np_i x3), .ref (q 1)] σ (f_Text_takeRow x1 x2 x3 σ) :=
  np_mkv (by decide +kernel) (Nat.le_of_ble_eq_true rfl) (fun o p e R s m args below meth c Q A ls hf C hQ hat hl => w_f_Text_takeRow C hQ x1 x2 x3 σ _ _ _ hf hat (lv_sub hl [0, 1, 2, 3, 4] rfl))
set_option maxHeartbeats 4000000 in
set_option maxRecDepth 100000 in
theorem w_f_Text_cut_79 (C : np_Cx gA p R s m args c D np_cl (np_ty cA) A np_al "NotationParse$Text" prog_6_method_3_code 6 { frames := 7, cells := 0, slots := 0, locals := 155 }) (hQ : ∀ (pc : Nat) (ls : Array Slot) (H : Heap) (locs : List Loc) {σ : np_S}, decode prog_6_method_3_code pc = .ok (.return_, 1) → some ((0 : Int), σ) = some out → np_At D np_cl A (nc_wd q cA) s σ H locs → W p l e R s m args below meth c H locs 0 0 Q (F0 m pc ls []))   : ∀ (σ : np_S) (H : Heap) (locs : List Loc) (ls : Array Slot), f_Text_cut_79  σ = some out → np_At D np_cl A (nc_wd q cA) s σ H locs → lv_has ls 6 [] → W p l e R s m args below meth c H locs 0 0 Q (F0 m 79 ls []) := by
  intro σ H locs ls hf hat hl
  unfold f_Text_cut_79 at hf
  exact hQ _ _ _ _ dd_Text_cut_79 hf hat
set_option maxHeartbeats 4000000 in
set_option maxRecDepth 100000 in
theorem w_f_Text_cut_70 (C : np_Cx gA p R s m args c D np_cl (np_ty cA) A np_al "NotationParse$Text" prog_6_method_3_code 6 { frames := 7, cells := 0, slots := 0, locals := 155 }) (hQ : ∀ (pc : Nat) (ls : Array Slot) (H : Heap) (locs : List Loc) {σ : np_S}, decode prog_6_method_3_code pc = .ok (.return_, 1) → some ((0 : Int), σ) = some out → np_At D np_cl A (nc_wd q cA) s σ H locs → W p l e R s m args below meth c H locs 0 0 Q (F0 m pc ls [])) {k14 : (Int → Int → np_S → Option np_O)} (h14 : ∀ (x2 x3 : Int) (σ : np_S) (H : Heap) (locs : List Loc) (ls : Array Slot), k14 x2 x3 σ = some out → np_At D np_cl A (nc_wd q cA) s σ H locs → lv_has ls 6 [(0, .ref (q 6)), (1, .ref (q 1)), (2, .int (np_i x2)), (3, .int (np_i x3))] → W p l e R s m args below meth c H locs 0 0 Q (F0 m 14 ls [])) : ∀ (x3 x5 : Int) (σ : np_S) (H : Heap) (locs : List Loc) (ls : Array Slot), f_Text_cut_70 k14 x3 x5 σ = some out → np_At D np_cl A (nc_wd q cA) s σ H locs → lv_has ls 6 [(0, .ref (q 6)), (1, .ref (q 1)), (3, .int (np_i x3)), (5, .int (np_i x5))] → W p l e R s m args below meth c H locs 0 0 Q (F0 m 70 ls []) := by
  intro x3 x5 σ H locs ls hf hat hl
  unfold f_Text_cut_70 at hf
  refine lv_iload C.x C.b dd_Text_cut_70 (lv_at hl 3 rfl) ?_
  refine lv_istore_n (lv' := [(2, .int (np_i x5)), (0, .ref (q 6)), (1, .ref (q 1)), (3, .int (np_i x3)), (5, .int (np_i x5))]) C.x C.b dd_Text_cut_72 rfl hl (by decide) rfl (fun ls hl => ?_)
  refine lv_iinc (v := np_i (x3 + 1)) (lv' := [(3, .int (np_i (x3 + 1))), (2, .int (np_i x5)), (0, .ref (q 6)), (1, .ref (q 1)), (5, .int (np_i x5))]) C.x C.b dd_Text_cut_73 hl (k := 3) rfl (np_inc _ _) (by decide) rfl (fun ls hl => ?_)
  refine lv_goto (tgt := 14) C.x C.b dd_Text_cut_76 (by decide) ?_
  exact h14 _ _ _ _ _ _ hf hat (lv_sub hl [2, 3, 1, 0] rfl)
set_option maxHeartbeats 4000000 in
set_option maxRecDepth 100000 in
theorem w_f_Text_cut_14 (C : np_Cx gA p R s m args c D np_cl (np_ty cA) A np_al "NotationParse$Text" prog_6_method_3_code 6 { frames := 7, cells := 0, slots := 0, locals := 155 }) (hQ : ∀ (pc : Nat) (ls : Array Slot) (H : Heap) (locs : List Loc) {σ : np_S}, decode prog_6_method_3_code pc = .ok (.return_, 1) → some ((0 : Int), σ) = some out → np_At D np_cl A (nc_wd q cA) s σ H locs → W p l e R s m args below meth c H locs 0 0 Q (F0 m pc ls []))   : ∀ (n : Nat), ∀ (x2 x3 : Int) (σ : np_S) (H : Heap) (locs : List Loc) (ls : Array Slot), f_Text_cut_14  n x2 x3 σ = some out → np_At D np_cl A (nc_wd q cA) s σ H locs → lv_has ls 6 [(0, .ref (q 6)), (1, .ref (q 1)), (2, .int (np_i x2)), (3, .int (np_i x3))] → W p l e R s m args below meth c H locs 0 0 Q (F0 m 14 ls []) := by
  intro n
  induction n with
  | zero => intro x2 x3 σ H locs ls hf; cases hf
  | succ n ih =>
    intro x2 x3 σ H locs ls hf hat hl
    have h14 := ih
    have hf : f_Text_cut_14_b  (fun x2 x3 σ => f_Text_cut_14  n x2 x3 σ) x2 x3 σ = some out := hf
    unfold f_Text_cut_14_b at hf
    refine lv_iload_n C.x C.b dd_Text_cut_14 rfl (lv_at hl 3 rfl) ?_
    refine lv_aload_n C.x C.b dd_Text_cut_15 rfl (lv_at hl 0 rfl) ?_
    refine np_get (v := .int (np_i (σ 6 1))) C i_Text hat.1 6 (nc_o6 _) rfl 1 (by decide) tw_86 rfl rfl dd_Text_cut_16 ?_
    refine np_icmp_ge (tgt := 79) C dd_Text_cut_19 (by decide) hf (fun _ hf => ?_) (fun _ hf => ?_)
    · exact w_f_Text_cut_79 C hQ   _ _ _ _ hf hat (lv_sub hl [] rfl)
    · refine lv_iload_n C.x C.b dd_Text_cut_22 rfl (lv_at hl 2 rfl) ?_
      refine lv_aload_n C.x C.b dd_Text_cut_23 rfl (lv_at hl 0 rfl) ?_
      refine np_get (v := .int (np_i (σ 6 1))) C i_Text hat.1 6 (nc_o6 _) rfl 1 (by decide) tw_86 rfl rfl dd_Text_cut_24 ?_
      refine np_icmp_ge (tgt := 79) C dd_Text_cut_27 (by decide) hf (fun _ hf => ?_) (fun _ hf => ?_)
      · exact w_f_Text_cut_79 C hQ   _ _ _ _ hf hat (lv_sub hl [] rfl)
      · refine lv_aload_n C.x C.b dd_Text_cut_30 rfl (lv_at hl 0 rfl) ?_
        refine np_get (v := .int (np_i (σ 6 6))) C i_Text hat.1 6 (nc_o6 _) rfl 6 (by decide) tw_97 rfl rfl dd_Text_cut_31 ?_
        refine lv_iconst (v := np_i (-1)) C.x C.b dd_Text_cut_34 rfl ?_
        refine np_icmp_ne (tgt := 79) C dd_Text_cut_35 (by decide) hf (fun _ hf => ?_) (fun _ hf => ?_)
        · exact w_f_Text_cut_79 C hQ   _ _ _ _ hf hat (lv_sub hl [] rfl)
        · refine lv_aload_n C.x C.b dd_Text_cut_38 rfl (lv_at hl 0 rfl) ?_
          refine lv_iload_n C.x C.b dd_Text_cut_39 rfl (lv_at hl 2 rfl) ?_
          refine np_callVi (As := [.int (np_i x2)]) (rest := []) C (c_Text_kindAt l x2 _) np_allgood tw_727 tw_729 tp_1 tw_4 tw_730 (nA := 1) (by decide +kernel) rfl ⟨rfl, rfl, Nat.le_of_ble_eq_true rfl, Nat.le_of_ble_eq_true rfl⟩ (va_recv C.k hat.1 (ci := 2) (q0 := 6) rfl (nc_o6 _)) hat rfl hl.1 (Nat.le_of_ble_eq_true rfl) dd_Text_cut_40 hf (fun o1 H locs hf hat => ?_)
          refine lv_istore (lv' := [(4, .int (np_i o1.1)), (0, .ref (q 6)), (1, .ref (q 1)), (2, .int (np_i x2)), (3, .int (np_i x3))]) C.x C.b dd_Text_cut_43 hl (by decide) rfl (fun ls hl => ?_)
          refine lv_aload_n C.x C.b dd_Text_cut_45 rfl (lv_at hl 1 rfl) ?_
          refine lv_iload_n C.x C.b dd_Text_cut_46 rfl (lv_at hl 3 rfl) ?_
          refine lv_iload C.x C.b dd_Text_cut_47 (lv_at hl 0 rfl) ?_
          refine np_callVi (As := [.int (np_i x2), .int (np_i o1.1)]) (rest := []) C (c_Text_endOfRow l x2 o1.1 _) np_allgood tw_732 tw_734 tp_2 tw_4 tw_735 (nA := 2) (by decide +kernel) rfl ⟨rfl, rfl, Nat.le_of_ble_eq_true rfl, Nat.le_of_ble_eq_true rfl⟩ (va_recv C.k hat.1 (ci := 2) (q0 := 6) rfl (nc_o6 _)) hat rfl hl.1 (Nat.le_of_ble_eq_true rfl) dd_Text_cut_49 hf (fun o2 H locs hf hat => ?_)
          refine lv_istore (lv' := [(5, .int (np_i o2.1)), (4, .int (np_i o1.1)), (0, .ref (q 6)), (1, .ref (q 1)), (2, .int (np_i x2)), (3, .int (np_i x3))]) C.x C.b dd_Text_cut_52 hl (by decide) rfl (fun ls hl => ?_)
          refine lv_iload C.x C.b dd_Text_cut_54 (lv_at hl 1 rfl) ?_
          refine lv_iconst (v := np_i 1) C.x C.b dd_Text_cut_56 rfl ?_
          refine np_icmp_eq (tgt := 70) C dd_Text_cut_57 (by decide) hf (fun _ hf => ?_) (fun _ hf => ?_)
          · exact w_f_Text_cut_70 C hQ h14 _ _ _ _ _ _ hf hat (lv_sub hl [2, 3, 5, 0] rfl)
          · refine lv_aload_n C.x C.b dd_Text_cut_60 rfl (lv_at hl 2 rfl) ?_
            refine lv_iload_n C.x C.b dd_Text_cut_61 rfl (lv_at hl 4 rfl) ?_
            refine lv_iload C.x C.b dd_Text_cut_62 (lv_at hl 0 rfl) ?_
            refine lv_iload C.x C.b dd_Text_cut_64 (lv_at hl 1 rfl) ?_
            refine lv_aload_n C.x C.b dd_Text_cut_66 rfl (lv_at hl 3 rfl) ?_
            refine np_callVv (As := [.int (np_i x2), .int (np_i o2.1), .int (np_i o1.1), .ref (q 1)]) (rest := []) C (c_Text_takeRow l x2 o2.1 o1.1 _) np_allgood tw_736 tw_738 tp_3 tw_4 tw_739 (nA := 4) (by decide +kernel) rfl ⟨rfl, rfl, Nat.le_of_ble_eq_true rfl, Nat.le_of_ble_eq_true rfl⟩ (va_recv C.k hat.1 (ci := 2) (q0 := 6) rfl (nc_o6 _)) hat rfl hl.1 (Nat.le_of_ble_eq_true rfl) dd_Text_cut_67 hf (fun o3 H locs hf hat => ?_)
            exact w_f_Text_cut_70 C hQ h14 _ _ _ _ _ _ hf hat (lv_sub hl [2, 3, 5, 0] rfl)
set_option maxHeartbeats 4000000 in
set_option maxRecDepth 100000 in
theorem w_f_Text_cut (C : np_Cx gA p R s m args c D np_cl (np_ty cA) A np_al "NotationParse$Text" prog_6_method_3_code 6 { frames := 7, cells := 0, slots := 0, locals := 155 }) (hQ : ∀ (pc : Nat) (ls : Array Slot) (H : Heap) (locs : List Loc) {σ : np_S}, decode prog_6_method_3_code pc = .ok (.return_, 1) → some ((0 : Int), σ) = some out → np_At D np_cl A (nc_wd q cA) s σ H locs → W p l e R s m args below meth c H locs 0 0 Q (F0 m pc ls []))   : ∀ (σ : np_S) (H : Heap) (locs : List Loc) (ls : Array Slot), f_Text_cut  σ = some out → np_At D np_cl A (nc_wd q cA) s σ H locs → lv_has ls 6 [(0, .ref (q 6)), (1, .ref (q 1))] → W p l e R s m args below meth c H locs 0 0 Q (F0 m 0 ls []) := by
  intro σ H locs ls hf hat hl
  unfold f_Text_cut at hf
  refine lv_aload_n C.x C.b dd_Text_cut_0 rfl (lv_at hl 0 rfl) ?_
  refine lv_iconst (v := np_i 0) C.x C.b dd_Text_cut_1 rfl ?_
  refine np_put C i_Text t_Text tok_Text n_Text hat 6 (nc_o6 _) rfl 5 (by decide) tw_94 rfl rfl (by decide +kernel) (np_narI 0) (np_fitI 0) (Nat.le_of_ble_eq_true rfl) (nc_s6_5 _ _) dd_Text_cut_2 (fun H locs hat => ?_)
  refine lv_aload_n C.x C.b dd_Text_cut_5 rfl (lv_at hl 0 rfl) ?_
  refine lv_iconst (v := np_i (-1)) C.x C.b dd_Text_cut_6 rfl ?_
  refine np_put C i_Text t_Text tok_Text n_Text hat 6 (nc_o6 _) rfl 6 (by decide) tw_97 rfl rfl (by decide +kernel) (np_narI ((-1))) (np_fitI ((-1))) (Nat.le_of_ble_eq_true rfl) (nc_s6_6 _ _) dd_Text_cut_7 (fun H locs hat => ?_)
  refine lv_iconst (v := np_i 0) C.x C.b dd_Text_cut_10 rfl ?_
  refine lv_istore_n (lv' := [(2, .int (np_i 0)), (0, .ref (q 6)), (1, .ref (q 1))]) C.x C.b dd_Text_cut_11 rfl hl (by decide) rfl (fun ls hl => ?_)
  refine lv_iconst (v := np_i 0) C.x C.b dd_Text_cut_12 rfl ?_
  refine lv_istore_n (lv' := [(3, .int (np_i 0)), (2, .int (np_i 0)), (0, .ref (q 6)), (1, .ref (q 1))]) C.x C.b dd_Text_cut_13 rfl hl (by decide) rfl (fun ls hl => ?_)
  exact w_f_Text_cut_14 C hQ  20000 _ _ _ _ _ _ hf hat (lv_sub hl [2, 3, 1, 0] rfl)
set_option maxHeartbeats 4000000 in
set_option maxRecDepth 100000 in
theorem c_Text_cut (l : Launch) {gA : Nat → Nat} {D : va_G} {q : Nat → Nat} {cA : Nat → ClassId} (σ : np_S) : np_Mv gA l D np_cl (np_ty cA) (nc_wd q cA) yy_Text_cut (.code yy_Text_cut prog_6_method_3_code 6 none :: np_al) { frames := 7, cells := 0, slots := 0, locals := 155 } [.ref (q 6), .ref (q 1)] σ (f_Text_cut  σ) :=
  np_mkv (by decide +kernel) (Nat.le_of_ble_eq_true rfl) (fun o p e R s m args below meth c Q A ls hf C hQ hat hl => w_f_Text_cut C hQ  σ _ _ _ hf hat (lv_sub hl [0, 1] rfl))
end NW1
