section NW0
variable {p : Program} {l : Launch} {e : Env} {R : Room} {s : State} {m : MethodId} {args : Array Value} {below : List Frame} {meth : Method} {c : Code} {Q : State → Prop} {D : va_G} {A : Nat → Prop} {q : Nat → Nat} {cA : Nat → ClassId} {out : np_O} {gA : Nat → Nat}
set_option maxHeartbeats 4000000 in
set_option maxRecDepth 100000 in
theorem w_f_Grammar_usedDots (C : np_Cx gA p R s m args c D np_cl (np_ty cA) A np_al "NotationParse$Grammar" prog_3_method_2_code 1 { frames := 0, cells := 0, slots := 0, locals := 0 }) (hQ : ∀ (pc : Nat) (ls : Array Slot) (H : Heap) (locs : List Loc) (v : Int) {σ : np_S}, decode prog_3_method_2_code pc = .ok (.ireturn, 1) → some (v, σ) = some out → np_At D np_cl A (nc_wd q cA) s σ H locs → W p l e R s m args below meth c H locs 0 0 Q (F0 m pc ls [.int (np_i v)]))   : ∀ (σ : np_S) (H : Heap) (locs : List Loc) (ls : Array Slot), f_Grammar_usedDots  σ = some out → np_At D np_cl A (nc_wd q cA) s σ H locs → lv_has ls 1 [(0, .ref (q 1))] → W p l e R s m args below meth c H locs 0 0 Q (F0 m 0 ls []) := by
  intro σ H locs ls hf hat hl
  unfold f_Grammar_usedDots at hf
  refine lv_aload_n C.x C.b dd_Grammar_usedDots_0 rfl (lv_at hl 0 rfl) ?_
  refine np_get (v := .int (np_i (σ 1 4))) C i_Grammar hat.1 1 (nc_o1 _) rfl 4 (by decide) tw_59 rfl rfl dd_Grammar_usedDots_1 ?_
  refine lv_bipush (v := np_i 7) C.x C.b dd_Grammar_usedDots_4 (by decide +kernel) ?_
  refine np_imul C dd_Grammar_usedDots_6 ?_
  exact hQ _ _ _ _ _ dd_Grammar_usedDots_7 hf hat
set_option maxHeartbeats 4000000 in
set_option maxRecDepth 100000 in
theorem c_Grammar_usedDots (l : Launch) {gA : Nat → Nat} {D : va_G} {q : Nat → Nat} {cA : Nat → ClassId} (σ : np_S) : np_Mi gA l D np_cl (np_ty cA) (nc_wd q cA) yy_Grammar_usedDots (.code yy_Grammar_usedDots prog_3_method_2_code 1 (some .int) :: np_al) { frames := 0, cells := 0, slots := 0, locals := 0 } [.ref (q 1)] σ (f_Grammar_usedDots  σ) :=
  np_mki (by decide +kernel) (Nat.le_of_ble_eq_true rfl) (fun o p e R s m args below meth c Q A ls hf C hQ hat hl => w_f_Grammar_usedDots C hQ  σ _ _ _ hf hat (lv_sub hl [0] rfl))
set_option maxHeartbeats 4000000 in
set_option maxRecDepth 100000 in
theorem w_f_Arrays_rangeCheck (C : np_Cx gA p R s m args c D np_cl (np_ty cA) A np_al "java/util/Arrays" prog_25_method_30_code 3 { frames := 0, cells := 0, slots := 0, locals := 0 }) (hQ : ∀ (pc : Nat) (ls : Array Slot) (H : Heap) (locs : List Loc) {σ : np_S}, decode prog_25_method_30_code pc = .ok (.return_, 1) → some ((0 : Int), σ) = some out → np_At D np_cl A (nc_wd q cA) s σ H locs → W p l e R s m args below meth c H locs 0 0 Q (F0 m pc ls []))   : ∀ (x0 x1 x2 : Int) (σ : np_S) (H : Heap) (locs : List Loc) (ls : Array Slot), f_Arrays_rangeCheck  x0 x1 x2 σ = some out → np_At D np_cl A (nc_wd q cA) s σ H locs → lv_has ls 3 [(0, .int (np_i x0)), (1, .int (np_i x1)), (2, .int (np_i x2))] → W p l e R s m args below meth c H locs 0 0 Q (F0 m 0 ls []) := by
  intro x0 x1 x2 σ H locs ls hf hat hl
  unfold f_Arrays_rangeCheck at hf
  refine lv_iload_n C.x C.b dd_Arrays_rangeCheck_0 rfl (lv_at hl 1 rfl) ?_
  refine lv_iload_n C.x C.b dd_Arrays_rangeCheck_1 rfl (lv_at hl 2 rfl) ?_
  refine np_icmp_le (tgt := 46) C dd_Arrays_rangeCheck_2 (by decide) hf (fun _ hf => ?_) (fun _ hf => ?_)
  · refine lv_iload_n C.x C.b dd_Arrays_rangeCheck_46 rfl (lv_at hl 1 rfl) ?_
    refine np_if_ge (tgt := 59) C dd_Arrays_rangeCheck_47 (by decide) hf (fun _ hf => ?_) (fun _ hf => ?_)
    · refine lv_iload_n C.x C.b dd_Arrays_rangeCheck_59 rfl (lv_at hl 2 rfl) ?_
      refine lv_iload_n C.x C.b dd_Arrays_rangeCheck_60 rfl (lv_at hl 0 rfl) ?_
      refine np_icmp_le (tgt := 73) C dd_Arrays_rangeCheck_61 (by decide) hf (fun _ hf => ?_) (fun _ hf => ?_)
      · exact hQ _ _ _ _ dd_Arrays_rangeCheck_73 hf hat
      · cases hf
    · cases hf
  · cases hf
set_option maxHeartbeats 4000000 in
set_option maxRecDepth 100000 in
theorem c_Arrays_rangeCheck (l : Launch) {gA : Nat → Nat} {D : va_G} {q : Nat → Nat} {cA : Nat → ClassId} (x0 x1 x2 : Int) (σ : np_S) : np_Mv gA l D np_cl (np_ty cA) (nc_wd q cA) yy_Arrays_rangeCheck (.code yy_Arrays_rangeCheck prog_25_method_30_code 3 none :: np_al) { frames := 0, cells := 0, slots := 0, locals := 0 } [.int (np_i x0), .int (np_i x1), .int (np_i x2)] σ (f_Arrays_rangeCheck x0 x1 x2 σ) :=
  np_mkv (by decide +kernel) (Nat.le_of_ble_eq_true rfl) (fun o p e R s m args below meth c Q A ls hf C hQ hat hl => w_f_Arrays_rangeCheck C hQ x0 x1 x2 σ _ _ _ hf hat (lv_sub hl [0, 1, 2] rfl))
set_option maxHeartbeats 4000000 in
set_option maxRecDepth 100000 in
theorem w_f_Arrays_fill_2_10 (C : np_Cx gA p R s m args c D np_cl (np_ty cA) A np_al "java/util/Arrays" prog_25_method_104_code 5 { frames := 1, cells := 0, slots := 0, locals := 22 }) (hQ : ∀ (pc : Nat) (ls : Array Slot) (H : Heap) (locs : List Loc) {σ : np_S}, decode prog_25_method_104_code pc = .ok (.return_, 1) → some ((0 : Int), σ) = some out → np_At D np_cl A (nc_wd q cA) s σ H locs → W p l e R s m args below meth c H locs 0 0 Q (F0 m pc ls []))   : ∀ (n : Nat), ∀ (x2 x3 x4 : Int) (σ : np_S) (H : Heap) (locs : List Loc) (ls : Array Slot), f_Arrays_fill_2_10  n x2 x3 x4 σ = some out → np_At D np_cl A (nc_wd q cA) s σ H locs → lv_has ls 5 [(0, .ref (q 2)), (2, .int (np_i x2)), (3, .int (np_i x3)), (4, .int (np_i x4))] → W p l e R s m args below meth c H locs 0 0 Q (F0 m 10 ls []) := by
  intro n
  induction n with
  | zero => intro x2 x3 x4 σ H locs ls hf; cases hf
  | succ n ih =>
    intro x2 x3 x4 σ H locs ls hf hat hl
    have h10 := ih
    have hf : f_Arrays_fill_2_10_b  (fun x2 x3 x4 σ => f_Arrays_fill_2_10  n x2 x3 x4 σ) x2 x3 x4 σ = some out := hf
    unfold f_Arrays_fill_2_10_b at hf
    refine lv_iload C.x C.b dd_Arrays_fill_10 (lv_at hl 3 rfl) ?_
    refine lv_iload_n C.x C.b dd_Arrays_fill_12 rfl (lv_at hl 1 rfl) ?_
    refine np_icmp_ge (tgt := 27) C dd_Arrays_fill_13 (by decide) hf (fun _ hf => ?_) (fun _ hf => ?_)
    · exact hQ _ _ _ _ dd_Arrays_fill_27 hf hat
    · refine lv_aload_n C.x C.b dd_Arrays_fill_16 rfl (lv_at hl 0 rfl) ?_
      refine lv_iload C.x C.b dd_Arrays_fill_17 (lv_at hl 3 rfl) ?_
      refine lv_iload_n C.x C.b dd_Arrays_fill_19 rfl (lv_at hl 2 rfl) ?_
      refine np_iastore C hat 2 (nc_a2 _) 0 rfl (by decide) (nc_s2 _ _ _) dd_Arrays_fill_20 hf (fun H locs hat hf => ?_)
      refine lv_iinc (v := np_i (x4 + 1)) (lv' := [(4, .int (np_i (x4 + 1))), (0, .ref (q 2)), (2, .int (np_i x2)), (3, .int (np_i x3))]) C.x C.b dd_Arrays_fill_21 hl (k := 3) rfl (np_inc _ _) (by decide) rfl (fun ls hl => ?_)
      refine lv_goto (tgt := 10) C.x C.b dd_Arrays_fill_24 (by decide) ?_
      exact h10 _ _ _ _ _ _ _ hf hat (lv_sub hl [1, 2, 3, 0] rfl)
set_option maxHeartbeats 4000000 in
set_option maxRecDepth 100000 in
theorem w_f_Arrays_fill_2 (C : np_Cx gA p R s m args c D np_cl (np_ty cA) A np_al "java/util/Arrays" prog_25_method_104_code 5 { frames := 1, cells := 0, slots := 0, locals := 22 }) (hQ : ∀ (pc : Nat) (ls : Array Slot) (H : Heap) (locs : List Loc) {σ : np_S}, decode prog_25_method_104_code pc = .ok (.return_, 1) → some ((0 : Int), σ) = some out → np_At D np_cl A (nc_wd q cA) s σ H locs → W p l e R s m args below meth c H locs 0 0 Q (F0 m pc ls []))   : ∀ (x1 x2 x3 : Int) (σ : np_S) (H : Heap) (locs : List Loc) (ls : Array Slot), f_Arrays_fill_2  x1 x2 x3 σ = some out → np_At D np_cl A (nc_wd q cA) s σ H locs → lv_has ls 5 [(0, .ref (q 2)), (1, .int (np_i x1)), (2, .int (np_i x2)), (3, .int (np_i x3))] → W p l e R s m args below meth c H locs 0 0 Q (F0 m 0 ls []) := by
  intro x1 x2 x3 σ H locs ls hf hat hl
  unfold f_Arrays_fill_2 at hf
  refine lv_aload_n C.x C.b dd_Arrays_fill_0 rfl (lv_at hl 0 rfl) ?_
  refine np_alen (n := 105) C hat.1 2 (nc_a2 _) 0 rfl (show Int32.ofNat 105 = np_i 105 by decide +kernel) dd_Arrays_fill_1 ?_
  refine lv_iload_n C.x C.b dd_Arrays_fill_2 rfl (lv_at hl 1 rfl) ?_
  refine lv_iload_n C.x C.b dd_Arrays_fill_3 rfl (lv_at hl 2 rfl) ?_
  refine np_callSv (As := [.int (np_i 105), .int (np_i x1), .int (np_i x2)]) (rest := []) C (c_Arrays_rangeCheck l 105 x1 x2 _) np_allgood tw_494 tw_495 tw_3 tw_496 (nA := 3) (by decide +kernel) rfl ⟨rfl, rfl, Nat.le_of_ble_eq_true rfl, Nat.le_of_ble_eq_true rfl⟩ hat rfl hl.1 (Nat.le_of_ble_eq_true rfl) dd_Arrays_fill_4 hf (fun o1 H locs hf hat => ?_)
  refine lv_iload_n C.x C.b dd_Arrays_fill_7 rfl (lv_at hl 1 rfl) ?_
  refine lv_istore (lv' := [(4, .int (np_i x1)), (0, .ref (q 2)), (1, .int (np_i x1)), (2, .int (np_i x2)), (3, .int (np_i x3))]) C.x C.b dd_Arrays_fill_8 hl (by decide) rfl (fun ls hl => ?_)
  exact w_f_Arrays_fill_2_10 C hQ  6000 _ _ _ _ _ _ _ hf hat (lv_sub hl [1, 3, 4, 0] rfl)
set_option maxHeartbeats 4000000 in
set_option maxRecDepth 100000 in
theorem c_Arrays_fill_2 (l : Launch) {gA : Nat → Nat} {D : va_G} {q : Nat → Nat} {cA : Nat → ClassId} (x1 x2 x3 : Int) (σ : np_S) : np_Mv gA l D np_cl (np_ty cA) (nc_wd q cA) yy_Arrays_fill (.code yy_Arrays_fill prog_25_method_104_code 5 none :: np_al) { frames := 1, cells := 0, slots := 0, locals := 22 } [.ref (q 2), .int (np_i x1), .int (np_i x2), .int (np_i x3)] σ (f_Arrays_fill_2 x1 x2 x3 σ) :=
  np_mkv (by decide +kernel) (Nat.le_of_ble_eq_true rfl) (fun o p e R s m args below meth c Q A ls hf C hQ hat hl => w_f_Arrays_fill_2 C hQ x1 x2 x3 σ _ _ _ hf hat (lv_sub hl [0, 1, 2, 3] rfl))
set_option maxHeartbeats 4000000 in
set_option maxRecDepth 100000 in
theorem w_f_Arrays_fill2_3_10 (C : np_Cx gA p R s m args c D np_cl (np_ty cA) A np_al "java/util/Arrays" prog_25_method_102_code 6 { frames := 1, cells := 0, slots := 0, locals := 22 }) (hQ : ∀ (pc : Nat) (ls : Array Slot) (H : Heap) (locs : List Loc) {σ : np_S}, decode prog_25_method_102_code pc = .ok (.return_, 1) → some ((0 : Int), σ) = some out → np_At D np_cl A (nc_wd q cA) s σ H locs → W p l e R s m args below meth c H locs 0 0 Q (F0 m pc ls []))   : ∀ (n : Nat), ∀ (x2 x3 x5 : Int) (σ : np_S) (H : Heap) (locs : List Loc) (ls : Array Slot), f_Arrays_fill2_3_10  n x2 x3 x5 σ = some out → np_At D np_cl A (nc_wd q cA) s σ H locs → lv_has ls 6 [(0, .ref (q 3)), (2, .int (np_i x2)), (3, .long (np_l x3)), (5, .int (np_i x5))] → W p l e R s m args below meth c H locs 0 0 Q (F0 m 10 ls []) := by
  intro n
  induction n with
  | zero => intro x2 x3 x5 σ H locs ls hf; cases hf
  | succ n ih =>
    intro x2 x3 x5 σ H locs ls hf hat hl
    have h10 := ih
    have hf : f_Arrays_fill2_3_10_b  (fun x2 x3 x5 σ => f_Arrays_fill2_3_10  n x2 x3 x5 σ) x2 x3 x5 σ = some out := hf
    unfold f_Arrays_fill2_3_10_b at hf
    refine lv_iload C.x C.b dd_Arrays_fill2_10 (lv_at hl 3 rfl) ?_
    refine lv_iload_n C.x C.b dd_Arrays_fill2_12 rfl (lv_at hl 1 rfl) ?_
    refine np_icmp_ge (tgt := 27) C dd_Arrays_fill2_13 (by decide) hf (fun _ hf => ?_) (fun _ hf => ?_)
    · exact hQ _ _ _ _ dd_Arrays_fill2_27 hf hat
    · refine lv_aload_n C.x C.b dd_Arrays_fill2_16 rfl (lv_at hl 0 rfl) ?_
      refine lv_iload C.x C.b dd_Arrays_fill2_17 (lv_at hl 3 rfl) ?_
      refine lv_lload_n C.x C.b dd_Arrays_fill2_19 rfl (lv_at hl 2 rfl) ?_
      refine np_lastore C hat 3 (nc_a3 _) 1 rfl (by decide) (nc_s3 _ _ _) dd_Arrays_fill2_20 hf (fun H locs hat hf => ?_)
      refine lv_iinc (v := np_i (x5 + 1)) (lv' := [(5, .int (np_i (x5 + 1))), (0, .ref (q 3)), (2, .int (np_i x2)), (3, .long (np_l x3))]) C.x C.b dd_Arrays_fill2_21 hl (k := 3) rfl (np_inc _ _) (by decide) rfl (fun ls hl => ?_)
      refine lv_goto (tgt := 10) C.x C.b dd_Arrays_fill2_24 (by decide) ?_
      exact h10 _ _ _ _ _ _ _ hf hat (lv_sub hl [1, 2, 3, 0] rfl)
set_option maxHeartbeats 4000000 in
set_option maxRecDepth 100000 in
theorem w_f_Arrays_fill2_3 (C : np_Cx gA p R s m args c D np_cl (np_ty cA) A np_al "java/util/Arrays" prog_25_method_102_code 6 { frames := 1, cells := 0, slots := 0, locals := 22 }) (hQ : ∀ (pc : Nat) (ls : Array Slot) (H : Heap) (locs : List Loc) {σ : np_S}, decode prog_25_method_102_code pc = .ok (.return_, 1) → some ((0 : Int), σ) = some out → np_At D np_cl A (nc_wd q cA) s σ H locs → W p l e R s m args below meth c H locs 0 0 Q (F0 m pc ls []))   : ∀ (x1 x2 x3 : Int) (σ : np_S) (H : Heap) (locs : List Loc) (ls : Array Slot), f_Arrays_fill2_3  x1 x2 x3 σ = some out → np_At D np_cl A (nc_wd q cA) s σ H locs → lv_has ls 6 [(0, .ref (q 3)), (1, .int (np_i x1)), (2, .int (np_i x2)), (3, .long (np_l x3))] → W p l e R s m args below meth c H locs 0 0 Q (F0 m 0 ls []) := by
  intro x1 x2 x3 σ H locs ls hf hat hl
  unfold f_Arrays_fill2_3 at hf
  refine lv_aload_n C.x C.b dd_Arrays_fill2_0 rfl (lv_at hl 0 rfl) ?_
  refine np_alen (n := 105) C hat.1 3 (nc_a3 _) 1 rfl (show Int32.ofNat 105 = np_i 105 by decide +kernel) dd_Arrays_fill2_1 ?_
  refine lv_iload_n C.x C.b dd_Arrays_fill2_2 rfl (lv_at hl 1 rfl) ?_
  refine lv_iload_n C.x C.b dd_Arrays_fill2_3 rfl (lv_at hl 2 rfl) ?_
  refine np_callSv (As := [.int (np_i 105), .int (np_i x1), .int (np_i x2)]) (rest := []) C (c_Arrays_rangeCheck l 105 x1 x2 _) np_allgood tw_494 tw_495 tw_3 tw_496 (nA := 3) (by decide +kernel) rfl ⟨rfl, rfl, Nat.le_of_ble_eq_true rfl, Nat.le_of_ble_eq_true rfl⟩ hat rfl hl.1 (Nat.le_of_ble_eq_true rfl) dd_Arrays_fill2_4 hf (fun o1 H locs hf hat => ?_)
  refine lv_iload_n C.x C.b dd_Arrays_fill2_7 rfl (lv_at hl 1 rfl) ?_
  refine lv_istore (lv' := [(5, .int (np_i x1)), (0, .ref (q 3)), (1, .int (np_i x1)), (2, .int (np_i x2)), (3, .long (np_l x3))]) C.x C.b dd_Arrays_fill2_8 hl (by decide) rfl (fun ls hl => ?_)
  exact w_f_Arrays_fill2_3_10 C hQ  6000 _ _ _ _ _ _ _ hf hat (lv_sub hl [1, 3, 4, 0] rfl)
set_option maxHeartbeats 4000000 in
set_option maxRecDepth 100000 in
theorem c_Arrays_fill2_3 (l : Launch) {gA : Nat → Nat} {D : va_G} {q : Nat → Nat} {cA : Nat → ClassId} (x1 x2 x3 : Int) (σ : np_S) : np_Mv gA l D np_cl (np_ty cA) (nc_wd q cA) yy_Arrays_fill2 (.code yy_Arrays_fill2 prog_25_method_102_code 6 none :: np_al) { frames := 1, cells := 0, slots := 0, locals := 22 } [.ref (q 3), .int (np_i x1), .int (np_i x2), .long (np_l x3)] σ (f_Arrays_fill2_3 x1 x2 x3 σ) :=
  np_mkv (by decide +kernel) (Nat.le_of_ble_eq_true rfl) (fun o p e R s m args below meth c Q A ls hf C hQ hat hl => w_f_Arrays_fill2_3 C hQ x1 x2 x3 σ _ _ _ hf hat (lv_sub hl [0, 1, 2, 3] rfl))
set_option maxHeartbeats 4000000 in
set_option maxRecDepth 100000 in
theorem w_f_Grammar_dropHand (C : np_Cx gA p R s m args c D np_cl (np_ty cA) A np_al "NotationParse$Grammar" prog_3_method_7_code 1 { frames := 2, cells := 0, slots := 0, locals := 47 }) (hQ : ∀ (pc : Nat) (ls : Array Slot) (H : Heap) (locs : List Loc) {σ : np_S}, decode prog_3_method_7_code pc = .ok (.return_, 1) → some ((0 : Int), σ) = some out → np_At D np_cl A (nc_wd q cA) s σ H locs → W p l e R s m args below meth c H locs 0 0 Q (F0 m pc ls []))   : ∀ (σ : np_S) (H : Heap) (locs : List Loc) (ls : Array Slot), f_Grammar_dropHand  σ = some out → np_At D np_cl A (nc_wd q cA) s σ H locs → lv_has ls 1 [(0, .ref (q 1))] → W p l e R s m args below meth c H locs 0 0 Q (F0 m 0 ls []) := by
  intro σ H locs ls hf hat hl
  unfold f_Grammar_dropHand at hf
  refine lv_aload_n C.x C.b dd_Grammar_dropHand_0 rfl (lv_at hl 0 rfl) ?_
  refine np_get (v := .ref (q 2)) C i_Grammar hat.1 1 (nc_o1 _) rfl 0 (by decide) tw_50 rfl rfl dd_Grammar_dropHand_1 ?_
  refine lv_aload_n C.x C.b dd_Grammar_dropHand_4 rfl (lv_at hl 0 rfl) ?_
  refine np_callVi (As := []) (rest := [.ref (q 2)]) C (c_Grammar_usedDots l _) np_allgood tw_355 tw_356 tw_357 tw_2 tw_358 (nA := 0) (by decide +kernel) rfl ⟨rfl, rfl, Nat.le_of_ble_eq_true rfl, Nat.le_of_ble_eq_true rfl⟩ (nc_o1 _) rfl hat rfl hl.1 (Nat.le_of_ble_eq_true rfl) dd_Grammar_dropHand_5 hf (fun o1 H locs hf hat => ?_)
  refine lv_aload_n C.x C.b dd_Grammar_dropHand_8 rfl (lv_at hl 0 rfl) ?_
  refine np_callVi (As := []) (rest := [.int (np_i o1.1), .ref (q 2)]) C (c_Grammar_usedDots l _) np_allgood tw_355 tw_356 tw_357 tw_2 tw_358 (nA := 0) (by decide +kernel) rfl ⟨rfl, rfl, Nat.le_of_ble_eq_true rfl, Nat.le_of_ble_eq_true rfl⟩ (nc_o1 _) rfl hat rfl hl.1 (Nat.le_of_ble_eq_true rfl) dd_Grammar_dropHand_9 hf (fun o2 H locs hf hat => ?_)
  refine lv_bipush (v := np_i 7) C.x C.b dd_Grammar_dropHand_12 (by decide +kernel) ?_
  refine np_iadd C dd_Grammar_dropHand_14 ?_
  refine lv_iconst (v := np_i (-1)) C.x C.b dd_Grammar_dropHand_15 rfl ?_
  refine np_callSv (As := [.ref (q 2), .int (np_i o1.1), .int (np_i (o2.1 + 7)), .int (np_i ((-1)))]) (rest := []) C (c_Arrays_fill_2 l o1.1 (o2.1 + 7) ((-1)) _) np_allgood tw_491 tw_492 tw_3 tw_493 (nA := 4) (by decide +kernel) rfl ⟨rfl, rfl, Nat.le_of_ble_eq_true rfl, Nat.le_of_ble_eq_true rfl⟩ hat rfl hl.1 (Nat.le_of_ble_eq_true rfl) dd_Grammar_dropHand_16 hf (fun o3 H locs hf hat => ?_)
  refine lv_aload_n C.x C.b dd_Grammar_dropHand_19 rfl (lv_at hl 0 rfl) ?_
  refine np_get (v := .ref (q 3)) C i_Grammar hat.1 1 (nc_o1 _) rfl 1 (by decide) tw_53 rfl rfl dd_Grammar_dropHand_20 ?_
  refine lv_aload_n C.x C.b dd_Grammar_dropHand_23 rfl (lv_at hl 0 rfl) ?_
  refine np_callVi (As := []) (rest := [.ref (q 3)]) C (c_Grammar_usedDots l _) np_allgood tw_355 tw_356 tw_357 tw_2 tw_358 (nA := 0) (by decide +kernel) rfl ⟨rfl, rfl, Nat.le_of_ble_eq_true rfl, Nat.le_of_ble_eq_true rfl⟩ (nc_o1 _) rfl hat rfl hl.1 (Nat.le_of_ble_eq_true rfl) dd_Grammar_dropHand_24 hf (fun o4 H locs hf hat => ?_)
  refine lv_aload_n C.x C.b dd_Grammar_dropHand_27 rfl (lv_at hl 0 rfl) ?_
  refine np_callVi (As := []) (rest := [.int (np_i o4.1), .ref (q 3)]) C (c_Grammar_usedDots l _) np_allgood tw_355 tw_356 tw_357 tw_2 tw_358 (nA := 0) (by decide +kernel) rfl ⟨rfl, rfl, Nat.le_of_ble_eq_true rfl, Nat.le_of_ble_eq_true rfl⟩ (nc_o1 _) rfl hat rfl hl.1 (Nat.le_of_ble_eq_true rfl) dd_Grammar_dropHand_28 hf (fun o5 H locs hf hat => ?_)
  refine lv_bipush (v := np_i 7) C.x C.b dd_Grammar_dropHand_31 (by decide +kernel) ?_
  refine np_iadd C dd_Grammar_dropHand_33 ?_
  refine np_ldc2 (v := (-1)) C tw_44 dd_Grammar_dropHand_34 ?_
  refine np_callSv (As := [.ref (q 3), .int (np_i o4.1), .int (np_i (o5.1 + 7)), .long (np_l ((-1)))]) (rest := []) C (c_Arrays_fill2_3 l o4.1 (o5.1 + 7) ((-1)) _) np_allgood tw_703 tw_704 tw_3 tw_705 (nA := 4) (by decide +kernel) rfl ⟨rfl, rfl, Nat.le_of_ble_eq_true rfl, Nat.le_of_ble_eq_true rfl⟩ hat rfl hl.1 (Nat.le_of_ble_eq_true rfl) dd_Grammar_dropHand_37 hf (fun o6 H locs hf hat => ?_)
  refine lv_aload_n C.x C.b dd_Grammar_dropHand_40 rfl (lv_at hl 0 rfl) ?_
  refine lv_iconst (v := np_i 0) C.x C.b dd_Grammar_dropHand_41 rfl ?_
  refine np_put C i_Grammar t_Grammar tok_Grammar n_Grammar hat 1 (nc_o1 _) rfl 5 (by decide) tw_62 rfl rfl (by decide +kernel) (np_narI 0) (np_fitI 0) (Nat.le_of_ble_eq_true rfl) (nc_s1_5 _ _) dd_Grammar_dropHand_42 (fun H locs hat => ?_)
  exact hQ _ _ _ _ dd_Grammar_dropHand_45 hf hat
set_option maxHeartbeats 4000000 in
set_option maxRecDepth 100000 in
theorem c_Grammar_dropHand (l : Launch) {gA : Nat → Nat} {D : va_G} {q : Nat → Nat} {cA : Nat → ClassId} (σ : np_S) : np_Mv gA l D np_cl (np_ty cA) (nc_wd q cA) yy_Grammar_dropHand (.code yy_Grammar_dropHand prog_3_method_7_code 1 none :: np_al) { frames := 2, cells := 0, slots := 0, locals := 47 } [.ref (q 1)] σ (f_Grammar_dropHand  σ) :=
  np_mkv (by decide +kernel) (Nat.le_of_ble_eq_true rfl) (fun o p e R s m args below meth c Q A ls hf C hQ hat hl => w_f_Grammar_dropHand C hQ  σ _ _ _ hf hat (lv_sub hl [0] rfl))
set_option maxHeartbeats 4000000 in
set_option maxRecDepth 100000 in
theorem w_f_Spelling_byteOf (C : np_Cx gA p R s m args c D np_cl (np_ty cA) A np_al "NotationParse$Spelling" prog_5_method_3_code 3 { frames := 0, cells := 0, slots := 0, locals := 0 }) (hQ : ∀ (pc : Nat) (ls : Array Slot) (H : Heap) (locs : List Loc) (v : Int) {σ : np_S}, decode prog_5_method_3_code pc = .ok (.ireturn, 1) → some (v, σ) = some out → np_At D np_cl A (nc_wd q cA) s σ H locs → W p l e R s m args below meth c H locs 0 0 Q (F0 m pc ls [.int (np_i v)]))   : ∀ (x0 x2 : Int) (σ : np_S) (H : Heap) (locs : List Loc) (ls : Array Slot), f_Spelling_byteOf  x0 x2 σ = some out → np_At D np_cl A (nc_wd q cA) s σ H locs → lv_has ls 3 [(0, .long (np_l x0)), (2, .int (np_i x2))] → W p l e R s m args below meth c H locs 0 0 Q (F0 m 0 ls []) := by
  intro x0 x2 σ H locs ls hf hat hl
  unfold f_Spelling_byteOf at hf
  refine lv_lload_n C.x C.b dd_Spelling_byteOf_0 rfl (lv_at hl 0 rfl) ?_
  refine lv_bipush (v := np_i 8) C.x C.b dd_Spelling_byteOf_1 (by decide +kernel) ?_
  refine lv_iload_n C.x C.b dd_Spelling_byteOf_3 rfl (lv_at hl 1 rfl) ?_
  refine np_imul C dd_Spelling_byteOf_4 ?_
  refine np_lushr C dd_Spelling_byteOf_5 ?_
  refine np_l2i C dd_Spelling_byteOf_6 ?_
  refine lv_sipush (v := np_i 255) C.x C.b dd_Spelling_byteOf_7 (by decide +kernel) ?_
  refine np_iand C dd_Spelling_byteOf_10 ?_
  exact hQ _ _ _ _ _ dd_Spelling_byteOf_11 hf hat
set_option maxHeartbeats 4000000 in
set_option maxRecDepth 100000 in
theorem c_Spelling_byteOf (l : Launch) {gA : Nat → Nat} {D : va_G} {q : Nat → Nat} {cA : Nat → ClassId} (x0 x2 : Int) (σ : np_S) : np_Mi gA l D np_cl (np_ty cA) (nc_wd q cA) yy_Spelling_byteOf (.code yy_Spelling_byteOf prog_5_method_3_code 3 (some .int) :: np_al) { frames := 0, cells := 0, slots := 0, locals := 0 } [.long (np_l x0), .int (np_i x2)] σ (f_Spelling_byteOf x0 x2 σ) :=
  np_mki (by decide +kernel) (Nat.le_of_ble_eq_true rfl) (fun o p e R s m args below meth c Q A ls hf C hQ hat hl => w_f_Spelling_byteOf C hQ x0 x2 σ _ _ _ hf hat (lv_sub hl [0, 1] rfl))
set_option maxHeartbeats 4000000 in
set_option maxRecDepth 100000 in
theorem w_f_Text_append_5 (C : np_Cx gA p R s m args c D np_cl (np_ty cA) A np_al "NotationParse$Text" prog_6_method_2_code 5 { frames := 1, cells := 0, slots := 0, locals := 22 }) (hQ : ∀ (pc : Nat) (ls : Array Slot) (H : Heap) (locs : List Loc) {σ : np_S}, decode prog_6_method_2_code pc = .ok (.return_, 1) → some ((0 : Int), σ) = some out → np_At D np_cl A (nc_wd q cA) s σ H locs → W p l e R s m args below meth c H locs 0 0 Q (F0 m pc ls []))   : ∀ (n : Nat), ∀ (x1 x4 : Int) (σ : np_S) (H : Heap) (locs : List Loc) (ls : Array Slot), f_Text_append_5  n x1 x4 σ = some out → np_At D np_cl A (nc_wd q cA) s σ H locs → lv_has ls 5 [(0, .ref (q 6)), (1, .long (np_l x1)), (4, .int (np_i x4))] → W p l e R s m args below meth c H locs 0 0 Q (F0 m 5 ls []) := by
  intro n
  induction n with
  | zero => intro x1 x4 σ H locs ls hf; cases hf
  | succ n ih =>
    intro x1 x4 σ H locs ls hf hat hl
    have h5 := ih
    have hf : f_Text_append_5_b  (fun x1 x4 σ => f_Text_append_5  n x1 x4 σ) x1 x4 σ = some out := hf
    unfold f_Text_append_5_b at hf
    refine lv_iload C.x C.b dd_Text_append_5 (lv_at hl 2 rfl) ?_
    refine np_if_lt (tgt := 42) C dd_Text_append_7 (by decide) hf (fun _ hf => ?_) (fun _ hf => ?_)
    · exact hQ _ _ _ _ dd_Text_append_42 hf hat
    · refine lv_aload_n C.x C.b dd_Text_append_10 rfl (lv_at hl 0 rfl) ?_
      refine np_get (v := .ref (q 7)) C i_Text hat.1 6 (nc_o6 _) rfl 0 (by decide) tw_85 rfl rfl dd_Text_append_11 ?_
      refine lv_aload_n C.x C.b dd_Text_append_14 rfl (lv_at hl 0 rfl) ?_
      refine np_get (v := .int (np_i (σ 6 1))) C i_Text hat.1 6 (nc_o6 _) rfl 1 (by decide) tw_86 rfl rfl dd_Text_append_15 ?_
      refine lv_lload_n C.x C.b dd_Text_append_18 rfl (lv_at hl 1 rfl) ?_
      refine lv_iload C.x C.b dd_Text_append_19 (lv_at hl 2 rfl) ?_
      refine np_callSi (As := [.long (np_l x1), .int (np_i x4)]) (rest := [.int (np_i (σ 6 1)), .ref (q 7)]) C (c_Spelling_byteOf l x1 x4 _) np_allgood tw_234 tw_235 tw_14 tw_236 (nA := 2) (by decide +kernel) rfl ⟨rfl, rfl, Nat.le_of_ble_eq_true rfl, Nat.le_of_ble_eq_true rfl⟩ hat rfl hl.1 (Nat.le_of_ble_eq_true rfl) dd_Text_append_21 hf (fun o1 H locs hf hat => ?_)
      refine np_i2b C dd_Text_append_24 ?_
      refine np_bastore C hat 7 (nc_a7 _) 2 rfl (by decide) (nc_s7 _ _ _) dd_Text_append_25 hf (fun H locs hat hf => ?_)
      refine lv_aload_n C.x C.b dd_Text_append_26 rfl (lv_at hl 0 rfl) ?_
      refine lv_dup C.x C.b dd_Text_append_27 rfl ?_
      refine np_get (v := .int (np_i ((np_st o1.2 7 (σ 6 1) (Int.bmod (Int.bmod o1.1 256) 256)) 6 1))) C i_Text hat.1 6 (nc_o6 _) rfl 1 (by decide) tw_86 rfl rfl dd_Text_append_28 ?_
      refine lv_iconst (v := np_i 1) C.x C.b dd_Text_append_31 rfl ?_
      refine np_iadd C dd_Text_append_32 ?_
      refine np_put C i_Text t_Text tok_Text n_Text hat 6 (nc_o6 _) rfl 1 (by decide) tw_86 rfl rfl (by decide +kernel) (np_narI (((np_st o1.2 7 (σ 6 1) (Int.bmod (Int.bmod o1.1 256) 256)) 6 1) + 1)) (np_fitI (((np_st o1.2 7 (σ 6 1) (Int.bmod (Int.bmod o1.1 256) 256)) 6 1) + 1)) (Nat.le_of_ble_eq_true rfl) (nc_s6_1 _ _) dd_Text_append_33 (fun H locs hat => ?_)
      refine lv_iinc (v := np_i (x4 + (-1))) (lv' := [(4, .int (np_i (x4 + (-1)))), (0, .ref (q 6)), (1, .long (np_l x1))]) C.x C.b dd_Text_append_36 hl (k := 2) rfl (np_inc _ _) (by decide) rfl (fun ls hl => ?_)
      refine lv_goto (tgt := 5) C.x C.b dd_Text_append_39 (by decide) ?_
      exact h5 _ _ _ _ _ _ hf hat (lv_sub hl [1, 2, 0] rfl)
set_option maxHeartbeats 4000000 in
set_option maxRecDepth 100000 in
theorem w_f_Text_append (C : np_Cx gA p R s m args c D np_cl (np_ty cA) A np_al "NotationParse$Text" prog_6_method_2_code 5 { frames := 1, cells := 0, slots := 0, locals := 22 }) (hQ : ∀ (pc : Nat) (ls : Array Slot) (H : Heap) (locs : List Loc) {σ : np_S}, decode prog_6_method_2_code pc = .ok (.return_, 1) → some ((0 : Int), σ) = some out → np_At D np_cl A (nc_wd q cA) s σ H locs → W p l e R s m args below meth c H locs 0 0 Q (F0 m pc ls []))   : ∀ (x1 x3 : Int) (σ : np_S) (H : Heap) (locs : List Loc) (ls : Array Slot), f_Text_append  x1 x3 σ = some out → np_At D np_cl A (nc_wd q cA) s σ H locs → lv_has ls 5 [(0, .ref (q 6)), (1, .long (np_l x1)), (3, .int (np_i x3))] → W p l e R s m args below meth c H locs 0 0 Q (F0 m 0 ls []) := by
  intro x1 x3 σ H locs ls hf hat hl
  unfold f_Text_append at hf
  refine lv_iload_n C.x C.b dd_Text_append_0 rfl (lv_at hl 2 rfl) ?_
  refine lv_iconst (v := np_i 1) C.x C.b dd_Text_append_1 rfl ?_
  refine np_isub C dd_Text_append_2 ?_
  refine lv_istore (lv' := [(4, .int (np_i (x3 - 1))), (0, .ref (q 6)), (1, .long (np_l x1)), (3, .int (np_i x3))]) C.x C.b dd_Text_append_3 hl (by decide) rfl (fun ls hl => ?_)
  exact w_f_Text_append_5 C hQ  6000 _ _ _ _ _ _ hf hat (lv_sub hl [1, 2, 0] rfl)
set_option maxHeartbeats 4000000 in
set_option maxRecDepth 100000 in
theorem c_Text_append (l : Launch) {gA : Nat → Nat} {D : va_G} {q : Nat → Nat} {cA : Nat → ClassId} (x1 x3 : Int) (σ : np_S) : np_Mv gA l D np_cl (np_ty cA) (nc_wd q cA) yy_Text_append (.code yy_Text_append prog_6_method_2_code 5 none :: np_al) { frames := 1, cells := 0, slots := 0, locals := 22 } [.ref (q 6), .long (np_l x1), .int (np_i x3)] σ (f_Text_append x1 x3 σ) :=
  np_mkv (by decide +kernel) (Nat.le_of_ble_eq_true rfl) (fun o p e R s m args below meth c Q A ls hf C hQ hat hl => w_f_Text_append C hQ x1 x3 σ _ _ _ hf hat (lv_sub hl [0, 1, 2] rfl))
set_option maxHeartbeats 4000000 in
set_option maxRecDepth 100000 in
theorem w_f_N_put_26 (C : np_Cx gA p R s m args c D np_cl (np_ty cA) A np_al "NotationParse" prog_1_method_5_code 4 { frames := 2, cells := 0, slots := 0, locals := 46 }) (hQ : ∀ (pc : Nat) (ls : Array Slot) (H : Heap) (locs : List Loc) (v : Int) {σ : np_S}, decode prog_1_method_5_code pc = .ok (.ireturn, 1) → np_ck (v = 0 ∨ v = 1) (some (v, σ)) = some out → np_At D np_cl A (nc_wd q cA) s σ H locs → W p l e R s m args below meth c H locs 0 0 Q (F0 m pc ls [.int (np_i v)]))   : ∀ (σ : np_S) (H : Heap) (locs : List Loc) (ls : Array Slot), f_N_put_26  σ = some out → np_At D np_cl A (nc_wd q cA) s σ H locs → lv_has ls 4 [] → W p l e R s m args below meth c H locs 0 0 Q (F0 m 26 ls []) := by
  intro σ H locs ls hf hat hl
  unfold f_N_put_26 at hf
  refine lv_iconst (v := np_i 0) C.x C.b dd_N_put_26 rfl ?_
  exact hQ _ _ _ _ _ dd_N_put_27 hf hat
set_option maxHeartbeats 4000000 in
set_option maxRecDepth 100000 in
theorem w_f_N_put (C : np_Cx gA p R s m args c D np_cl (np_ty cA) A np_al "NotationParse" prog_1_method_5_code 4 { frames := 2, cells := 0, slots := 0, locals := 46 }) (hQ : ∀ (pc : Nat) (ls : Array Slot) (H : Heap) (locs : List Loc) (v : Int) {σ : np_S}, decode prog_1_method_5_code pc = .ok (.ireturn, 1) → np_ck (v = 0 ∨ v = 1) (some (v, σ)) = some out → np_At D np_cl A (nc_wd q cA) s σ H locs → W p l e R s m args below meth c H locs 0 0 Q (F0 m pc ls [.int (np_i v)]))   : ∀ (x1 x3 : Int) (σ : np_S) (H : Heap) (locs : List Loc) (ls : Array Slot), f_N_put  x1 x3 σ = some out → np_At D np_cl A (nc_wd q cA) s σ H locs → lv_has ls 4 [(0, .ref (q 0)), (1, .long (np_l x1)), (3, .int (np_i x3))] → W p l e R s m args below meth c H locs 0 0 Q (F0 m 0 ls []) := by
  intro x1 x3 σ H locs ls hf hat hl
  unfold f_N_put at hf
  refine lv_iload_n C.x C.b dd_N_put_0 rfl (lv_at hl 2 rfl) ?_
  refine lv_iconst (v := np_i 1) C.x C.b dd_N_put_1 rfl ?_
  refine np_icmp_lt (tgt := 26) C dd_N_put_2 (by decide) hf (fun _ hf => ?_) (fun _ hf => ?_)
  · exact w_f_N_put_26 C hQ   _ _ _ _ hf hat (lv_sub hl [] rfl)
  · refine lv_iload_n C.x C.b dd_N_put_5 rfl (lv_at hl 2 rfl) ?_
    refine lv_bipush (v := np_i 8) C.x C.b dd_N_put_6 (by decide +kernel) ?_
    refine np_icmp_gt (tgt := 26) C dd_N_put_8 (by decide) hf (fun _ hf => ?_) (fun _ hf => ?_)
    · exact w_f_N_put_26 C hQ   _ _ _ _ hf hat (lv_sub hl [] rfl)
    · refine lv_iload_n C.x C.b dd_N_put_11 rfl (lv_at hl 2 rfl) ?_
      refine lv_sipush (v := np_i 200) C.x C.b dd_N_put_12 (by decide +kernel) ?_
      refine lv_aload_n C.x C.b dd_N_put_15 rfl (lv_at hl 0 rfl) ?_
      refine np_get (v := .ref (q 6)) C i_N hat.1 0 (nc_o0 _) rfl 1 (by decide) tw_205 rfl rfl dd_N_put_16 ?_
      refine np_get (v := .int (np_i (σ 6 1))) C i_Text hat.1 6 (nc_o6 _) rfl 1 (by decide) tw_87 rfl rfl dd_N_put_19 ?_
      refine np_isub C dd_N_put_22 ?_
      refine np_icmp_le (tgt := 28) C dd_N_put_23 (by decide) hf (fun _ hf => ?_) (fun _ hf => ?_)
      · refine lv_aload_n C.x C.b dd_N_put_28 rfl (lv_at hl 0 rfl) ?_
        refine np_get (v := .ref (q 6)) C i_N hat.1 0 (nc_o0 _) rfl 1 (by decide) tw_205 rfl rfl dd_N_put_29 ?_
        refine lv_lload_n C.x C.b dd_N_put_32 rfl (lv_at hl 1 rfl) ?_
        refine lv_iload_n C.x C.b dd_N_put_33 rfl (lv_at hl 2 rfl) ?_
        refine np_callVv (As := [.long (np_l x1), .int (np_i x3)]) (rest := []) C (c_Text_append l x1 x3 _) np_allgood tw_230 tw_231 tw_232 tw_4 tw_233 (nA := 2) (by decide +kernel) rfl ⟨rfl, rfl, Nat.le_of_ble_eq_true rfl, Nat.le_of_ble_eq_true rfl⟩ (nc_o6 _) rfl hat rfl hl.1 (Nat.le_of_ble_eq_true rfl) dd_N_put_34 hf (fun o1 H locs hf hat => ?_)
        refine lv_iconst (v := np_i 1) C.x C.b dd_N_put_37 rfl ?_
        exact hQ _ _ _ _ _ dd_N_put_38 hf hat
      · exact w_f_N_put_26 C hQ   _ _ _ _ hf hat (lv_sub hl [] rfl)
set_option maxHeartbeats 4000000 in
set_option maxRecDepth 100000 in
theorem c_N_put (l : Launch) {gA : Nat → Nat} {D : va_G} {q : Nat → Nat} {cA : Nat → ClassId} (x1 x3 : Int) (σ : np_S) : np_Mi gA l D np_cl (np_ty cA) (nc_wd q cA) yy_N_put (.code yy_N_put prog_1_method_5_code 4 (some .boolean) :: np_al) { frames := 2, cells := 0, slots := 0, locals := 46 } [.ref (q 0), .long (np_l x1), .int (np_i x3)] σ (f_N_put x1 x3 σ) :=
  np_mkz (by decide +kernel) (Nat.le_of_ble_eq_true rfl) (fun o p e R s m args below meth c Q A ls hf C hQ hat hl => w_f_N_put C hQ x1 x3 σ _ _ _ hf hat (lv_sub hl [0, 1, 2] rfl))
set_option maxHeartbeats 4000000 in
set_option maxRecDepth 100000 in
theorem w_f_N_clear (C : np_Cx gA p R s m args c D np_cl (np_ty cA) A np_al "NotationParse" prog_1_method_6_code 1 { frames := 0, cells := 0, slots := 0, locals := 0 }) (hQ : ∀ (pc : Nat) (ls : Array Slot) (H : Heap) (locs : List Loc) {σ : np_S}, decode prog_1_method_6_code pc = .ok (.return_, 1) → some ((0 : Int), σ) = some out → np_At D np_cl A (nc_wd q cA) s σ H locs → W p l e R s m args below meth c H locs 0 0 Q (F0 m pc ls []))   : ∀ (σ : np_S) (H : Heap) (locs : List Loc) (ls : Array Slot), f_N_clear  σ = some out → np_At D np_cl A (nc_wd q cA) s σ H locs → lv_has ls 1 [(0, .ref (q 0))] → W p l e R s m args below meth c H locs 0 0 Q (F0 m 0 ls []) := by
  intro σ H locs ls hf hat hl
  unfold f_N_clear at hf
  refine lv_aload_n C.x C.b dd_N_clear_0 rfl (lv_at hl 0 rfl) ?_
  refine np_get (v := .ref (q 6)) C i_N hat.1 0 (nc_o0 _) rfl 1 (by decide) tw_205 rfl rfl dd_N_clear_1 ?_
  refine lv_iconst (v := np_i 0) C.x C.b dd_N_clear_4 rfl ?_
  refine np_put C i_Text t_Text tok_Text n_Text hat 6 (nc_o6 _) rfl 1 (by decide) tw_87 rfl rfl (by decide +kernel) (np_narI 0) (np_fitI 0) (Nat.le_of_ble_eq_true rfl) (nc_s6_1 _ _) dd_N_clear_5 (fun H locs hat => ?_)
  exact hQ _ _ _ _ dd_N_clear_8 hf hat
set_option maxHeartbeats 4000000 in
set_option maxRecDepth 100000 in
theorem c_N_clear (l : Launch) {gA : Nat → Nat} {D : va_G} {q : Nat → Nat} {cA : Nat → ClassId} (σ : np_S) : np_Mv gA l D np_cl (np_ty cA) (nc_wd q cA) yy_N_clear (.code yy_N_clear prog_1_method_6_code 1 none :: np_al) { frames := 0, cells := 0, slots := 0, locals := 0 } [.ref (q 0)] σ (f_N_clear  σ) :=
  np_mkv (by decide +kernel) (Nat.le_of_ble_eq_true rfl) (fun o p e R s m args below meth c Q A ls hf C hQ hat hl => w_f_N_clear C hQ  σ _ _ _ hf hat (lv_sub hl [0] rfl))
set_option maxHeartbeats 4000000 in
set_option maxRecDepth 100000 in
theorem w_f_Tree_fell (C : np_Cx gA p R s m args c D np_cl (np_ty cA) A np_al "NotationParse$Tree" prog_7_method_2_code 1 { frames := 0, cells := 0, slots := 0, locals := 0 }) (hQ : ∀ (pc : Nat) (ls : Array Slot) (H : Heap) (locs : List Loc) {σ : np_S}, decode prog_7_method_2_code pc = .ok (.return_, 1) → some ((0 : Int), σ) = some out → np_At D np_cl A (nc_wd q cA) s σ H locs → W p l e R s m args below meth c H locs 0 0 Q (F0 m pc ls []))   : ∀ (σ : np_S) (H : Heap) (locs : List Loc) (ls : Array Slot), f_Tree_fell  σ = some out → np_At D np_cl A (nc_wd q cA) s σ H locs → lv_has ls 1 [(0, .ref (q 15))] → W p l e R s m args below meth c H locs 0 0 Q (F0 m 0 ls []) := by
  intro σ H locs ls hf hat hl
  unfold f_Tree_fell at hf
  refine lv_aload_n C.x C.b dd_Tree_fell_0 rfl (lv_at hl 0 rfl) ?_
  refine lv_iconst (v := np_i 0) C.x C.b dd_Tree_fell_1 rfl ?_
  refine np_put C i_Tree t_Tree tok_Tree n_Tree hat 15 (nc_o15 _) rfl 2 (by decide) tw_142 rfl rfl (by decide +kernel) (np_narI 0) (np_fitI 0) (Nat.le_of_ble_eq_true rfl) (nc_s15_2 _ _) dd_Tree_fell_2 (fun H locs hat => ?_)
  exact hQ _ _ _ _ dd_Tree_fell_5 hf hat
set_option maxHeartbeats 4000000 in
set_option maxRecDepth 100000 in
theorem c_Tree_fell (l : Launch) {gA : Nat → Nat} {D : va_G} {q : Nat → Nat} {cA : Nat → ClassId} (σ : np_S) : np_Mv gA l D np_cl (np_ty cA) (nc_wd q cA) yy_Tree_fell (.code yy_Tree_fell prog_7_method_2_code 1 none :: np_al) { frames := 0, cells := 0, slots := 0, locals := 0 } [.ref (q 15)] σ (f_Tree_fell  σ) :=
  np_mkv (by decide +kernel) (Nat.le_of_ble_eq_true rfl) (fun o p e R s m args below meth c Q A ls hf C hQ hat hl => w_f_Tree_fell C hQ  σ _ _ _ hf hat (lv_sub hl [0] rfl))
set_option maxHeartbeats 4000000 in
set_option maxRecDepth 100000 in
theorem w_f_Arrays_fill_12_10 (C : np_Cx gA p R s m args c D np_cl (np_ty cA) A np_al "java/util/Arrays" prog_25_method_104_code 5 { frames := 1, cells := 0, slots := 0, locals := 22 }) (hQ : ∀ (pc : Nat) (ls : Array Slot) (H : Heap) (locs : List Loc) {σ : np_S}, decode prog_25_method_104_code pc = .ok (.return_, 1) → some ((0 : Int), σ) = some out → np_At D np_cl A (nc_wd q cA) s σ H locs → W p l e R s m args below meth c H locs 0 0 Q (F0 m pc ls []))   : ∀ (n : Nat), ∀ (x2 x3 x4 : Int) (σ : np_S) (H : Heap) (locs : List Loc) (ls : Array Slot), f_Arrays_fill_12_10  n x2 x3 x4 σ = some out → np_At D np_cl A (nc_wd q cA) s σ H locs → lv_has ls 5 [(0, .ref (q 12)), (2, .int (np_i x2)), (3, .int (np_i x3)), (4, .int (np_i x4))] → W p l e R s m args below meth c H locs 0 0 Q (F0 m 10 ls []) := by
  intro n
  induction n with
  | zero => intro x2 x3 x4 σ H locs ls hf; cases hf
  | succ n ih =>
    intro x2 x3 x4 σ H locs ls hf hat hl
    have h10 := ih
    have hf : f_Arrays_fill_12_10_b  (fun x2 x3 x4 σ => f_Arrays_fill_12_10  n x2 x3 x4 σ) x2 x3 x4 σ = some out := hf
    unfold f_Arrays_fill_12_10_b at hf
    refine lv_iload C.x C.b dd_Arrays_fill_10 (lv_at hl 3 rfl) ?_
    refine lv_iload_n C.x C.b dd_Arrays_fill_12 rfl (lv_at hl 1 rfl) ?_
    refine np_icmp_ge (tgt := 27) C dd_Arrays_fill_13 (by decide) hf (fun _ hf => ?_) (fun _ hf => ?_)
    · exact hQ _ _ _ _ dd_Arrays_fill_27 hf hat
    · refine lv_aload_n C.x C.b dd_Arrays_fill_16 rfl (lv_at hl 0 rfl) ?_
      refine lv_iload C.x C.b dd_Arrays_fill_17 (lv_at hl 3 rfl) ?_
      refine lv_iload_n C.x C.b dd_Arrays_fill_19 rfl (lv_at hl 2 rfl) ?_
      refine np_iastore C hat 12 (nc_a12 _) 0 rfl (by decide) (nc_s12 _ _ _) dd_Arrays_fill_20 hf (fun H locs hat hf => ?_)
      refine lv_iinc (v := np_i (x4 + 1)) (lv' := [(4, .int (np_i (x4 + 1))), (0, .ref (q 12)), (2, .int (np_i x2)), (3, .int (np_i x3))]) C.x C.b dd_Arrays_fill_21 hl (k := 3) rfl (np_inc _ _) (by decide) rfl (fun ls hl => ?_)
      refine lv_goto (tgt := 10) C.x C.b dd_Arrays_fill_24 (by decide) ?_
      exact h10 _ _ _ _ _ _ _ hf hat (lv_sub hl [1, 2, 3, 0] rfl)
set_option maxHeartbeats 4000000 in
set_option maxRecDepth 100000 in
theorem w_f_Arrays_fill_12 (C : np_Cx gA p R s m args c D np_cl (np_ty cA) A np_al "java/util/Arrays" prog_25_method_104_code 5 { frames := 1, cells := 0, slots := 0, locals := 22 }) (hQ : ∀ (pc : Nat) (ls : Array Slot) (H : Heap) (locs : List Loc) {σ : np_S}, decode prog_25_method_104_code pc = .ok (.return_, 1) → some ((0 : Int), σ) = some out → np_At D np_cl A (nc_wd q cA) s σ H locs → W p l e R s m args below meth c H locs 0 0 Q (F0 m pc ls []))   : ∀ (x1 x2 x3 : Int) (σ : np_S) (H : Heap) (locs : List Loc) (ls : Array Slot), f_Arrays_fill_12  x1 x2 x3 σ = some out → np_At D np_cl A (nc_wd q cA) s σ H locs → lv_has ls 5 [(0, .ref (q 12)), (1, .int (np_i x1)), (2, .int (np_i x2)), (3, .int (np_i x3))] → W p l e R s m args below meth c H locs 0 0 Q (F0 m 0 ls []) := by
  intro x1 x2 x3 σ H locs ls hf hat hl
  unfold f_Arrays_fill_12 at hf
  refine lv_aload_n C.x C.b dd_Arrays_fill_0 rfl (lv_at hl 0 rfl) ?_
  refine np_alen (n := 3038) C hat.1 12 (nc_a12 _) 0 rfl (show Int32.ofNat 3038 = np_i 3038 by decide +kernel) dd_Arrays_fill_1 ?_
  refine lv_iload_n C.x C.b dd_Arrays_fill_2 rfl (lv_at hl 1 rfl) ?_
  refine lv_iload_n C.x C.b dd_Arrays_fill_3 rfl (lv_at hl 2 rfl) ?_
  refine np_callSv (As := [.int (np_i 3038), .int (np_i x1), .int (np_i x2)]) (rest := []) C (c_Arrays_rangeCheck l 3038 x1 x2 _) np_allgood tw_494 tw_495 tw_3 tw_496 (nA := 3) (by decide +kernel) rfl ⟨rfl, rfl, Nat.le_of_ble_eq_true rfl, Nat.le_of_ble_eq_true rfl⟩ hat rfl hl.1 (Nat.le_of_ble_eq_true rfl) dd_Arrays_fill_4 hf (fun o1 H locs hf hat => ?_)
  refine lv_iload_n C.x C.b dd_Arrays_fill_7 rfl (lv_at hl 1 rfl) ?_
  refine lv_istore (lv' := [(4, .int (np_i x1)), (0, .ref (q 12)), (1, .int (np_i x1)), (2, .int (np_i x2)), (3, .int (np_i x3))]) C.x C.b dd_Arrays_fill_8 hl (by decide) rfl (fun ls hl => ?_)
  exact w_f_Arrays_fill_12_10 C hQ  6000 _ _ _ _ _ _ _ hf hat (lv_sub hl [1, 3, 4, 0] rfl)
set_option maxHeartbeats 4000000 in
set_option maxRecDepth 100000 in
theorem c_Arrays_fill_12 (l : Launch) {gA : Nat → Nat} {D : va_G} {q : Nat → Nat} {cA : Nat → ClassId} (x1 x2 x3 : Int) (σ : np_S) : np_Mv gA l D np_cl (np_ty cA) (nc_wd q cA) yy_Arrays_fill (.code yy_Arrays_fill prog_25_method_104_code 5 none :: np_al) { frames := 1, cells := 0, slots := 0, locals := 22 } [.ref (q 12), .int (np_i x1), .int (np_i x2), .int (np_i x3)] σ (f_Arrays_fill_12 x1 x2 x3 σ) :=
  np_mkv (by decide +kernel) (Nat.le_of_ble_eq_true rfl) (fun o p e R s m args below meth c Q A ls hf C hQ hat hl => w_f_Arrays_fill_12 C hQ x1 x2 x3 σ _ _ _ hf hat (lv_sub hl [0, 1, 2, 3] rfl))
set_option maxHeartbeats 4000000 in
set_option maxRecDepth 100000 in
theorem w_f_Chart_emptyRow (C : np_Cx gA p R s m args c D np_cl (np_ty cA) A np_al "NotationParse$Chart" prog_2_method_4_code 2 { frames := 2, cells := 0, slots := 0, locals := 46 }) (hQ : ∀ (pc : Nat) (ls : Array Slot) (H : Heap) (locs : List Loc) {σ : np_S}, decode prog_2_method_4_code pc = .ok (.return_, 1) → some ((0 : Int), σ) = some out → np_At D np_cl A (nc_wd q cA) s σ H locs → W p l e R s m args below meth c H locs 0 0 Q (F0 m pc ls []))   : ∀ (x1 : Int) (σ : np_S) (H : Heap) (locs : List Loc) (ls : Array Slot), f_Chart_emptyRow  x1 σ = some out → np_At D np_cl A (nc_wd q cA) s σ H locs → lv_has ls 2 [(0, .ref (q 11)), (1, .int (np_i x1))] → W p l e R s m args below meth c H locs 0 0 Q (F0 m 0 ls []) := by
  intro x1 σ H locs ls hf hat hl
  unfold f_Chart_emptyRow at hf
  refine lv_aload_n C.x C.b dd_Chart_emptyRow_0 rfl (lv_at hl 0 rfl) ?_
  refine np_get (v := .ref (q 12)) C i_Chart hat.1 11 (nc_o11 _) rfl 1 (by decide) tw_122 rfl rfl dd_Chart_emptyRow_1 ?_
  refine lv_iload_n C.x C.b dd_Chart_emptyRow_4 rfl (lv_at hl 1 rfl) ?_
  refine lv_bipush (v := np_i 98) C.x C.b dd_Chart_emptyRow_5 (by decide +kernel) ?_
  refine np_imul C dd_Chart_emptyRow_7 ?_
  refine lv_iload_n C.x C.b dd_Chart_emptyRow_8 rfl (lv_at hl 1 rfl) ?_
  refine lv_iconst (v := np_i 1) C.x C.b dd_Chart_emptyRow_9 rfl ?_
  refine np_iadd C dd_Chart_emptyRow_10 ?_
  refine lv_bipush (v := np_i 98) C.x C.b dd_Chart_emptyRow_11 (by decide +kernel) ?_
  refine np_imul C dd_Chart_emptyRow_13 ?_
  refine lv_iconst (v := np_i 0) C.x C.b dd_Chart_emptyRow_14 rfl ?_
  refine np_callSv (As := [.ref (q 12), .int (np_i (x1 * 98)), .int (np_i ((x1 + 1) * 98)), .int (np_i 0)]) (rest := []) C (c_Arrays_fill_12 l (x1 * 98) ((x1 + 1) * 98) 0 _) np_allgood tw_753 tw_492 tw_3 tw_493 (nA := 4) (by decide +kernel) rfl ⟨rfl, rfl, Nat.le_of_ble_eq_true rfl, Nat.le_of_ble_eq_true rfl⟩ hat rfl hl.1 (Nat.le_of_ble_eq_true rfl) dd_Chart_emptyRow_15 hf (fun o1 H locs hf hat => ?_)
  exact hQ _ _ _ _ dd_Chart_emptyRow_18 hf hat
set_option maxHeartbeats 4000000 in
set_option maxRecDepth 100000 in
theorem c_Chart_emptyRow (l : Launch) {gA : Nat → Nat} {D : va_G} {q : Nat → Nat} {cA : Nat → ClassId} (x1 : Int) (σ : np_S) : np_Mv gA l D np_cl (np_ty cA) (nc_wd q cA) yy_Chart_emptyRow (.code yy_Chart_emptyRow prog_2_method_4_code 2 none :: np_al) { frames := 2, cells := 0, slots := 0, locals := 46 } [.ref (q 11), .int (np_i x1)] σ (f_Chart_emptyRow x1 σ) :=
  np_mkv (by decide +kernel) (Nat.le_of_ble_eq_true rfl) (fun o p e R s m args below meth c Q A ls hf C hQ hat hl => w_f_Chart_emptyRow C hQ x1 σ _ _ _ hf hat (lv_sub hl [0, 1] rfl))
set_option maxHeartbeats 4000000 in
set_option maxRecDepth 100000 in
theorem w_f_Chart_scan_84 (C : np_Cx gA p R s m args c D np_cl (np_ty cA) A np_al "NotationParse$Chart" prog_2_method_6_code 8 { frames := 1, cells := 0, slots := 0, locals := 20 }) (hQ : ∀ (pc : Nat) (ls : Array Slot) (H : Heap) (locs : List Loc) (v : Int) {σ : np_S}, decode prog_2_method_6_code pc = .ok (.ireturn, 1) → np_ck (v = 0 ∨ v = 1) (some (v, σ)) = some out → np_At D np_cl A (nc_wd q cA) s σ H locs → W p l e R s m args below meth c H locs 0 0 Q (F0 m pc ls [.int (np_i v)])) {k19 : (Int → Int → Int → Int → Int → np_S → Option np_O)} (h19 : ∀ (x2 x4 x5 x6 x7 : Int) (σ : np_S) (H : Heap) (locs : List Loc) (ls : Array Slot), k19 x2 x4 x5 x6 x7 σ = some out → np_At D np_cl A (nc_wd q cA) s σ H locs → lv_has ls 8 [(0, .ref (q 11)), (2, .long (np_l x2)), (4, .int (np_i x4)), (5, .int (np_i x5)), (6, .int (np_i x6)), (7, .int (np_i x7))] → W p l e R s m args below meth c H locs 0 0 Q (F0 m 19 ls [])) : ∀ (x2 x4 x5 x6 x7 : Int) (σ : np_S) (H : Heap) (locs : List Loc) (ls : Array Slot), f_Chart_scan_84 k19 x2 x4 x5 x6 x7 σ = some out → np_At D np_cl A (nc_wd q cA) s σ H locs → lv_has ls 8 [(0, .ref (q 11)), (2, .long (np_l x2)), (4, .int (np_i x4)), (5, .int (np_i x5)), (6, .int (np_i x6)), (7, .int (np_i x7))] → W p l e R s m args below meth c H locs 0 0 Q (F0 m 84 ls []) := by
  intro x2 x4 x5 x6 x7 σ H locs ls hf hat hl
  unfold f_Chart_scan_84 at hf
  refine lv_iinc (v := np_i (x7 + 1)) (lv' := [(7, .int (np_i (x7 + 1))), (0, .ref (q 11)), (2, .long (np_l x2)), (4, .int (np_i x4)), (5, .int (np_i x5)), (6, .int (np_i x6))]) C.x C.b dd_Chart_scan_84 hl (k := 5) rfl (np_inc _ _) (by decide) rfl (fun ls hl => ?_)
  refine lv_goto (tgt := 19) C.x C.b dd_Chart_scan_87 (by decide) ?_
  exact h19 _ _ _ _ _ _ _ _ _ hf hat (lv_sub hl [1, 2, 3, 4, 5, 0] rfl)
set_option maxHeartbeats 4000000 in
set_option maxRecDepth 100000 in
theorem w_f_Chart_scan_19 (C : np_Cx gA p R s m args c D np_cl (np_ty cA) A np_al "NotationParse$Chart" prog_2_method_6_code 8 { frames := 1, cells := 0, slots := 0, locals := 20 }) (hQ : ∀ (pc : Nat) (ls : Array Slot) (H : Heap) (locs : List Loc) (v : Int) {σ : np_S}, decode prog_2_method_6_code pc = .ok (.ireturn, 1) → np_ck (v = 0 ∨ v = 1) (some (v, σ)) = some out → np_At D np_cl A (nc_wd q cA) s σ H locs → W p l e R s m args below meth c H locs 0 0 Q (F0 m pc ls [.int (np_i v)]))   : ∀ (n : Nat), ∀ (x2 x4 x5 x6 x7 : Int) (σ : np_S) (H : Heap) (locs : List Loc) (ls : Array Slot), f_Chart_scan_19  n x2 x4 x5 x6 x7 σ = some out → np_At D np_cl A (nc_wd q cA) s σ H locs → lv_has ls 8 [(0, .ref (q 11)), (2, .long (np_l x2)), (4, .int (np_i x4)), (5, .int (np_i x5)), (6, .int (np_i x6)), (7, .int (np_i x7))] → W p l e R s m args below meth c H locs 0 0 Q (F0 m 19 ls []) := by
  intro n
  induction n with
  | zero => intro x2 x4 x5 x6 x7 σ H locs ls hf; cases hf
  | succ n ih =>
    intro x2 x4 x5 x6 x7 σ H locs ls hf hat hl
    have h19 := ih
    have hf : f_Chart_scan_19_b  (fun x2 x4 x5 x6 x7 σ => f_Chart_scan_19  n x2 x4 x5 x6 x7 σ) x2 x4 x5 x6 x7 σ = some out := hf
    unfold f_Chart_scan_19_b at hf
    refine lv_iload C.x C.b dd_Chart_scan_19 (lv_at hl 5 rfl) ?_
    refine lv_aload_n C.x C.b dd_Chart_scan_21 rfl (lv_at hl 0 rfl) ?_
    refine np_get (v := .ref (q 1)) C i_Chart hat.1 11 (nc_o11 _) rfl 0 (by decide) tw_121 rfl rfl dd_Chart_scan_22 ?_
    refine np_callVi (As := []) (rest := [.int (np_i x7)]) C (c_Grammar_usedDots l _) np_allgood tw_766 tw_356 tw_357 tw_2 tw_358 (nA := 0) (by decide +kernel) rfl ⟨rfl, rfl, Nat.le_of_ble_eq_true rfl, Nat.le_of_ble_eq_true rfl⟩ (nc_o1 _) rfl hat rfl hl.1 (Nat.le_of_ble_eq_true rfl) dd_Chart_scan_25 hf (fun o1 H locs hf hat => ?_)
    refine np_icmp_ge (tgt := 90) C dd_Chart_scan_28 (by decide) hf (fun _ hf => ?_) (fun _ hf => ?_)
    · refine lv_iload C.x C.b dd_Chart_scan_90 (lv_at hl 4 rfl) ?_
      exact hQ _ _ _ _ _ dd_Chart_scan_92 hf hat
    · refine lv_aload_n C.x C.b dd_Chart_scan_31 rfl (lv_at hl 0 rfl) ?_
      refine np_get (v := .ref (q 12)) C i_Chart hat.1 11 (nc_o11 _) rfl 1 (by decide) tw_122 rfl rfl dd_Chart_scan_32 ?_
      refine lv_iload C.x C.b dd_Chart_scan_35 (lv_at hl 2 rfl) ?_
      refine lv_iload C.x C.b dd_Chart_scan_37 (lv_at hl 5 rfl) ?_
      refine np_iadd C dd_Chart_scan_39 ?_
      refine np_iaload C hat.1 12 (nc_a12 _) 0 rfl (by decide) dd_Chart_scan_40 hf (fun hf => ?_)
      refine np_if_eq (tgt := 84) C dd_Chart_scan_41 (by decide) hf (fun _ hf => ?_) (fun _ hf => ?_)
      · exact w_f_Chart_scan_84 C hQ h19 _ _ _ _ _ _ _ _ _ hf hat (lv_sub hl [0, 1, 2, 3, 4, 5] rfl)
      · refine lv_aload_n C.x C.b dd_Chart_scan_44 rfl (lv_at hl 0 rfl) ?_
        refine np_get (v := .ref (q 1)) C i_Chart hat.1 11 (nc_o11 _) rfl 0 (by decide) tw_121 rfl rfl dd_Chart_scan_45 ?_
        refine np_get (v := .ref (q 3)) C i_Grammar hat.1 1 (nc_o1 _) rfl 1 (by decide) tw_54 rfl rfl dd_Chart_scan_48 ?_
        refine lv_iload C.x C.b dd_Chart_scan_51 (lv_at hl 5 rfl) ?_
        refine np_laload C hat.1 3 (nc_a3 _) 1 rfl (by decide) dd_Chart_scan_53 hf (fun hf => ?_)
        refine lv_lload_n C.x C.b dd_Chart_scan_54 rfl (lv_at hl 1 rfl) ?_
        refine np_lcmp C dd_Chart_scan_55 hf (fun hf => ?_)
        refine np_if_ne (tgt := 84) C dd_Chart_scan_56 (by decide) hf (fun _ hf => ?_) (fun _ hf => ?_)
        · exact w_f_Chart_scan_84 C hQ h19 _ _ _ _ _ _ _ _ _ hf hat (lv_sub hl [0, 1, 2, 3, 4, 5] rfl)
        · refine lv_aload_n C.x C.b dd_Chart_scan_59 rfl (lv_at hl 0 rfl) ?_
          refine np_get (v := .ref (q 12)) C i_Chart hat.1 11 (nc_o11 _) rfl 1 (by decide) tw_122 rfl rfl dd_Chart_scan_60 ?_
          refine lv_iload C.x C.b dd_Chart_scan_63 (lv_at hl 3 rfl) ?_
          refine lv_iload C.x C.b dd_Chart_scan_65 (lv_at hl 5 rfl) ?_
          refine np_iadd C dd_Chart_scan_67 ?_
          refine lv_iconst (v := np_i 1) C.x C.b dd_Chart_scan_68 rfl ?_
          refine np_iadd C dd_Chart_scan_69 ?_
          refine lv_aload_n C.x C.b dd_Chart_scan_70 rfl (lv_at hl 0 rfl) ?_
          refine np_get (v := .ref (q 12)) C i_Chart hat.1 11 (nc_o11 _) rfl 1 (by decide) tw_122 rfl rfl dd_Chart_scan_71 ?_
          refine lv_iload C.x C.b dd_Chart_scan_74 (lv_at hl 2 rfl) ?_
          refine lv_iload C.x C.b dd_Chart_scan_76 (lv_at hl 5 rfl) ?_
          refine np_iadd C dd_Chart_scan_78 ?_
          refine np_iaload C hat.1 12 (nc_a12 _) 0 rfl (by decide) dd_Chart_scan_79 hf (fun hf => ?_)
          refine np_iastore C hat 12 (nc_a12 _) 0 rfl (by decide) (nc_s12 _ _ _) dd_Chart_scan_80 hf (fun H locs hat hf => ?_)
          refine lv_iconst (v := np_i 1) C.x C.b dd_Chart_scan_81 rfl ?_
          refine lv_istore (lv' := [(6, .int (np_i 1)), (0, .ref (q 11)), (2, .long (np_l x2)), (4, .int (np_i x4)), (5, .int (np_i x5)), (7, .int (np_i x7))]) C.x C.b dd_Chart_scan_82 hl (by decide) rfl (fun ls hl => ?_)
          exact w_f_Chart_scan_84 C hQ h19 _ _ _ _ _ _ _ _ _ hf hat (lv_sub hl [1, 2, 3, 4, 0, 5] rfl)
set_option maxHeartbeats 4000000 in
set_option maxRecDepth 100000 in
theorem w_f_Chart_scan (C : np_Cx gA p R s m args c D np_cl (np_ty cA) A np_al "NotationParse$Chart" prog_2_method_6_code 8 { frames := 1, cells := 0, slots := 0, locals := 20 }) (hQ : ∀ (pc : Nat) (ls : Array Slot) (H : Heap) (locs : List Loc) (v : Int) {σ : np_S}, decode prog_2_method_6_code pc = .ok (.ireturn, 1) → np_ck (v = 0 ∨ v = 1) (some (v, σ)) = some out → np_At D np_cl A (nc_wd q cA) s σ H locs → W p l e R s m args below meth c H locs 0 0 Q (F0 m pc ls [.int (np_i v)]))   : ∀ (x1 x2 : Int) (σ : np_S) (H : Heap) (locs : List Loc) (ls : Array Slot), f_Chart_scan  x1 x2 σ = some out → np_At D np_cl A (nc_wd q cA) s σ H locs → lv_has ls 8 [(0, .ref (q 11)), (1, .int (np_i x1)), (2, .long (np_l x2))] → W p l e R s m args below meth c H locs 0 0 Q (F0 m 0 ls []) := by
  intro x1 x2 σ H locs ls hf hat hl
  unfold f_Chart_scan at hf
  refine lv_iload_n C.x C.b dd_Chart_scan_0 rfl (lv_at hl 1 rfl) ?_
  refine lv_bipush (v := np_i 98) C.x C.b dd_Chart_scan_1 (by decide +kernel) ?_
  refine np_imul C dd_Chart_scan_3 ?_
  refine lv_istore (lv' := [(4, .int (np_i (x1 * 98))), (0, .ref (q 11)), (1, .int (np_i x1)), (2, .long (np_l x2))]) C.x C.b dd_Chart_scan_4 hl (by decide) rfl (fun ls hl => ?_)
  refine lv_iload C.x C.b dd_Chart_scan_6 (lv_at hl 0 rfl) ?_
  refine lv_bipush (v := np_i 98) C.x C.b dd_Chart_scan_8 (by decide +kernel) ?_
  refine np_iadd C dd_Chart_scan_10 ?_
  refine lv_istore (lv' := [(5, .int (np_i ((x1 * 98) + 98))), (4, .int (np_i (x1 * 98))), (0, .ref (q 11)), (1, .int (np_i x1)), (2, .long (np_l x2))]) C.x C.b dd_Chart_scan_11 hl (by decide) rfl (fun ls hl => ?_)
  refine lv_iconst (v := np_i 0) C.x C.b dd_Chart_scan_13 rfl ?_
  refine lv_istore (lv' := [(6, .int (np_i 0)), (5, .int (np_i ((x1 * 98) + 98))), (4, .int (np_i (x1 * 98))), (0, .ref (q 11)), (1, .int (np_i x1)), (2, .long (np_l x2))]) C.x C.b dd_Chart_scan_14 hl (by decide) rfl (fun ls hl => ?_)
  refine lv_iconst (v := np_i 0) C.x C.b dd_Chart_scan_16 rfl ?_
  refine lv_istore (lv' := [(7, .int (np_i 0)), (6, .int (np_i 0)), (5, .int (np_i ((x1 * 98) + 98))), (4, .int (np_i (x1 * 98))), (0, .ref (q 11)), (1, .int (np_i x1)), (2, .long (np_l x2))]) C.x C.b dd_Chart_scan_17 hl (by decide) rfl (fun ls hl => ?_)
  exact w_f_Chart_scan_19 C hQ  6000 _ _ _ _ _ _ _ _ _ hf hat (lv_sub hl [4, 6, 3, 2, 1, 0] rfl)
set_option maxHeartbeats 4000000 in
set_option maxRecDepth 100000 in
theorem c_Chart_scan (l : Launch) {gA : Nat → Nat} {D : va_G} {q : Nat → Nat} {cA : Nat → ClassId} (x1 x2 : Int) (σ : np_S) : np_Mi gA l D np_cl (np_ty cA) (nc_wd q cA) yy_Chart_scan (.code yy_Chart_scan prog_2_method_6_code 8 (some .boolean) :: np_al) { frames := 1, cells := 0, slots := 0, locals := 20 } [.ref (q 11), .int (np_i x1), .long (np_l x2)] σ (f_Chart_scan x1 x2 σ) :=
  np_mkz (by decide +kernel) (Nat.le_of_ble_eq_true rfl) (fun o p e R s m args below meth c Q A ls hf C hQ hat hl => w_f_Chart_scan C hQ x1 x2 σ _ _ _ hf hat (lv_sub hl [0, 1, 2] rfl))
set_option maxHeartbeats 4000000 in
set_option maxRecDepth 100000 in
theorem w_f_Grammar_lastDot (C : np_Cx gA p R s m args c D np_cl (np_ty cA) A np_al "NotationParse$Grammar" prog_3_method_3_code 2 { frames := 0, cells := 0, slots := 0, locals := 0 }) (hQ : ∀ (pc : Nat) (ls : Array Slot) (H : Heap) (locs : List Loc) (v : Int) {σ : np_S}, decode prog_3_method_3_code pc = .ok (.ireturn, 1) → some (v, σ) = some out → np_At D np_cl A (nc_wd q cA) s σ H locs → W p l e R s m args below meth c H locs 0 0 Q (F0 m pc ls [.int (np_i v)]))   : ∀ (x1 : Int) (σ : np_S) (H : Heap) (locs : List Loc) (ls : Array Slot), f_Grammar_lastDot  x1 σ = some out → np_At D np_cl A (nc_wd q cA) s σ H locs → lv_has ls 2 [(0, .ref (q 1)), (1, .int (np_i x1))] → W p l e R s m args below meth c H locs 0 0 Q (F0 m 0 ls []) := by
  intro x1 σ H locs ls hf hat hl
  unfold f_Grammar_lastDot at hf
  refine lv_iload_n C.x C.b dd_Grammar_lastDot_0 rfl (lv_at hl 1 rfl) ?_
  refine lv_bipush (v := np_i 7) C.x C.b dd_Grammar_lastDot_1 (by decide +kernel) ?_
  refine np_imul C dd_Grammar_lastDot_3 ?_
  refine lv_aload_n C.x C.b dd_Grammar_lastDot_4 rfl (lv_at hl 0 rfl) ?_
  refine np_get (v := .ref (q 5)) C i_Grammar hat.1 1 (nc_o1 _) rfl 3 (by decide) tw_58 rfl rfl dd_Grammar_lastDot_5 ?_
  refine lv_iload_n C.x C.b dd_Grammar_lastDot_8 rfl (lv_at hl 1 rfl) ?_
  refine np_iaload C hat.1 5 (nc_a5 _) 0 rfl (by decide) dd_Grammar_lastDot_9 hf (fun hf => ?_)
  refine np_iadd C dd_Grammar_lastDot_10 ?_
  exact hQ _ _ _ _ _ dd_Grammar_lastDot_11 hf hat
set_option maxHeartbeats 4000000 in
set_option maxRecDepth 100000 in
theorem c_Grammar_lastDot (l : Launch) {gA : Nat → Nat} {D : va_G} {q : Nat → Nat} {cA : Nat → ClassId} (x1 : Int) (σ : np_S) : np_Mi gA l D np_cl (np_ty cA) (nc_wd q cA) yy_Grammar_lastDot (.code yy_Grammar_lastDot prog_3_method_3_code 2 (some .int) :: np_al) { frames := 0, cells := 0, slots := 0, locals := 0 } [.ref (q 1), .int (np_i x1)] σ (f_Grammar_lastDot x1 σ) :=
  np_mki (by decide +kernel) (Nat.le_of_ble_eq_true rfl) (fun o p e R s m args below meth c Q A ls hf C hQ hat hl => w_f_Grammar_lastDot C hQ x1 σ _ _ _ hf hat (lv_sub hl [0, 1] rfl))
set_option maxHeartbeats 4000000 in
set_option maxRecDepth 100000 in
theorem w_f_Chart_isReached_23 (C : np_Cx gA p R s m args c D np_cl (np_ty cA) A np_al "NotationParse$Chart" prog_2_method_5_code 4 { frames := 0, cells := 0, slots := 0, locals := 0 }) (hQ : ∀ (pc : Nat) (ls : Array Slot) (H : Heap) (locs : List Loc) (v : Int) {σ : np_S}, decode prog_2_method_5_code pc = .ok (.ireturn, 1) → np_ck (v = 0 ∨ v = 1) (some (v, σ)) = some out → np_At D np_cl A (nc_wd q cA) s σ H locs → W p l e R s m args below meth c H locs 0 0 Q (F0 m pc ls [.int (np_i v)]))   : ∀ (t0 : Int) (σ : np_S) (H : Heap) (locs : List Loc) (ls : Array Slot), f_Chart_isReached_23  t0 σ = some out → np_At D np_cl A (nc_wd q cA) s σ H locs → lv_has ls 4 [] → W p l e R s m args below meth c H locs 0 0 Q (F0 m 23 ls [.int (np_i t0)]) := by
  intro t0 σ H locs ls hf hat hl
  unfold f_Chart_isReached_23 at hf
  exact hQ _ _ _ _ _ dd_Chart_isReached_23 hf hat
set_option maxHeartbeats 4000000 in
set_option maxRecDepth 100000 in
theorem w_f_Chart_isReached (C : np_Cx gA p R s m args c D np_cl (np_ty cA) A np_al "NotationParse$Chart" prog_2_method_5_code 4 { frames := 0, cells := 0, slots := 0, locals := 0 }) (hQ : ∀ (pc : Nat) (ls : Array Slot) (H : Heap) (locs : List Loc) (v : Int) {σ : np_S}, decode prog_2_method_5_code pc = .ok (.ireturn, 1) → np_ck (v = 0 ∨ v = 1) (some (v, σ)) = some out → np_At D np_cl A (nc_wd q cA) s σ H locs → W p l e R s m args below meth c H locs 0 0 Q (F0 m pc ls [.int (np_i v)]))   : ∀ (x1 x2 x3 : Int) (σ : np_S) (H : Heap) (locs : List Loc) (ls : Array Slot), f_Chart_isReached  x1 x2 x3 σ = some out → np_At D np_cl A (nc_wd q cA) s σ H locs → lv_has ls 4 [(0, .ref (q 11)), (1, .int (np_i x1)), (2, .int (np_i x2)), (3, .int (np_i x3))] → W p l e R s m args below meth c H locs 0 0 Q (F0 m 0 ls []) := by
  intro x1 x2 x3 σ H locs ls hf hat hl
  unfold f_Chart_isReached at hf
  refine lv_aload_n C.x C.b dd_Chart_isReached_0 rfl (lv_at hl 0 rfl) ?_
  refine np_get (v := .ref (q 12)) C i_Chart hat.1 11 (nc_o11 _) rfl 1 (by decide) tw_122 rfl rfl dd_Chart_isReached_1 ?_
  refine lv_iload_n C.x C.b dd_Chart_isReached_4 rfl (lv_at hl 2 rfl) ?_
  refine lv_bipush (v := np_i 98) C.x C.b dd_Chart_isReached_5 (by decide +kernel) ?_
  refine np_imul C dd_Chart_isReached_7 ?_
  refine lv_iload_n C.x C.b dd_Chart_isReached_8 rfl (lv_at hl 3 rfl) ?_
  refine np_iadd C dd_Chart_isReached_9 ?_
  refine np_iaload C hat.1 12 (nc_a12 _) 0 rfl (by decide) dd_Chart_isReached_10 hf (fun hf => ?_)
  refine lv_iload_n C.x C.b dd_Chart_isReached_11 rfl (lv_at hl 1 rfl) ?_
  refine np_iushr C dd_Chart_isReached_12 ?_
  refine lv_iconst (v := np_i 1) C.x C.b dd_Chart_isReached_13 rfl ?_
  refine np_iand C dd_Chart_isReached_14 ?_
  refine np_if_eq (tgt := 22) C dd_Chart_isReached_15 (by decide) hf (fun _ hf => ?_) (fun _ hf => ?_)
  · refine lv_iconst (v := np_i 0) C.x C.b dd_Chart_isReached_22 rfl ?_
    exact w_f_Chart_isReached_23 C hQ  _ _ _ _ _ hf hat (lv_sub hl [] rfl)
  · refine lv_iconst (v := np_i 1) C.x C.b dd_Chart_isReached_18 rfl ?_
    refine lv_goto (tgt := 23) C.x C.b dd_Chart_isReached_19 (by decide) ?_
    exact w_f_Chart_isReached_23 C hQ  _ _ _ _ _ hf hat (lv_sub hl [] rfl)
set_option maxHeartbeats 4000000 in
set_option maxRecDepth 100000 in
theorem c_Chart_isReached (l : Launch) {gA : Nat → Nat} {D : va_G} {q : Nat → Nat} {cA : Nat → ClassId} (x1 x2 x3 : Int) (σ : np_S) : np_Mi gA l D np_cl (np_ty cA) (nc_wd q cA) yy_Chart_isReached (.code yy_Chart_isReached prog_2_method_5_code 4 (some .boolean) :: np_al) { frames := 0, cells := 0, slots := 0, locals := 0 } [.ref (q 11), .int (np_i x1), .int (np_i x2), .int (np_i x3)] σ (f_Chart_isReached x1 x2 x3 σ) :=
  np_mkz (by decide +kernel) (Nat.le_of_ble_eq_true rfl) (fun o p e R s m args below meth c Q A ls hf C hQ hat hl => w_f_Chart_isReached C hQ x1 x2 x3 σ _ _ _ hf hat (lv_sub hl [0, 1, 2, 3] rfl))
set_option maxHeartbeats 4000000 in
set_option maxRecDepth 100000 in
theorem w_f_Chart_highestTerm_60 (C : np_Cx gA p R s m args c D np_cl (np_ty cA) A np_al "NotationParse$Chart" prog_2_method_8_code 5 { frames := 1, cells := 0, slots := 0, locals := 23 }) (hQ : ∀ (pc : Nat) (ls : Array Slot) (H : Heap) (locs : List Loc) (v : Int) {σ : np_S}, decode prog_2_method_8_code pc = .ok (.ireturn, 1) → some (v, σ) = some out → np_At D np_cl A (nc_wd q cA) s σ H locs → W p l e R s m args below meth c H locs 0 0 Q (F0 m pc ls [.int (np_i v)])) {k5 : (Int → Int → Int → Int → np_S → Option np_O)} (h5 : ∀ (x1 x2 x3 x4 : Int) (σ : np_S) (H : Heap) (locs : List Loc) (ls : Array Slot), k5 x1 x2 x3 x4 σ = some out → np_At D np_cl A (nc_wd q cA) s σ H locs → lv_has ls 5 [(0, .ref (q 11)), (1, .int (np_i x1)), (2, .int (np_i x2)), (3, .int (np_i x3)), (4, .int (np_i x4))] → W p l e R s m args below meth c H locs 0 0 Q (F0 m 5 ls [])) : ∀ (x1 x2 x3 x4 : Int) (σ : np_S) (H : Heap) (locs : List Loc) (ls : Array Slot), f_Chart_highestTerm_60 k5 x1 x2 x3 x4 σ = some out → np_At D np_cl A (nc_wd q cA) s σ H locs → lv_has ls 5 [(0, .ref (q 11)), (1, .int (np_i x1)), (2, .int (np_i x2)), (3, .int (np_i x3)), (4, .int (np_i x4))] → W p l e R s m args below meth c H locs 0 0 Q (F0 m 60 ls []) := by
  intro x1 x2 x3 x4 σ H locs ls hf hat hl
  unfold f_Chart_highestTerm_60 at hf
  refine lv_iinc (v := np_i (x4 + 1)) (lv' := [(4, .int (np_i (x4 + 1))), (0, .ref (q 11)), (1, .int (np_i x1)), (2, .int (np_i x2)), (3, .int (np_i x3))]) C.x C.b dd_Chart_highestTerm_60 hl (k := 4) rfl (np_inc _ _) (by decide) rfl (fun ls hl => ?_)
  refine lv_goto (tgt := 5) C.x C.b dd_Chart_highestTerm_63 (by decide) ?_
  exact h5 _ _ _ _ _ _ _ _ hf hat (lv_sub hl [1, 2, 3, 4, 0] rfl)
set_option maxHeartbeats 4000000 in
set_option maxRecDepth 100000 in
theorem w_f_Chart_highestTerm_5 (C : np_Cx gA p R s m args c D np_cl (np_ty cA) A np_al "NotationParse$Chart" prog_2_method_8_code 5 { frames := 1, cells := 0, slots := 0, locals := 23 }) (hQ : ∀ (pc : Nat) (ls : Array Slot) (H : Heap) (locs : List Loc) (v : Int) {σ : np_S}, decode prog_2_method_8_code pc = .ok (.ireturn, 1) → some (v, σ) = some out → np_At D np_cl A (nc_wd q cA) s σ H locs → W p l e R s m args below meth c H locs 0 0 Q (F0 m pc ls [.int (np_i v)]))   : ∀ (n : Nat), ∀ (x1 x2 x3 x4 : Int) (σ : np_S) (H : Heap) (locs : List Loc) (ls : Array Slot), f_Chart_highestTerm_5  n x1 x2 x3 x4 σ = some out → np_At D np_cl A (nc_wd q cA) s σ H locs → lv_has ls 5 [(0, .ref (q 11)), (1, .int (np_i x1)), (2, .int (np_i x2)), (3, .int (np_i x3)), (4, .int (np_i x4))] → W p l e R s m args below meth c H locs 0 0 Q (F0 m 5 ls []) := by
  intro n
  induction n with
  | zero => intro x1 x2 x3 x4 σ H locs ls hf; cases hf
  | succ n ih =>
    intro x1 x2 x3 x4 σ H locs ls hf hat hl
    have h5 := ih
    have hf : f_Chart_highestTerm_5_b  (fun x1 x2 x3 x4 σ => f_Chart_highestTerm_5  n x1 x2 x3 x4 σ) x1 x2 x3 x4 σ = some out := hf
    unfold f_Chart_highestTerm_5_b at hf
    refine lv_iload C.x C.b dd_Chart_highestTerm_5 (lv_at hl 4 rfl) ?_
    refine lv_aload_n C.x C.b dd_Chart_highestTerm_7 rfl (lv_at hl 0 rfl) ?_
    refine np_get (v := .ref (q 1)) C i_Chart hat.1 11 (nc_o11 _) rfl 0 (by decide) tw_121 rfl rfl dd_Chart_highestTerm_8 ?_
    refine np_get (v := .int (np_i (σ 1 4))) C i_Grammar hat.1 1 (nc_o1 _) rfl 4 (by decide) tw_61 rfl rfl dd_Chart_highestTerm_11 ?_
    refine np_icmp_ge (tgt := 66) C dd_Chart_highestTerm_14 (by decide) hf (fun _ hf => ?_) (fun _ hf => ?_)
    · refine lv_iload_n C.x C.b dd_Chart_highestTerm_66 rfl (lv_at hl 3 rfl) ?_
      exact hQ _ _ _ _ _ dd_Chart_highestTerm_67 hf hat
    · refine lv_aload_n C.x C.b dd_Chart_highestTerm_17 rfl (lv_at hl 0 rfl) ?_
      refine np_get (v := .ref (q 1)) C i_Chart hat.1 11 (nc_o11 _) rfl 0 (by decide) tw_121 rfl rfl dd_Chart_highestTerm_18 ?_
      refine np_get (v := .ref (q 4)) C i_Grammar hat.1 1 (nc_o1 _) rfl 2 (by decide) tw_56 rfl rfl dd_Chart_highestTerm_21 ?_
      refine lv_iload C.x C.b dd_Chart_highestTerm_24 (lv_at hl 4 rfl) ?_
      refine np_iaload C hat.1 4 (nc_a4 _) 0 rfl (by decide) dd_Chart_highestTerm_26 hf (fun hf => ?_)
      refine lv_iload_n C.x C.b dd_Chart_highestTerm_27 rfl (lv_at hl 3 rfl) ?_
      refine np_icmp_le (tgt := 60) C dd_Chart_highestTerm_28 (by decide) hf (fun _ hf => ?_) (fun _ hf => ?_)
      · exact w_f_Chart_highestTerm_60 C hQ h5 _ _ _ _ _ _ _ _ hf hat (lv_sub hl [0, 1, 2, 3, 4] rfl)
      · refine lv_aload_n C.x C.b dd_Chart_highestTerm_31 rfl (lv_at hl 0 rfl) ?_
        refine lv_iload_n C.x C.b dd_Chart_highestTerm_32 rfl (lv_at hl 1 rfl) ?_
        refine lv_iload_n C.x C.b dd_Chart_highestTerm_33 rfl (lv_at hl 2 rfl) ?_
        refine lv_aload_n C.x C.b dd_Chart_highestTerm_34 rfl (lv_at hl 0 rfl) ?_
        refine np_get (v := .ref (q 1)) C i_Chart hat.1 11 (nc_o11 _) rfl 0 (by decide) tw_121 rfl rfl dd_Chart_highestTerm_35 ?_
        refine lv_iload C.x C.b dd_Chart_highestTerm_38 (lv_at hl 4 rfl) ?_
        refine np_callVi (As := [.int (np_i x4)]) (rest := [.int (np_i x2), .int (np_i x1), .ref (q 11)]) C (c_Grammar_lastDot l x4 _) np_allgood tw_775 tw_776 tw_777 tw_2 tw_778 (nA := 1) (by decide +kernel) rfl ⟨rfl, rfl, Nat.le_of_ble_eq_true rfl, Nat.le_of_ble_eq_true rfl⟩ (nc_o1 _) rfl hat rfl hl.1 (Nat.le_of_ble_eq_true rfl) dd_Chart_highestTerm_40 hf (fun o1 H locs hf hat => ?_)
        refine np_callVi (As := [.int (np_i x1), .int (np_i x2), .int (np_i o1.1)]) (rest := []) C (c_Chart_isReached l x1 x2 o1.1 _) np_allgood tw_779 tw_781 tp_11 tw_5 tw_782 (nA := 3) (by decide +kernel) rfl ⟨rfl, rfl, Nat.le_of_ble_eq_true rfl, Nat.le_of_ble_eq_true rfl⟩ (nc_o11 _) rfl hat rfl hl.1 (Nat.le_of_ble_eq_true rfl) dd_Chart_highestTerm_43 hf (fun o2 H locs hf hat => ?_)
        refine np_if_eq (tgt := 60) C dd_Chart_highestTerm_46 (by decide) hf (fun _ hf => ?_) (fun _ hf => ?_)
        · exact w_f_Chart_highestTerm_60 C hQ h5 _ _ _ _ _ _ _ _ hf hat (lv_sub hl [0, 1, 2, 3, 4] rfl)
        · refine lv_aload_n C.x C.b dd_Chart_highestTerm_49 rfl (lv_at hl 0 rfl) ?_
          refine np_get (v := .ref (q 1)) C i_Chart hat.1 11 (nc_o11 _) rfl 0 (by decide) tw_121 rfl rfl dd_Chart_highestTerm_50 ?_
          refine np_get (v := .ref (q 4)) C i_Grammar hat.1 1 (nc_o1 _) rfl 2 (by decide) tw_56 rfl rfl dd_Chart_highestTerm_53 ?_
          refine lv_iload C.x C.b dd_Chart_highestTerm_56 (lv_at hl 4 rfl) ?_
          refine np_iaload C hat.1 4 (nc_a4 _) 0 rfl (by decide) dd_Chart_highestTerm_58 hf (fun hf => ?_)
          refine lv_istore_n (lv' := [(3, .int (np_i (o2.2 4 x4))), (0, .ref (q 11)), (1, .int (np_i x1)), (2, .int (np_i x2)), (4, .int (np_i x4))]) C.x C.b dd_Chart_highestTerm_59 rfl hl (by decide) rfl (fun ls hl => ?_)
          exact w_f_Chart_highestTerm_60 C hQ h5 _ _ _ _ _ _ _ _ hf hat (lv_sub hl [1, 2, 3, 0, 4] rfl)
set_option maxHeartbeats 4000000 in
set_option maxRecDepth 100000 in
theorem w_f_Chart_highestTerm (C : np_Cx gA p R s m args c D np_cl (np_ty cA) A np_al "NotationParse$Chart" prog_2_method_8_code 5 { frames := 1, cells := 0, slots := 0, locals := 23 }) (hQ : ∀ (pc : Nat) (ls : Array Slot) (H : Heap) (locs : List Loc) (v : Int) {σ : np_S}, decode prog_2_method_8_code pc = .ok (.ireturn, 1) → some (v, σ) = some out → np_At D np_cl A (nc_wd q cA) s σ H locs → W p l e R s m args below meth c H locs 0 0 Q (F0 m pc ls [.int (np_i v)]))   : ∀ (x1 x2 : Int) (σ : np_S) (H : Heap) (locs : List Loc) (ls : Array Slot), f_Chart_highestTerm  x1 x2 σ = some out → np_At D np_cl A (nc_wd q cA) s σ H locs → lv_has ls 5 [(0, .ref (q 11)), (1, .int (np_i x1)), (2, .int (np_i x2))] → W p l e R s m args below meth c H locs 0 0 Q (F0 m 0 ls []) := by
  intro x1 x2 σ H locs ls hf hat hl
  unfold f_Chart_highestTerm at hf
  refine lv_iconst (v := np_i (-1)) C.x C.b dd_Chart_highestTerm_0 rfl ?_
  refine lv_istore_n (lv' := [(3, .int (np_i ((-1)))), (0, .ref (q 11)), (1, .int (np_i x1)), (2, .int (np_i x2))]) C.x C.b dd_Chart_highestTerm_1 rfl hl (by decide) rfl (fun ls hl => ?_)
  refine lv_iconst (v := np_i 0) C.x C.b dd_Chart_highestTerm_2 rfl ?_
  refine lv_istore (lv' := [(4, .int (np_i 0)), (3, .int (np_i ((-1)))), (0, .ref (q 11)), (1, .int (np_i x1)), (2, .int (np_i x2))]) C.x C.b dd_Chart_highestTerm_3 hl (by decide) rfl (fun ls hl => ?_)
  exact w_f_Chart_highestTerm_5 C hQ  6000 _ _ _ _ _ _ _ _ hf hat (lv_sub hl [2, 3, 4, 1, 0] rfl)
set_option maxHeartbeats 4000000 in
set_option maxRecDepth 100000 in
theorem c_Chart_highestTerm (l : Launch) {gA : Nat → Nat} {D : va_G} {q : Nat → Nat} {cA : Nat → ClassId} (x1 x2 : Int) (σ : np_S) : np_Mi gA l D np_cl (np_ty cA) (nc_wd q cA) yy_Chart_highestTerm (.code yy_Chart_highestTerm prog_2_method_8_code 5 (some .int) :: np_al) { frames := 1, cells := 0, slots := 0, locals := 23 } [.ref (q 11), .int (np_i x1), .int (np_i x2)] σ (f_Chart_highestTerm x1 x2 σ) :=
  np_mki (by decide +kernel) (Nat.le_of_ble_eq_true rfl) (fun o p e R s m args below meth c Q A ls hf C hQ hat hl => w_f_Chart_highestTerm C hQ x1 x2 σ _ _ _ hf hat (lv_sub hl [0, 1, 2] rfl))
set_option maxHeartbeats 4000000 in
set_option maxRecDepth 100000 in
theorem w_f_Chart_fillHoles_76 (C : np_Cx gA p R s m args c D np_cl (np_ty cA) A np_al "NotationParse$Chart" prog_2_method_9_code 8 { frames := 1, cells := 0, slots := 0, locals := 20 }) (hQ : ∀ (pc : Nat) (ls : Array Slot) (H : Heap) (locs : List Loc) {σ : np_S}, decode prog_2_method_9_code pc = .ok (.return_, 1) → some ((0 : Int), σ) = some out → np_At D np_cl A (nc_wd q cA) s σ H locs → W p l e R s m args below meth c H locs 0 0 Q (F0 m pc ls [])) {k15 : (Int → Int → Int → Int → np_S → Option np_O)} (h15 : ∀ (x3 x4 x5 x6 : Int) (σ : np_S) (H : Heap) (locs : List Loc) (ls : Array Slot), k15 x3 x4 x5 x6 σ = some out → np_At D np_cl A (nc_wd q cA) s σ H locs → lv_has ls 8 [(0, .ref (q 11)), (3, .int (np_i x3)), (4, .int (np_i x4)), (5, .int (np_i x5)), (6, .int (np_i x6))] → W p l e R s m args below meth c H locs 0 0 Q (F0 m 15 ls [])) : ∀ (x3 x4 x5 x6 : Int) (σ : np_S) (H : Heap) (locs : List Loc) (ls : Array Slot), f_Chart_fillHoles_76 k15 x3 x4 x5 x6 σ = some out → np_At D np_cl A (nc_wd q cA) s σ H locs → lv_has ls 8 [(0, .ref (q 11)), (3, .int (np_i x3)), (4, .int (np_i x4)), (5, .int (np_i x5)), (6, .int (np_i x6))] → W p l e R s m args below meth c H locs 0 0 Q (F0 m 76 ls []) := by
  intro x3 x4 x5 x6 σ H locs ls hf hat hl
  unfold f_Chart_fillHoles_76 at hf
  refine lv_iinc (v := np_i (x6 + 1)) (lv' := [(6, .int (np_i (x6 + 1))), (0, .ref (q 11)), (3, .int (np_i x3)), (4, .int (np_i x4)), (5, .int (np_i x5))]) C.x C.b dd_Chart_fillHoles_76 hl (k := 4) rfl (np_inc _ _) (by decide) rfl (fun ls hl => ?_)
  refine lv_goto (tgt := 15) C.x C.b dd_Chart_fillHoles_79 (by decide) ?_
  exact h15 _ _ _ _ _ _ _ _ hf hat (lv_sub hl [1, 2, 3, 4, 0] rfl)
set_option maxHeartbeats 4000000 in
set_option maxRecDepth 100000 in
theorem w_f_Chart_fillHoles_15 (C : np_Cx gA p R s m args c D np_cl (np_ty cA) A np_al "NotationParse$Chart" prog_2_method_9_code 8 { frames := 1, cells := 0, slots := 0, locals := 20 }) (hQ : ∀ (pc : Nat) (ls : Array Slot) (H : Heap) (locs : List Loc) {σ : np_S}, decode prog_2_method_9_code pc = .ok (.return_, 1) → some ((0 : Int), σ) = some out → np_At D np_cl A (nc_wd q cA) s σ H locs → W p l e R s m args below meth c H locs 0 0 Q (F0 m pc ls []))   : ∀ (n : Nat), ∀ (x3 x4 x5 x6 : Int) (σ : np_S) (H : Heap) (locs : List Loc) (ls : Array Slot), f_Chart_fillHoles_15  n x3 x4 x5 x6 σ = some out → np_At D np_cl A (nc_wd q cA) s σ H locs → lv_has ls 8 [(0, .ref (q 11)), (3, .int (np_i x3)), (4, .int (np_i x4)), (5, .int (np_i x5)), (6, .int (np_i x6))] → W p l e R s m args below meth c H locs 0 0 Q (F0 m 15 ls []) := by
  intro n
  induction n with
  | zero => intro x3 x4 x5 x6 σ H locs ls hf; cases hf
  | succ n ih =>
    intro x3 x4 x5 x6 σ H locs ls hf hat hl
    have h15 := ih
    have hf : f_Chart_fillHoles_15_b  (fun x3 x4 x5 x6 σ => f_Chart_fillHoles_15  n x3 x4 x5 x6 σ) x3 x4 x5 x6 σ = some out := hf
    unfold f_Chart_fillHoles_15_b at hf
    refine lv_iload C.x C.b dd_Chart_fillHoles_15 (lv_at hl 4 rfl) ?_
    refine lv_aload_n C.x C.b dd_Chart_fillHoles_17 rfl (lv_at hl 0 rfl) ?_
    refine np_get (v := .ref (q 1)) C i_Chart hat.1 11 (nc_o11 _) rfl 0 (by decide) tw_121 rfl rfl dd_Chart_fillHoles_18 ?_
    refine np_callVi (As := []) (rest := [.int (np_i x6)]) C (c_Grammar_usedDots l _) np_allgood tw_766 tw_356 tw_357 tw_2 tw_358 (nA := 0) (by decide +kernel) rfl ⟨rfl, rfl, Nat.le_of_ble_eq_true rfl, Nat.le_of_ble_eq_true rfl⟩ (nc_o1 _) rfl hat rfl hl.1 (Nat.le_of_ble_eq_true rfl) dd_Chart_fillHoles_21 hf (fun o1 H locs hf hat => ?_)
    refine np_icmp_ge (tgt := 82) C dd_Chart_fillHoles_24 (by decide) hf (fun _ hf => ?_) (fun _ hf => ?_)
    · exact hQ _ _ _ _ dd_Chart_fillHoles_82 hf hat
    · refine lv_aload_n C.x C.b dd_Chart_fillHoles_27 rfl (lv_at hl 0 rfl) ?_
      refine np_get (v := .ref (q 1)) C i_Chart hat.1 11 (nc_o11 _) rfl 0 (by decide) tw_121 rfl rfl dd_Chart_fillHoles_28 ?_
      refine np_get (v := .ref (q 2)) C i_Grammar hat.1 1 (nc_o1 _) rfl 0 (by decide) tw_52 rfl rfl dd_Chart_fillHoles_31 ?_
      refine lv_iload C.x C.b dd_Chart_fillHoles_34 (lv_at hl 4 rfl) ?_
      refine np_iaload C hat.1 2 (nc_a2 _) 0 rfl (by decide) dd_Chart_fillHoles_36 hf (fun hf => ?_)
      refine lv_istore (lv' := [(7, .int (np_i (o1.2 2 x6))), (0, .ref (q 11)), (3, .int (np_i x3)), (4, .int (np_i x4)), (5, .int (np_i x5)), (6, .int (np_i x6))]) C.x C.b dd_Chart_fillHoles_37 hl (by decide) rfl (fun ls hl => ?_)
      refine lv_iload C.x C.b dd_Chart_fillHoles_39 (lv_at hl 0 rfl) ?_
      refine lv_iconst (v := np_i (-1)) C.x C.b dd_Chart_fillHoles_41 rfl ?_
      refine np_icmp_eq (tgt := 76) C dd_Chart_fillHoles_42 (by decide) hf (fun _ hf => ?_) (fun _ hf => ?_)
      · exact w_f_Chart_fillHoles_76 C hQ h15 _ _ _ _ _ _ _ _ hf hat (lv_sub hl [1, 2, 3, 4, 5] rfl)
      · refine lv_iload C.x C.b dd_Chart_fillHoles_45 (lv_at hl 0 rfl) ?_
        refine lv_iload_n C.x C.b dd_Chart_fillHoles_47 rfl (lv_at hl 2 rfl) ?_
        refine np_icmp_gt (tgt := 76) C dd_Chart_fillHoles_48 (by decide) hf (fun _ hf => ?_) (fun _ hf => ?_)
        · exact w_f_Chart_fillHoles_76 C hQ h15 _ _ _ _ _ _ _ _ hf hat (lv_sub hl [1, 2, 3, 4, 5] rfl)
        · refine lv_aload_n C.x C.b dd_Chart_fillHoles_51 rfl (lv_at hl 1 rfl) ?_
          refine np_get (v := .ref (q 12)) C i_Chart hat.1 11 (nc_o11 _) rfl 1 (by decide) tw_122 rfl rfl dd_Chart_fillHoles_52 ?_
          refine lv_iload C.x C.b dd_Chart_fillHoles_55 (lv_at hl 4 rfl) ?_
          refine lv_iload C.x C.b dd_Chart_fillHoles_57 (lv_at hl 5 rfl) ?_
          refine np_iadd C dd_Chart_fillHoles_59 ?_
          refine lv_iconst (v := np_i 1) C.x C.b dd_Chart_fillHoles_60 rfl ?_
          refine np_iadd C dd_Chart_fillHoles_61 ?_
          refine lv_dup2_11 C.x C.b dd_Chart_fillHoles_62 rfl rfl ?_
          refine np_iaload C hat.1 12 (nc_a12 _) 0 rfl (by decide) dd_Chart_fillHoles_63 hf (fun hf => ?_)
          refine lv_aload_n C.x C.b dd_Chart_fillHoles_64 rfl (lv_at hl 1 rfl) ?_
          refine np_get (v := .ref (q 12)) C i_Chart hat.1 11 (nc_o11 _) rfl 1 (by decide) tw_122 rfl rfl dd_Chart_fillHoles_65 ?_
          refine lv_iload C.x C.b dd_Chart_fillHoles_68 (lv_at hl 3 rfl) ?_
          refine lv_iload C.x C.b dd_Chart_fillHoles_70 (lv_at hl 5 rfl) ?_
          refine np_iadd C dd_Chart_fillHoles_72 ?_
          refine np_iaload C hat.1 12 (nc_a12 _) 0 rfl (by decide) dd_Chart_fillHoles_73 hf (fun hf => ?_)
          refine np_ior C dd_Chart_fillHoles_74 ?_
          refine np_iastore C hat 12 (nc_a12 _) 0 rfl (by decide) (nc_s12 _ _ _) dd_Chart_fillHoles_75 hf (fun H locs hat hf => ?_)
          exact w_f_Chart_fillHoles_76 C hQ h15 _ _ _ _ _ _ _ _ hf hat (lv_sub hl [1, 2, 3, 4, 5] rfl)
set_option maxHeartbeats 4000000 in
set_option maxRecDepth 100000 in
theorem w_f_Chart_fillHoles (C : np_Cx gA p R s m args c D np_cl (np_ty cA) A np_al "NotationParse$Chart" prog_2_method_9_code 8 { frames := 1, cells := 0, slots := 0, locals := 20 }) (hQ : ∀ (pc : Nat) (ls : Array Slot) (H : Heap) (locs : List Loc) {σ : np_S}, decode prog_2_method_9_code pc = .ok (.return_, 1) → some ((0 : Int), σ) = some out → np_At D np_cl A (nc_wd q cA) s σ H locs → W p l e R s m args below meth c H locs 0 0 Q (F0 m pc ls []))   : ∀ (x1 x2 x3 : Int) (σ : np_S) (H : Heap) (locs : List Loc) (ls : Array Slot), f_Chart_fillHoles  x1 x2 x3 σ = some out → np_At D np_cl A (nc_wd q cA) s σ H locs → lv_has ls 8 [(0, .ref (q 11)), (1, .int (np_i x1)), (2, .int (np_i x2)), (3, .int (np_i x3))] → W p l e R s m args below meth c H locs 0 0 Q (F0 m 0 ls []) := by
  intro x1 x2 x3 σ H locs ls hf hat hl
  unfold f_Chart_fillHoles at hf
  refine lv_iload_n C.x C.b dd_Chart_fillHoles_0 rfl (lv_at hl 1 rfl) ?_
  refine lv_bipush (v := np_i 98) C.x C.b dd_Chart_fillHoles_1 (by decide +kernel) ?_
  refine np_imul C dd_Chart_fillHoles_3 ?_
  refine lv_istore (lv' := [(4, .int (np_i (x1 * 98))), (0, .ref (q 11)), (1, .int (np_i x1)), (2, .int (np_i x2)), (3, .int (np_i x3))]) C.x C.b dd_Chart_fillHoles_4 hl (by decide) rfl (fun ls hl => ?_)
  refine lv_iload_n C.x C.b dd_Chart_fillHoles_6 rfl (lv_at hl 3 rfl) ?_
  refine lv_bipush (v := np_i 98) C.x C.b dd_Chart_fillHoles_7 (by decide +kernel) ?_
  refine np_imul C dd_Chart_fillHoles_9 ?_
  refine lv_istore (lv' := [(5, .int (np_i (x2 * 98))), (4, .int (np_i (x1 * 98))), (0, .ref (q 11)), (1, .int (np_i x1)), (2, .int (np_i x2)), (3, .int (np_i x3))]) C.x C.b dd_Chart_fillHoles_10 hl (by decide) rfl (fun ls hl => ?_)
  refine lv_iconst (v := np_i 0) C.x C.b dd_Chart_fillHoles_12 rfl ?_
  refine lv_istore (lv' := [(6, .int (np_i 0)), (5, .int (np_i (x2 * 98))), (4, .int (np_i (x1 * 98))), (0, .ref (q 11)), (1, .int (np_i x1)), (2, .int (np_i x2)), (3, .int (np_i x3))]) C.x C.b dd_Chart_fillHoles_13 hl (by decide) rfl (fun ls hl => ?_)
  exact w_f_Chart_fillHoles_15 C hQ  6000 _ _ _ _ _ _ _ _ hf hat (lv_sub hl [3, 6, 2, 1, 0] rfl)
set_option maxHeartbeats 4000000 in
set_option maxRecDepth 100000 in
theorem c_Chart_fillHoles (l : Launch) {gA : Nat → Nat} {D : va_G} {q : Nat → Nat} {cA : Nat → ClassId} (x1 x2 x3 : Int) (σ : np_S) : np_Mv gA l D np_cl (np_ty cA) (nc_wd q cA) yy_Chart_fillHoles (.code yy_Chart_fillHoles prog_2_method_9_code 8 none :: np_al) { frames := 1, cells := 0, slots := 0, locals := 20 } [.ref (q 11), .int (np_i x1), .int (np_i x2), .int (np_i x3)] σ (f_Chart_fillHoles x1 x2 x3 σ) :=
  np_mkv (by decide +kernel) (Nat.le_of_ble_eq_true rfl) (fun o p e R s m args below meth c Q A ls hf C hQ hat hl => w_f_Chart_fillHoles C hQ x1 x2 x3 σ _ _ _ hf hat (lv_sub hl [0, 1, 2, 3] rfl))
end NW0
