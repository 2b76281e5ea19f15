section NW0
variable {p : Program} {l : Launch} {e : Env} {R : Room} {s : State} {m : MethodId} {args : Array Value} {below : List Frame} {meth : Method} {c : Code} {Q : State → Prop} {D : va_G} {A : Nat → Prop} {q : Nat → Nat} {cA : Nat → ClassId} {out : np_O} {gA : Nat → Nat}
set_option maxHeartbeats 4000000 in
set_option maxRecDepth 100000 in
theorem w_f_Grammar_usedDots (C : np_Cx gA p R s m args c D np_cl (np_ty cA) A np_al "NotationParse$Grammar" prog_3_method_2_code 1 { frames := 0, cells := 0, slots := 0, locals := 0 }) (hQ : ∀ (pc : Nat) (ls : Array Slot) (H : Heap) (locs : List Loc) (v : Int) {σ : np_S}, decode prog_3_method_2_code pc = .ok (.ireturn, 1) → some (v, σ) = some out → np_At D np_cl A (nc_wd q cA) s σ H locs → W p l e R s m args below meth c H locs 0 0 Q (F0 m pc ls [.int (np_i v)]))   : ∀ (σ : np_S) (H : Heap) (locs : List Loc) (ls : Array Slot), f_Grammar_usedDots  σ = some out → np_At D np_cl A (nc_wd q cA) s σ H locs → lv_has ls 1 [(0, .ref (q 1))] → W p l e R s m args below meth c H locs 0 0 Q (F0 m 0 ls []) := by
  intro σ H locs ls hf hat hl
  unfold f_Grammar_usedDots at hf
  refine lv_aload_n C.x C.b dd_Grammar_usedDots_0 rfl (lv_at hl 0 rfl) ?_
  refine np_get (v := .int (np_i (σ 1 4))) C i_Grammar hat.1 1 (nc_o1 _) rfl 4 (by decide) tw_59 rfl rfl dd_Grammar_usedDots_1 ?_
  refine lv_bipush (v := np_i 7) C.x C.b dd_Grammar_usedDots_4 (by decide +kernel) ?_
  refine np_imul C dd_Grammar_usedDots_6 ?_
  exact hQ _ _ _ _ _ dd_Grammar_usedDots_7 hf hat
set_option maxHeartbeats 4000000 in
set_option maxRecDepth 100000 in
theorem c_Grammar_usedDots (l : Launch) {gA : Nat → Nat} {D : va_G} {q : Nat → Nat} {cA : Nat → ClassId} (σ : np_S) : np_Mi gA l D np_cl (np_ty cA) (nc_wd q cA) yy_Grammar_usedDots (.code yy_Grammar_usedDots prog_3_method_2_code 1 (some .int) :: np_al) { frames := 0, cells := 0, slots := 0, locals := 0 } [.ref (q 1)] σ (f_Grammar_usedDots  σ) :=
  np_mki (by decide +kernel) (Nat.le_of_ble_eq_true rfl) (fun o p e R s m args below meth c Q A ls hf C hQ hat hl => w_f_Grammar_usedDots C hQ  σ _ _ _ hf hat (lv_sub hl [0] rfl))
set_option maxHeartbeats 4000000 in
set_option maxRecDepth 100000 in
theorem w_f_Arrays_rangeCheck (C : np_Cx gA p R s m args c D np_cl (np_ty cA) A np_al "java/util/Arrays" prog_25_method_30_code 3 { frames := 0, cells := 0, slots := 0, locals := 0 }) (hQ : ∀ (pc : Nat) (ls : Array Slot) (H : Heap) (locs : List Loc) {σ : np_S}, decode prog_25_method_30_code pc = .ok (.return_, 1) → some ((0 : Int), σ) = some out → np_At D np_cl A (nc_wd q cA) s σ H locs → W p l e R s m args below meth c H locs 0 0 Q (F0 m pc ls []))   : ∀ (x0 x1 x2 : Int) (σ : np_S) (H : Heap) (locs : List Loc) (ls : Array Slot), f_Arrays_rangeCheck  x0 x1 x2 σ = some out → np_At D np_cl A (nc_wd q cA) s σ H locs → lv_has ls 3 [(0, .int (np_i x0)), (1, .int (np_i x1)), (2, .int (np_i x2))] → W p l e R s m args below meth c H locs 0 0 Q (F0 m 0 ls []) := by
  intro x0 x1 x2 σ H locs ls hf hat hl
  unfold f_Arrays_rangeCheck at hf
  refine lv_iload_n C.x C.b dd_Arrays_rangeCheck_0 rfl (lv_at hl 1 rfl) ?_
  refine lv_iload_n C.x C.b dd_Arrays_rangeCheck_1 rfl (lv_at hl 2 rfl) ?_
  refine np_icmp_le (tgt := 46) C dd_Arrays_rangeCheck_2 (by decide) hf (fun _ hf => ?_) (fun _ hf => ?_)
  · refine lv_iload_n C.x C.b dd_Arrays_rangeCheck_46 rfl (lv_at hl 1 rfl) ?_
    refine np_if_ge (tgt := 59) C dd_Arrays_rangeCheck_47 (by decide) hf (fun _ hf => ?_) (fun _ hf => ?_)
    · refine lv_iload_n C.x C.b dd_Arrays_rangeCheck_59 rfl (lv_at hl 2 rfl) ?_
      refine lv_iload_n C.x C.b dd_Arrays_rangeCheck_60 rfl (lv_at hl 0 rfl) ?_
      refine np_icmp_le (tgt := 73) C dd_Arrays_rangeCheck_61 (by decide) hf (fun _ hf => ?_) (fun _ hf => ?_)
      · exact hQ _ _ _ _ dd_Arrays_rangeCheck_73 hf hat
      · cases hf
    · cases hf
  · cases hf
set_option maxHeartbeats 4000000 in
set_option maxRecDepth 100000 in
theorem c_Arrays_rangeCheck (l : Launch) {gA : Nat → Nat} {D : va_G} {q : Nat → Nat} {cA : Nat → ClassId} (x0 x1 x2 : Int) (σ : np_S) : np_Mv gA l D np_cl (np_ty cA) (nc_wd q cA) yy_Arrays_rangeCheck (.code yy_Arrays_rangeCheck prog_25_method_30_code 3 none :: np_al) { frames := 0, cells := 0, slots := 0, locals := 0 } [.int (np_i x0), .int (np_i x1), .int (np_i x2)] σ (f_Arrays_rangeCheck x0 x1 x2 σ) :=
  np_mkv (by decide +kernel) (Nat.le_of_ble_eq_true rfl) (fun o p e R s m args below meth c Q A ls hf C hQ hat hl => w_f_Arrays_rangeCheck C hQ x0 x1 x2 σ _ _ _ hf hat (lv_sub hl [0, 1, 2] rfl))
set_option maxHeartbeats 4000000 in
set_option maxRecDepth 100000 in
theorem w_f_Arrays_fill_2_10 (C : np_Cx gA p R s m args c D np_cl (np_ty cA) A np_al "java/util/Arrays" prog_25_method_104_code 5 { frames := 1, cells := 0, slots := 0, locals := 22 }) (hQ : ∀ (pc : Nat) (ls : Array Slot) (H : Heap) (locs : List Loc) {σ : np_S}, decode prog_25_method_104_code pc = .ok (.return_, 1) → some ((0 : Int), σ) = some out → np_At D np_cl A (nc_wd q cA) s σ H locs → W p l e R s m args below meth c H locs 0 0 Q (F0 m pc ls []))   : ∀ (n : Nat), ∀ (x2 x3 x4 : Int) (σ : np_S) (H : Heap) (locs : List Loc) (ls : Array Slot), f_Arrays_fill_2_10  n x2 x3 x4 σ = some out → np_At D np_cl A (nc_wd q cA) s σ H locs → lv_has ls 5 [(0, .ref (q 2)), (2, .int (np_i x2)), (3, .int (np_i x3)), (4, .int (np_i x4))] → W p l e R s m args below meth c H locs 0 0 Q (F0 m 10 ls []) := by
  intro n
  induction n with
  | zero => intro x2 x3 x4 σ H locs ls hf; cases hf
  | succ n ih =>
    intro x2 x3 x4 σ H locs ls hf hat hl
    have h10 := ih
    have hf : f_Arrays_fill_2_10_b  (fun x2 x3 x4 σ => f_Arrays_fill_2_10  n x2 x3 x4 σ) x2 x3 x4 σ = some out := hf
    unfold f_Arrays_fill_2_10_b at hf
    refine lv_iload C.x C.b dd_Arrays_fill_10 (lv_at hl 3 rfl) ?_
    refine lv_iload_n C.x C.b dd_Arrays_fill_12 rfl (lv_at hl 1 rfl) ?_
    refine np_icmp_ge (tgt := 27) C dd_Arrays_fill_13 (by decide) hf (fun _ hf => ?_) (fun _ hf => ?_)
    · exact hQ _ _ _ _ dd_Arrays_fill_27 hf hat
    · refine lv_aload_n C.x C.b dd_Arrays_fill_16 rfl (lv_at hl 0 rfl) ?_
      refine lv_iload C.x C.b dd_Arrays_fill_17 (lv_at hl 3 rfl) ?_
      refine lv_iload_n C.x C.b dd_Arrays_fill_19 rfl (lv_at hl 2 rfl) ?_
      refine np_iastore C hat 2 (nc_a2 _) 0 rfl (by decide) (nc_s2 _ _ _) dd_Arrays_fill_20 hf (fun H locs hat hf => ?_)
      refine lv_iinc (v := np_i (x4 + 1)) (lv' := [(4, .int (np_i (x4 + 1))), (0, .ref (q 2)), (2, .int (np_i x2)), (3, .int (np_i x3))]) C.x C.b dd_Arrays_fill_21 hl (k := 3) rfl (np_inc _ _) (by decide) rfl (fun ls hl => ?_)
      refine lv_goto (tgt := 10) C.x C.b dd_Arrays_fill_24 (by decide) ?_
      exact h10 _ _ _ _ _ _ _ hf hat (lv_sub hl [1, 2, 3, 0] rfl)
set_option maxHeartbeats 4000000 in
set_option maxRecDepth 100000 in
theorem w_f_Arrays_fill_2 (C : np_Cx gA p R s m args c D np_cl (np_ty cA) A np_al "java/util/Arrays" prog_25_method_104_code 5 { frames := 1, cells := 0, slots := 0, locals := 22 }) (hQ : ∀ (pc : Nat) (ls : Array Slot) (H : Heap) (locs : List Loc) {σ : np_S}, decode prog_25_method_104_code pc = .ok (.return_, 1) → some ((0 : Int), σ) = some out → np_At D np_cl A (nc_wd q cA) s σ H locs → W p l e R s m args below meth c H locs 0 0 Q (F0 m pc ls []))   : ∀ (x1 x2 x3 : Int) (σ : np_S) (H : Heap) (locs : List Loc) (ls : Array Slot), f_Arrays_fill_2  x1 x2 x3 σ = some out → np_At D np_cl A (nc_wd q cA) s σ H locs → lv_has ls 5 [(0, .ref (q 2)), (1, .int (np_i x1)), (2, .int (np_i x2)), (3, .int (np_i x3))] → W p l e R s m args below meth c H locs 0 0 Q (F0 m 0 ls []) := by
  intro x1 x2 x3 σ H locs ls hf hat hl
  unfold f_Arrays_fill_2 at hf
  refine lv_aload_n C.x C.b dd_Arrays_fill_0 rfl (lv_at hl 0 rfl) ?_
  refine np_alen (n := 105) C hat.1 2 (nc_a2 _) 0 rfl (show Int32.ofNat 105 = np_i 105 by decide +kernel) dd_Arrays_fill_1 ?_
  refine lv_iload_n C.x C.b dd_Arrays_fill_2 rfl (lv_at hl 1 rfl) ?_
  refine lv_iload_n C.x C.b dd_Arrays_fill_3 rfl (lv_at hl 2 rfl) ?_
  refine np_callSv (As := [.int (np_i 105), .int (np_i x1), .int (np_i x2)]) (rest := []) C (c_Arrays_rangeCheck l 105 x1 x2 _) np_allgood tw_494 tw_495 tw_3 tw_496 (nA := 3) (by decide +kernel) rfl ⟨rfl, rfl, Nat.le_of_ble_eq_true rfl, Nat.le_of_ble_eq_true rfl⟩ hat rfl hl.1 (Nat.le_of_ble_eq_true rfl) dd_Arrays_fill_4 hf (fun o1 H locs hf hat => ?_)
  refine lv_iload_n C.x C.b dd_Arrays_fill_7 rfl (lv_at hl 1 rfl) ?_
  refine lv_istore (lv' := [(4, .int (np_i x1)), (0, .ref (q 2)), (1, .int (np_i x1)), (2, .int (np_i x2)), (3, .int (np_i x3))]) C.x C.b dd_Arrays_fill_8 hl (by decide) rfl (fun ls hl => ?_)
  exact w_f_Arrays_fill_2_10 C hQ  6000 _ _ _ _ _ _ _ hf hat (lv_sub hl [1, 3, 4, 0] rfl)
set_option maxHeartbeats 4000000 in
set_option maxRecDepth 100000 in
theorem c_Arrays_fill_2 (l : Launch) {gA : Nat → Nat} {D : va_G} {q : Nat → Nat} {cA : Nat → ClassId} (x1 x2 x3 : Int) (σ : np_S) : np_Mv gA l D np_cl (np_ty cA) (nc_wd q cA) yy_Arrays_fill (.code yy_Arrays_fill prog_25_method_104_code 5 none :: np_al) { frames := 1, cells := 0, slots := 0, locals := 22 } [.ref (q 2), .int (np_i x1), .int (np_i x2), .int (np_i x3)] σ (f_Arrays_fill_2 x1 x2 x3 σ) :=
  np_mkv (by decide +kernel) (Nat.le_of_ble_eq_true rfl) (fun o p e R s m args below meth c Q A ls hf C hQ hat hl => w_f_Arrays_fill_2 C hQ x1 x2 x3 σ _ _ _ hf hat (lv_sub hl [0, 1, 2, 3] rfl))
set_option maxHeartbeats 4000000 in
set_option maxRecDepth 100000 in
theorem w_f_Arrays_fill2_3_10 (C : np_Cx gA p R s m args c D np_cl (np_ty cA) A np_al "java/util/Arrays" prog_25_method_102_code 6 { frames := 1, cells := 0, slots := 0, locals := 22 }) (hQ : ∀ (pc : Nat) (ls : Array Slot) (H : Heap) (locs : List Loc) {σ : np_S}, decode prog_25_method_102_code pc = .ok (.return_, 1) → some ((0 : Int), σ) = some out → np_At D np_cl A (nc_wd q cA) s σ H locs → W p l e R s m args below meth c H locs 0 0 Q (F0 m pc ls []))   : ∀ (n : Nat), ∀ (x2 x3 x5 : Int) (σ : np_S) (H : Heap) (locs : List Loc) (ls : Array Slot), f_Arrays_fill2_3_10  n x2 x3 x5 σ = some out → np_At D np_cl A (nc_wd q cA) s σ H locs → lv_has ls 6 [(0, .ref (q 3)), (2, .int (np_i x2)), (3, .long (np_l x3)), (5, .int (np_i x5))] → W p l e R s m args below meth c H locs 0 0 Q (F0 m 10 ls []) := by
  intro n
  induction n with
  | zero => intro x2 x3 x5 σ H locs ls hf; cases hf
  | succ n ih =>
    intro x2 x3 x5 σ H locs ls hf hat hl
    have h10 := ih
    have hf : f_Arrays_fill2_3_10_b  (fun x2 x3 x5 σ => f_Arrays_fill2_3_10  n x2 x3 x5 σ) x2 x3 x5 σ = some out := hf
    unfold f_Arrays_fill2_3_10_b at hf
    refine lv_iload C.x C.b dd_Arrays_fill2_10 (lv_at hl 3 rfl) ?_
    refine lv_iload_n C.x C.b dd_Arrays_fill2_12 rfl (lv_at hl 1 rfl) ?_
    refine np_icmp_ge (tgt := 27) C dd_Arrays_fill2_13 (by decide) hf (fun _ hf => ?_) (fun _ hf => ?_)
    · exact hQ _ _ _ _ dd_Arrays_fill2_27 hf hat
    · refine lv_aload_n C.x C.b dd_Arrays_fill2_16 rfl (lv_at hl 0 rfl) ?_
      refine lv_iload C.x C.b dd_Arrays_fill2_17 (lv_at hl 3 rfl) ?_
      refine lv_lload_n C.x C.b dd_Arrays_fill2_19 rfl (lv_at hl 2 rfl) ?_
      refine np_lastore C hat 3 (nc_a3 _) 1 rfl (by decide) (nc_s3 _ _ _) dd_Arrays_fill2_20 hf (fun H locs hat hf => ?_)
      refine lv_iinc (v := np_i (x5 + 1)) (lv' := [(5, .int (np_i (x5 + 1))), (0, .ref (q 3)), (2, .int (np_i x2)), (3, .long (np_l x3))]) C.x C.b dd_Arrays_fill2_21 hl (k := 3) rfl (np_inc _ _) (by decide) rfl (fun ls hl => ?_)
      refine lv_goto (tgt := 10) C.x C.b dd_Arrays_fill2_24 (by decide) ?_
      exact h10 _ _ _ _ _ _ _ hf hat (lv_sub hl [1, 2, 3, 0] rfl)
set_option maxHeartbeats 4000000 in
set_option maxRecDepth 100000 in
theorem w_f_Arrays_fill2_3 (C : np_Cx gA p R s m args c D np_cl (np_ty cA) A np_al "java/util/Arrays" prog_25_method_102_code 6 { frames := 1, cells := 0, slots := 0, locals := 22 }) (hQ : ∀ (pc : Nat) (ls : Array Slot) (H : Heap) (locs : List Loc) {σ : np_S}, decode prog_25_method_102_code pc = .ok (.return_, 1) → some ((0 : Int), σ) = some out → np_At D np_cl A (nc_wd q cA) s σ H locs → W p l e R s m args below meth c H locs 0 0 Q (F0 m pc ls []))   : ∀ (x1 x2 x3 : Int) (σ : np_S) (H : Heap) (locs : List Loc) (ls : Array Slot), f_Arrays_fill2_3  x1 x2 x3 σ = some out → np_At D np_cl A (nc_wd q cA) s σ H locs → lv_has ls 6 [(0, .ref (q 3)), (1, .int (np_i x1)), (2, .int (np_i x2)), (3, .long (np_l x3))] → W p l e R s m args below meth c H locs 0 0 Q (F0 m 0 ls []) := by
  intro x1 x2 x3 σ H locs ls hf hat hl
  unfold f_Arrays_fill2_3 at hf
  refine lv_aload_n C.x C.b dd_Arrays_fill2_0 rfl (lv_at hl 0 rfl) ?_
  refine np_alen (n := 105) C hat.1 3 (nc_a3 _) 1 rfl (show Int32.ofNat 105 = np_i 105 by decide +kernel) dd_Arrays_fill2_1 ?_
  refine lv_iload_n C.x C.b dd_Arrays_fill2_2 rfl (lv_at hl 1 rfl) ?_
  refine lv_iload_n C.x C.b dd_Arrays_fill2_3 rfl (lv_at hl 2 rfl) ?_
  refine np_callSv (As := [.int (np_i 105), .int (np_i x1), .int (np_i x2)]) (rest := []) C (c_Arrays_rangeCheck l 105 x1 x2 _) np_allgood tw_494 tw_495 tw_3 tw_496 (nA := 3) (by decide +kernel) rfl ⟨rfl, rfl, Nat.le_of_ble_eq_true rfl, Nat.le_of_ble_eq_true rfl⟩ hat rfl hl.1 (Nat.le_of_ble_eq_true rfl) dd_Arrays_fill2_4 hf (fun o1 H locs hf hat => ?_)
  refine lv_iload_n C.x C.b dd_Arrays_fill2_7 rfl (lv_at hl 1 rfl) ?_
  refine lv_istore (lv' := [(5, .int (np_i x1)), (0, .ref (q 3)), (1, .int (np_i x1)), (2, .int (np_i x2)), (3, .long (np_l x3))]) C.x C.b dd_Arrays_fill2_8 hl (by decide) rfl (fun ls hl => ?_)
  exact w_f_Arrays_fill2_3_10 C hQ  6000 _ _ _ _ _ _ _ hf hat (lv_sub hl [1, 3, 4, 0] rfl)
set_option maxHeartbeats 4000000 in
set_option maxRecDepth 100000 in
theorem c_Arrays_fill2_3 (l : Launch) {gA : Nat → Nat} {D : va_G} {q : Nat → Nat} {cA : Nat → ClassId} (x1 x2 x3 : Int) (σ : np_S) : np_Mv gA l D np_cl (np_ty cA) (nc_wd q cA) yy_Arrays_fill2 (.code yy_Arrays_fill2 prog_25_method_102_code 6 none :: np_al) { frames := 1, cells := 0, slots := 0, locals := 22 } [.ref (q 3), .int (np_i x1), .int (np_i x2), .long (np_l x3)] σ (f_Arrays_fill2_3 x1 x2 x3 σ) :=
  np_mkv (by decide +kernel) (Nat.le_of_ble_eq_true rfl) (fun o p e R s m args below meth c Q A ls hf C hQ hat hl => w_f_Arrays_fill2_3 C hQ x1 x2 x3 σ _ _ _ hf hat (lv_sub hl [0, 1, 2, 3] rfl))
set_option maxHeartbeats 4000000 in
set_option maxRecDepth 100000 in
theorem w_f_Grammar_dropHand (C : np_Cx gA p R s m args c D np_cl (np_ty cA) A np_al "NotationParse$Grammar" prog_3_method_7_code 1 { frames := 2, cells := 0, slots := 0, locals := 47 }) (hQ : ∀ (pc : Nat) (ls : Array Slot) (H : Heap) (locs : List Loc) {σ : np_S}, decode prog_3_method_7_code pc = .ok (.return_, 1) → some ((0 : Int), σ) = some out → np_At D np_cl A (nc_wd q cA) s σ H locs → W p l e R s m args below meth c H locs 0 0 Q (F0 m pc ls []))   : ∀ (σ : np_S) (H : Heap) (locs : List Loc) (ls : Array Slot), f_Grammar_dropHand  σ = some out → np_At D np_cl A (nc_wd q cA) s σ H locs → lv_has ls 1 [(0, .ref (q 1))] → W p l e R s m args below meth c H locs 0 0 Q (F0 m 0 ls []) := by
  intro σ H locs ls hf hat hl
  unfold f_Grammar_dropHand at hf
  refine lv_aload_n C.x C.b dd_Grammar_dropHand_0 rfl (lv_at hl 0 rfl) ?_
  refine np_get (v := .ref (q 2)) C i_Grammar hat.1 1 (nc_o1 _) rfl 0 (by decide) tw_50 rfl rfl dd_Grammar_dropHand_1 ?_
  refine lv_aload_n C.x C.b dd_Grammar_dropHand_4 rfl (lv_at hl 0 rfl) ?_
  refine np_callVi (As := []) (rest := [.ref (q 2)]) C (c_Grammar_usedDots l _) np_allgood tw_355 tw_356 tw_357 tw_2 tw_358 (nA := 0) (by decide +kernel) rfl ⟨rfl, rfl, Nat.le_of_ble_eq_true rfl, Nat.le_of_ble_eq_true rfl⟩ (va_recv C.k hat.1 (ci := 1) (q0 := 1) rfl (nc_o1 _)) hat rfl hl.1 (Nat.le_of_ble_eq_true rfl) dd_Grammar_dropHand_5 hf (fun o1 H locs hf hat => ?_)
  refine lv_aload_n C.x C.b dd_Grammar_dropHand_8 rfl (lv_at hl 0 rfl) ?_
  refine np_callVi (As := []) (rest := [.int (np_i o1.1), .ref (q 2)]) C (c_Grammar_usedDots l _) np_allgood tw_355 tw_356 tw_357 tw_2 tw_358 (nA := 0) (by decide +kernel) rfl ⟨rfl, rfl, Nat.le_of_ble_eq_true rfl, Nat.le_of_ble_eq_true rfl⟩ (va_recv C.k hat.1 (ci := 1) (q0 := 1) rfl (nc_o1 _)) hat rfl hl.1 (Nat.le_of_ble_eq_true rfl) dd_Grammar_dropHand_9 hf (fun o2 H locs hf hat => ?_)
  refine lv_bipush (v := np_i 7) C.x C.b dd_Grammar_dropHand_12 (by decide +kernel) ?_
  refine np_iadd C dd_Grammar_dropHand_14 ?_
  refine lv_iconst (v := np_i (-1)) C.x C.b dd_Grammar_dropHand_15 rfl ?_
  refine np_callSv (As := [.ref (q 2), .int (np_i o1.1), .int (np_i (o2.1 + 7)), .int (np_i ((-1)))]) (rest := []) C (c_Arrays_fill_2 l o1.1 (o2.1 + 7) ((-1)) _) np_allgood tw_491 tw_492 tw_3 tw_493 (nA := 4) (by decide +kernel) rfl ⟨rfl, rfl, Nat.le_of_ble_eq_true rfl, Nat.le_of_ble_eq_true rfl⟩ hat rfl hl.1 (Nat.le_of_ble_eq_true rfl) dd_Grammar_dropHand_16 hf (fun o3 H locs hf hat => ?_)
  refine lv_aload_n C.x C.b dd_Grammar_dropHand_19 rfl (lv_at hl 0 rfl) ?_
  refine np_get (v := .ref (q 3)) C i_Grammar hat.1 1 (nc_o1 _) rfl 1 (by decide) tw_53 rfl rfl dd_Grammar_dropHand_20 ?_
  refine lv_aload_n C.x C.b dd_Grammar_dropHand_23 rfl (lv_at hl 0 rfl) ?_
  refine np_callVi (As := []) (rest := [.ref (q 3)]) C (c_Grammar_usedDots l _) np_allgood tw_355 tw_356 tw_357 tw_2 tw_358 (nA := 0) (by decide +kernel) rfl ⟨rfl, rfl, Nat.le_of_ble_eq_true rfl, Nat.le_of_ble_eq_true rfl⟩ (va_recv C.k hat.1 (ci := 1) (q0 := 1) rfl (nc_o1 _)) hat rfl hl.1 (Nat.le_of_ble_eq_true rfl) dd_Grammar_dropHand_24 hf (fun o4 H locs hf hat => ?_)
  refine lv_aload_n C.x C.b dd_Grammar_dropHand_27 rfl (lv_at hl 0 rfl) ?_
  refine np_callVi (As := []) (rest := [.int (np_i o4.1), .ref (q 3)]) C (c_Grammar_usedDots l _) np_allgood tw_355 tw_356 tw_357 tw_2 tw_358 (nA := 0) (by decide +kernel) rfl ⟨rfl, rfl, Nat.le_of_ble_eq_true rfl, Nat.le_of_ble_eq_true rfl⟩ (va_recv C.k hat.1 (ci := 1) (q0 := 1) rfl (nc_o1 _)) hat rfl hl.1 (Nat.le_of_ble_eq_true rfl) dd_Grammar_dropHand_28 hf (fun o5 H locs hf hat => ?_)
  refine lv_bipush (v := np_i 7) C.x C.b dd_Grammar_dropHand_31 (by decide +kernel) ?_
  refine np_iadd C dd_Grammar_dropHand_33 ?_
  refine np_ldc2 (v := (-1)) C tw_44 dd_Grammar_dropHand_34 ?_
  refine np_callSv (As := [.ref (q 3), .int (np_i o4.1), .int (np_i (o5.1 + 7)), .long (np_l ((-1)))]) (rest := []) C (c_Arrays_fill2_3 l o4.1 (o5.1 + 7) ((-1)) _) np_allgood tw_703 tw_704 tw_3 tw_705 (nA := 4) (by decide +kernel) rfl ⟨rfl, rfl, Nat.le_of_ble_eq_true rfl, Nat.le_of_ble_eq_true rfl⟩ hat rfl hl.1 (Nat.le_of_ble_eq_true rfl) dd_Grammar_dropHand_37 hf (fun o6 H locs hf hat => ?_)
  refine lv_aload_n C.x C.b dd_Grammar_dropHand_40 rfl (lv_at hl 0 rfl) ?_
  refine lv_iconst (v := np_i 0) C.x C.b dd_Grammar_dropHand_41 rfl ?_
  refine np_put C i_Grammar t_Grammar tok_Grammar n_Grammar hat 1 (nc_o1 _) rfl 5 (by decide) tw_62 rfl rfl (by decide +kernel) (np_narI 0) (np_fitI 0) (Nat.le_of_ble_eq_true rfl) (nc_s1_5 _ _) dd_Grammar_dropHand_42 (fun H locs hat => ?_)
  exact hQ _ _ _ _ dd_Grammar_dropHand_45 hf hat
set_option maxHeartbeats 4000000 in
set_option maxRecDepth 100000 in
theorem c_Grammar_dropHand (l : Launch) {gA : Nat → Nat} {D : va_G} {q : Nat → Nat} {cA : Nat → ClassId} (σ : np_S) : np_Mv gA l D np_cl (np_ty cA) (nc_wd q cA) yy_Grammar_dropHand (.code yy_Grammar_dropHand prog_3_method_7_code 1 none :: np_al) { frames := 2, cells := 0, slots := 0, locals := 47 } [.ref (q 1)] σ (f_Grammar_dropHand  σ) :=
  np_mkv (by decide +kernel) (Nat.le_of_ble_eq_true rfl) (fun o p e R s m args below meth c Q A ls hf C hQ hat hl => w_f_Grammar_dropHand C hQ  σ _ _ _ hf hat (lv_sub hl [0] rfl))
set_option maxHeartbeats 4000000 in
set_option maxRecDepth 100000 in
theorem w_f_Spelling_byteOf (C : np_Cx gA p R s m args c D np_cl (np_ty cA) A np_al "NotationParse$Spelling" prog_5_method_3_code 3 { frames := 0, cells := 0, slots := 0, locals := 0 }) (hQ : ∀ (pc : Nat) (ls : Array Slot) (H : Heap) (locs : List Loc) (v : Int) {σ : np_S}, decode prog_5_method_3_code pc = .ok (.ireturn, 1) → some (v, σ) = some out → np_At D np_cl A (nc_wd q cA) s σ H locs → W p l e R s m args below meth c H locs 0 0 Q (F0 m pc ls [.int (np_i v)]))   : ∀ (x0 x2 : Int) (σ : np_S) (H : Heap) (locs : List Loc) (ls : Array Slot), f_Spelling_byteOf  x0 x2 σ = some out → np_At D np_cl A (nc_wd q cA) s σ H locs → lv_has ls 3 [(0, .long (np_l x0)), (2, .int (np_i x2))] → W p l e R s m args below meth c H locs 0 0 Q (F0 m 0 ls []) := by
  intro x0 x2 σ H locs ls hf hat hl
  unfold f_Spelling_byteOf at hf
  refine lv_lload_n C.x C.b dd_Spelling_byteOf_0 rfl (lv_at hl 0 rfl) ?_
  refine lv_bipush (v := np_i 8) C.x C.b dd_Spelling_byteOf_1 (by decide +kernel) ?_
  refine lv_iload_n C.x C.b dd_Spelling_byteOf_3 rfl (lv_at hl 1 rfl) ?_
  refine np_imul C dd_Spelling_byteOf_4 ?_
  refine np_lushr C dd_Spelling_byteOf_5 ?_
  refine np_l2i C dd_Spelling_byteOf_6 ?_
  refine lv_sipush (v := np_i 255) C.x C.b dd_Spelling_byteOf_7 (by decide +kernel) ?_
  refine np_iand C dd_Spelling_byteOf_10 ?_
  exact hQ _ _ _ _ _ dd_Spelling_byteOf_11 hf hat
set_option maxHeartbeats 4000000 in
set_option maxRecDepth 100000 in
theorem c_Spelling_byteOf (l : Launch) {gA : Nat → Nat} {D : va_G} {q : Nat → Nat} {cA : Nat → ClassId} (x0 x2 : Int) (σ : np_S) : np_Mi gA l D np_cl (np_ty cA) (nc_wd q cA) yy_Spelling_byteOf (.code yy_Spelling_byteOf prog_5_method_3_code 3 (some .int) :: np_al) { frames := 0, cells := 0, slots := 0, locals := 0 } [.long (np_l x0), .int (np_i x2)] σ (f_Spelling_byteOf x0 x2 σ) :=
  np_mki (by decide +kernel) (Nat.le_of_ble_eq_true rfl) (fun o p e R s m args below meth c Q A ls hf C hQ hat hl => w_f_Spelling_byteOf C hQ x0 x2 σ _ _ _ hf hat (lv_sub hl [0, 1] rfl))
set_option maxHeartbeats 4000000 in
set_option maxRecDepth 100000 in
theorem w_f_Text_append_5 (C : np_Cx gA p R s m args c D np_cl (np_ty cA) A np_al "NotationParse$Text" prog_6_method_2_code 5 { frames := 1, cells := 0, slots := 0, locals := 22 }) (hQ : ∀ (pc : Nat) (ls : Array Slot) (H : Heap) (locs : List Loc) {σ : np_S}, decode prog_6_method_2_code pc = .ok (.return_, 1) → some ((0 : Int), σ) = some out → np_At D np_cl A (nc_wd q cA) s σ H locs → W p l e R s m args below meth c H locs 0 0 Q (F0 m pc ls []))   : ∀ (n : Nat), ∀ (x1 x4 : Int) (σ : np_S) (H : Heap) (locs : List Loc) (ls : Array Slot), f_Text_append_5  n x1 x4 σ = some out → np_At D np_cl A (nc_wd q cA) s σ H locs → lv_has ls 5 [(0, .ref (q 6)), (1, .long (np_l x1)), (4, .int (np_i x4))] → W p l e R s m args below meth c H locs 0 0 Q (F0 m 5 ls []) := by
  intro n
  induction n with
  | zero => intro x1 x4 σ H locs ls hf; cases hf
  | succ n ih =>
    intro x1 x4 σ H locs ls hf hat hl
    have h5 := ih
    have hf : f_Text_append_5_b  (fun x1 x4 σ => f_Text_append_5  n x1 x4 σ) x1 x4 σ = some out := hf
    unfold f_Text_append_5_b at hf
    refine lv_iload C.x C.b dd_Text_append_5 (lv_at hl 2 rfl) ?_
    refine np_if_lt (tgt := 42) C dd_Text_append_7 (by decide) hf (fun _ hf => ?_) (fun _ hf => ?_)
    · exact hQ _ _ _ _ dd_Text_append_42 hf hat
    · refine lv_aload_n C.x C.b dd_Text_append_10 rfl (lv_at hl 0 rfl) ?_
      refine np_get (v := .ref (q 7)) C i_Text hat.1 6 (nc_o6 _) rfl 0 (by decide) tw_85 rfl rfl dd_Text_append_11 ?_
      refine lv_aload_n C.x C.b dd_Text_append_14 rfl (lv_at hl 0 rfl) ?_
      refine np_get (v := .int (np_i (σ 6 1))) C i_Text hat.1 6 (nc_o6 _) rfl 1 (by decide) tw_86 rfl rfl dd_Text_append_15 ?_
      refine lv_lload_n C.x C.b dd_Text_append_18 rfl (lv_at hl 1 rfl) ?_
      refine lv_iload C.x C.b dd_Text_append_19 (lv_at hl 2 rfl) ?_
      refine np_callSi (As := [.long (np_l x1), .int (np_i x4)]) (rest := [.int (np_i (σ 6 1)), .ref (q 7)]) C (c_Spelling_byteOf l x1 x4 _) np_allgood tw_234 tw_235 tw_14 tw_236 (nA := 2) (by decide +kernel) rfl ⟨rfl, rfl, Nat.le_of_ble_eq_true rfl, Nat.le_of_ble_eq_true rfl⟩ hat rfl hl.1 (Nat.le_of_ble_eq_true rfl) dd_Text_append_21 hf (fun o1 H locs hf hat => ?_)
      refine np_i2b C dd_Text_append_24 ?_
      refine np_bastore C hat 7 (nc_a7 _) 2 rfl (by decide) (nc_s7 _ _ _) dd_Text_append_25 hf (fun H locs hat hf => ?_)
      refine lv_aload_n C.x C.b dd_Text_append_26 rfl (lv_at hl 0 rfl) ?_
      refine lv_dup C.x C.b dd_Text_append_27 rfl ?_
      refine np_get (v := .int (np_i ((np_st o1.2 7 (σ 6 1) (Int.bmod (Int.bmod o1.1 256) 256)) 6 1))) C i_Text hat.1 6 (nc_o6 _) rfl 1 (by decide) tw_86 rfl rfl dd_Text_append_28 ?_
      refine lv_iconst (v := np_i 1) C.x C.b dd_Text_append_31 rfl ?_
      refine np_iadd C dd_Text_append_32 ?_
      refine np_put C i_Text t_Text tok_Text n_Text hat 6 (nc_o6 _) rfl 1 (by decide) tw_86 rfl rfl (by decide +kernel) (np_narI (((np_st o1.2 7 (σ 6 1) (Int.bmod (Int.bmod o1.1 256) 256)) 6 1) + 1)) (np_fitI (((np_st o1.2 7 (σ 6 1) (Int.bmod (Int.bmod o1.1 256) 256)) 6 1) + 1)) (Nat.le_of_ble_eq_true rfl) (nc_s6_1 _ _) dd_Text_append_33 (fun H locs hat => ?_)
      refine lv_iinc (v := np_i (x4 + (-1))) (lv' := [(4, .int (np_i (x4 + (-1)))), (0, .ref (q 6)), (1, .long (np_l x1))]) C.x C.b dd_Text_append_36 hl (k := 2) rfl (np_inc _ _) (by decide) rfl (fun ls hl => ?_)
      refine lv_goto (tgt := 5) C.x C.b dd_Text_append_39 (by decide) ?_
      exact h5 _ _ _ _ _ _ hf hat (lv_sub hl [1, 2, 0] rfl)
set_option maxHeartbeats 4000000 in
set_option maxRecDepth 100000 in
theorem w_f_Text_append (C : np_Cx gA p R s m args c D np_cl (np_ty cA) A np_al "NotationParse$Text" prog_6_method_2_code 5 { frames := 1, cells := 0, slots := 0, locals := 22 }) (hQ : ∀ (pc : Nat) (ls : Array Slot) (H : Heap) (locs : List Loc) {σ : np_S}, decode prog_6_method_2_code pc = .ok (.return_, 1) → some ((0 : Int), σ) = some out → np_At D np_cl A (nc_wd q cA) s σ H locs → W p l e R s m args below meth c H locs 0 0 Q (F0 m pc ls []))   : ∀ (x1 x3 : Int) (σ : np_S) (H : Heap) (locs : List Loc) (ls : Array Slot), f_Text_append  x1 x3 σ = some out → np_At D np_cl A (nc_wd q cA) s σ H locs → lv_has ls 5 [(0, .ref (q 6)), (1, .long (np_l x1)), (3, .int (np_i x3))] → W p l e R s m args below meth c H locs 0 0 Q (F0 m 0 ls []) := by
  intro x1 x3 σ H locs ls hf hat hl
  unfold f_Text_append at hf
  refine lv_iload_n C.x C.b dd_Text_append_0 rfl (lv_at hl 2 rfl) ?_
  refine lv_iconst (v := np_i 1) C.x C.b dd_Text_append_1 rfl ?_
  refine np_isub C dd_Text_append_2 ?_
  refine lv_istore (lv' := [(4, .int (np_i (x3 - 1))), (0, .ref (q 6)), (1, .long (np_l x1)), (3, .int (np_i x3))]) C.x C.b dd_Text_append_3 hl (by decide) rfl (fun ls hl => ?_)
  exact w_f_Text_append_5 C hQ  6000 _ _ _ _ _ _ hf hat (lv_sub hl [1, 2, 0] rfl)
set_option maxHeartbeats 4000000 in
set_option maxRecDepth 100000 in
theorem c_Text_append (l : Launch) {gA : Nat → Nat} {D : va_G} {q : Nat → Nat} {cA : Nat → ClassId} (x1 x3 : Int) (σ : np_S) : np_Mv gA l D np_cl (np_ty cA) (nc_wd q cA) yy_Text_append (.code yy_Text_append prog_6_method_2_code 5 none :: np_al) { frames := 1, cells := 0, slots := 0, locals := 22 } [.ref (q 6), .long (np_l x1), .int (np_i x3)] σ (f_Text_append x1 x3 σ) :=
  np_mkv (by decide +kernel) (Nat.le_of_ble_eq_true rfl) (fun o p e R s m args below meth c Q A ls hf C hQ hat hl => w_f_Text_append C hQ x1 x3 σ _ _ _ hf hat (lv_sub hl [0, 1, 2] rfl))
set_option maxHeartbeats 4000000 in
set_option maxRecDepth 100000 in
theorem w_f_N_put_26 (C : np_Cx gA p R s m args c D np_cl (np_ty cA) A np_al "NotationParse" prog_1_method_5_code 4 { frames := 2, cells := 0, slots := 0, locals := 46 }) (hQ : ∀ (pc : Nat) (ls : Array Slot) (H : Heap) (locs : List Loc) (v : Int) {σ : np_S}, decode prog_1_method_5_code pc = .ok (.ireturn, 1) → np_ck (v = 0 ∨ v = 1) (some (v, σ)) = some out → np_At D np_cl A (nc_wd q cA) s σ H locs → W p l e R s m args below meth c H locs 0 0 Q (F0 m pc ls [.int (np_i v)]))   : ∀ (σ : np_S) (H : Heap) (locs : List Loc) (ls : Array Slot), f_N_put_26  σ = some out → np_At D np_cl A (nc_wd q cA) s σ H locs → lv_has ls 4 [] → W p l e R s m args below meth c H locs 0 0 Q (F0 m 26 ls []) := by
  intro σ H locs ls hf hat hl
  unfold f_N_put_26 at hf
  refine lv_iconst (v := np_i 0) C.x C.b dd_N_put_26 rfl ?_
  exact hQ _ _ _ _ _ dd_N_put_27 hf hat
set_option maxHeartbeats 4000000 in
set_option maxRecDepth 100000 in
theorem w_f_N_put (C : np_Cx gA p R s m args c D np_cl (np_ty cA) A np_al "NotationParse" prog_1_method_5_code 4 { frames := 2, cells := 0, slots := 0, locals := 46 }) (hQ : ∀ (pc : Nat) (ls : Array Slot) (H : Heap) (locs : List Loc) (v : Int) {σ : np_S}, decode prog_1_method_5_code pc = .ok (.ireturn, 1) → np_ck (v = 0 ∨ v = 1) (some (v, σ)) = some out → np_At D np_cl A (nc_wd q cA) s σ H locs → W p l e R s m args below meth c H locs 0 0 Q (F0 m pc ls [.int (np_i v)]))   : ∀ (x1 x3 : Int) (σ : np_S) (H : Heap) (locs : List Loc) (ls : Array Slot), f_N_put  x1 x3 σ = some out → np_At D np_cl A (nc_wd q cA) s σ H locs → lv_has ls 4 [(0, .ref (q 0)), (1, .long (np_l x1)), (3, .int (np_i x3))] → W p l e R s m args below meth c H locs 0 0 Q (F0 m 0 ls []) := by
  intro x1 x3 σ H locs ls hf hat hl
  unfold f_N_put at hf
  refine lv_iload_n C.x C.b dd_N_put_0 rfl (lv_at hl 2 rfl) ?_
  refine lv_iconst (v := np_i 1) C.x C.b dd_N_put_1 rfl ?_
  refine np_icmp_lt (tgt := 26) C dd_N_put_2 (by decide) hf (fun _ hf => ?_) (fun _ hf => ?_)
  · exact w_f_N_put_26 C hQ   _ _ _ _ hf hat (lv_sub hl [] rfl)
  · refine lv_iload_n C.x C.b dd_N_put_5 rfl (lv_at hl 2 rfl) ?_
    refine lv_bipush (v := np_i 8) C.x C.b dd_N_put_6 (by decide +kernel) ?_
    refine np_icmp_gt (tgt := 26) C dd_N_put_8 (by decide) hf (fun _ hf => ?_) (fun _ hf => ?_)
    · exact w_f_N_put_26 C hQ   _ _ _ _ hf hat (lv_sub hl [] rfl)
    · refine lv_iload_n C.x C.b dd_N_put_11 rfl (lv_at hl 2 rfl) ?_
      refine lv_sipush (v := np_i 200) C.x C.b dd_N_put_12 (by decide +kernel) ?_
      refine lv_aload_n C.x C.b dd_N_put_15 rfl (lv_at hl 0 rfl) ?_
      refine np_get (v := .ref (q 6)) C i_N hat.1 0 (nc_o0 _) rfl 1 (by decide) tw_205 rfl rfl dd_N_put_16 ?_
      refine np_get (v := .int (np_i (σ 6 1))) C i_Text hat.1 6 (nc_o6 _) rfl 1 (by decide) tw_87 rfl rfl dd_N_put_19 ?_
      refine np_isub C dd_N_put_22 ?_
      refine np_icmp_le (tgt := 28) C dd_N_put_23 (by decide) hf (fun _ hf => ?_) (fun _ hf => ?_)
      · refine lv_aload_n C.x C.b dd_N_put_28 rfl (lv_at hl 0 rfl) ?_
        refine np_get (v := .ref (q 6)) C i_N hat.1 0 (nc_o0 _) rfl 1 (by decide) tw_205 rfl rfl dd_N_put_29 ?_
        refine lv_lload_n C.x C.b dd_N_put_32 rfl (lv_at hl 1 rfl) ?_
        refine lv_iload_n C.x C.b dd_N_put_33 rfl (lv_at hl 2 rfl) ?_
        refine np_callVv (As := [.long (np_l x1), .int (np_i x3)]) (rest := []) C (c_Text_append l x1 x3 _) np_allgood tw_230 tw_231 tw_232 tw_4 tw_233 (nA := 2) (by decide +kernel) rfl ⟨rfl, rfl, Nat.le_of_ble_eq_true rfl, Nat.le_of_ble_eq_true rfl⟩ (va_recv C.k hat.1 (ci := 2) (q0 := 6) rfl (nc_o6 _)) hat rfl hl.1 (Nat.le_of_ble_eq_true rfl) dd_N_put_34 hf (fun o1 H locs hf hat => ?_)
        refine lv_iconst (v := np_i 1) C.x C.b dd_N_put_37 rfl ?_
        exact hQ _ _ _ _ _ dd_N_put_38 hf hat
      · exact w_f_N_put_26 C hQ   _ _ _ _ hf hat (lv_sub hl [] rfl)
set_option maxHeartbeats 4000000 in
set_option maxRecDepth 100000 in
theorem c_N_put (l : Launch) {gA : Nat → Nat} {D : va_G} {q : Nat → Nat} {cA : Nat → ClassId} (x1 x3 : Int) (σ : np_S) : np_Mi gA l D np_cl (np_ty cA) (nc_wd q cA) yy_N_put (.code yy_N_put prog_1_method_5_code 4 (some .boolean) :: np_al) { frames := 2, cells := 0, slots := 0, locals := 46 } [.ref (q 0), .long (np_l x1), .int (np_i x3)] σ (f_N_put x1 x3 σ) :=
  np_mkz (by decide +kernel) (Nat.le_of_ble_eq_true rfl) (fun o p e R s m args below meth c Q A ls hf C hQ hat hl => w_f_N_put C hQ x1 x3 σ _ _ _ hf hat (lv_sub hl [0, 1, 2] rfl))
set_option maxHeartbeats 4000000 in
set_option maxRecDepth 100000 in
theorem w_f_N_clear (C : np_Cx gA p R s m args c D np_cl (np_ty cA) A np_al "NotationParse" prog_1_method_6_code 1 { frames := 0, cells := 0, slots := 0, locals := 0 }) (hQ : ∀ (pc : Nat) (ls : Array Slot) (H : Heap) (locs : List Loc) {σ : np_S}, decode prog_1_method_6_code pc = .ok (.return_, 1) → some ((0 : Int), σ) = some out → np_At D np_cl A (nc_wd q cA) s σ H locs → W p l e R s m args below meth c H locs 0 0 Q (F0 m pc ls []))   : ∀ (σ : np_S) (H : Heap) (locs : List Loc) (ls : Array Slot), f_N_clear  σ = some out → np_At D np_cl A (nc_wd q cA) s σ H locs → lv_has ls 1 [(0, .ref (q 0))] → W p l e R s m args below meth c H locs 0 0 Q (F0 m 0 ls []) := by
  intro σ H locs ls hf hat hl
  unfold f_N_clear at hf
  refine lv_aload_n C.x C.b dd_N_clear_0 rfl (lv_at hl 0 rfl) ?_
  refine np_get (v := .ref (q 6)) C i_N hat.1 0 (nc_o0 _) rfl 1 (by decide) tw_205 rfl rfl dd_N_clear_1 ?_
  refine lv_iconst (v := np_i 0) C.x C.b dd_N_clear_4 rfl ?_
  refine np_put C i_Text t_Text tok_Text n_Text hat 6 (nc_o6 _) rfl 1 (by decide) tw_87 rfl rfl (by decide +kernel) (np_narI 0) (np_fitI 0) (Nat.le_of_ble_eq_true rfl) (nc_s6_1 _ _) dd_N_clear_5 (fun H locs hat => ?_)
  exact hQ _ _ _ _ dd_N_clear_8 hf hat
set_option maxHeartbeats 4000000 in
set_option maxRecDepth 100000 in
theorem c_N_clear (l : Launch) {gA : Nat → Nat} {D : va_G} {q : Nat → Nat} {cA : Nat → ClassId} (σ : np_S) : np_Mv gA l D np_cl (np_ty cA) (nc_wd q cA) yy_N_clear (.code yy_N_clear prog_1_method_6_code 1 none :: np_al) { frames := 0, cells := 0, slots := 0, locals := 0 } [.ref (q 0)] σ (f_N_clear  σ) :=
  np_mkv (by decide +kernel) (Nat.le_of_ble_eq_true rfl) (fun o p e R s m args below meth c Q A ls hf C hQ hat hl => w_f_N_clear C hQ  σ _ _ _ hf hat (lv_sub hl [0] rfl))
set_option maxHeartbeats 4000000 in
set_option maxRecDepth 100000 in
theorem w_f_Tree_fell (C : np_Cx gA p R s m args c D np_cl (np_ty cA) A np_al "NotationParse$Tree" prog_7_method_2_code 1 { frames := 0, cells := 0, slots := 0, locals := 0 }) (hQ : ∀ (pc : Nat) (ls : Array Slot) (H : Heap) (locs : List Loc) {σ : np_S}, decode prog_7_method_2_code pc = .ok (.return_, 1) → some ((0 : Int), σ) = some out → np_At D np_cl A (nc_wd q cA) s σ H locs → W p l e R s m args below meth c H locs 0 0 Q (F0 m pc ls []))   : ∀ (σ : np_S) (H : Heap) (locs : List Loc) (ls : Array Slot), f_Tree_fell  σ = some out → np_At D np_cl A (nc_wd q cA) s σ H locs → lv_has ls 1 [(0, .ref (q 15))] → W p l e R s m args below meth c H locs 0 0 Q (F0 m 0 ls []) := by
  intro σ H locs ls hf hat hl
  unfold f_Tree_fell at hf
  refine lv_aload_n C.x C.b dd_Tree_fell_0 rfl (lv_at hl 0 rfl) ?_
  refine lv_iconst (v := np_i 0) C.x C.b dd_Tree_fell_1 rfl ?_
  refine np_put C i_Tree t_Tree tok_Tree n_Tree hat 15 (nc_o15 _) rfl 2 (by decide) tw_142 rfl rfl (by decide +kernel) (np_narI 0) (np_fitI 0) (Nat.le_of_ble_eq_true rfl) (nc_s15_2 _ _) dd_Tree_fell_2 (fun H locs hat => ?_)
  exact hQ _ _ _ _ dd_Tree_fell_5 hf hat
set_option maxHeartbeats 4000000 in
set_option maxRecDepth 100000 in
theorem c_Tree_fell (l : Launch) {gA : Nat → Nat} {D : va_G} {q : Nat → Nat} {cA : Nat → ClassId} (σ : np_S) : np_Mv gA l D np_cl (np_ty cA) (nc_wd q cA) yy_Tree_fell (.code yy_Tree_fell prog_7_method_2_code 1 none :: np_al) { frames := 0, cells := 0, slots := 0, locals := 0 } [.ref (q 15)] σ (f_Tree_fell  σ) :=
  np_mkv (by decide +kernel) (Nat.le_of_ble_eq_true rfl) (fun o p e R s m args below meth c Q A ls hf C hQ hat hl => w_f_Tree_fell C hQ  σ _ _ _ hf hat (lv_sub hl [0] rfl))
set_option maxHeartbeats 4000000 in
set_option maxRecDepth 100000 in
theorem w_f_String_isLatin1_k0_18 (C : np_Cx gA p R s m args c D np_cl (np_ty cA) A np_al "java/lang/String" prog_19_method_154_code 1 { frames := 0, cells := 0, slots := 0, locals := 0 }) (hQ : ∀ (pc : Nat) (ls : Array Slot) (H : Heap) (locs : List Loc) (v : Int) {σ : np_S}, decode prog_19_method_154_code pc = .ok (.ireturn, 1) → np_ck (v = 0 ∨ v = 1) (some (v, σ)) = some out → np_At D np_cl A (nc_wd q cA) s σ H locs → W p l e R s m args below meth c H locs 0 0 Q (F0 m pc ls [.int (np_i v)]))   : ∀ (t0 : Int) (σ : np_S) (H : Heap) (locs : List Loc) (ls : Array Slot), f_String_isLatin1_k0_18  t0 σ = some out → np_At D np_cl A (nc_wd q cA) s σ H locs → lv_has ls 1 [] → W p l e R s m args below meth c H locs 0 0 Q (F0 m 18 ls [.int (np_i t0)]) := by
  intro t0 σ H locs ls hf hat hl
  unfold f_String_isLatin1_k0_18 at hf
  exact hQ _ _ _ _ _ dd_String_isLatin1_18 hf hat
set_option maxHeartbeats 4000000 in
set_option maxRecDepth 100000 in
theorem w_f_String_isLatin1_k0_17 (C : np_Cx gA p R s m args c D np_cl (np_ty cA) A np_al "java/lang/String" prog_19_method_154_code 1 { frames := 0, cells := 0, slots := 0, locals := 0 }) (hQ : ∀ (pc : Nat) (ls : Array Slot) (H : Heap) (locs : List Loc) (v : Int) {σ : np_S}, decode prog_19_method_154_code pc = .ok (.ireturn, 1) → np_ck (v = 0 ∨ v = 1) (some (v, σ)) = some out → np_At D np_cl A (nc_wd q cA) s σ H locs → W p l e R s m args below meth c H locs 0 0 Q (F0 m pc ls [.int (np_i v)]))   : ∀ (σ : np_S) (H : Heap) (locs : List Loc) (ls : Array Slot), f_String_isLatin1_k0_17  σ = some out → np_At D np_cl A (nc_wd q cA) s σ H locs → lv_has ls 1 [] → W p l e R s m args below meth c H locs 0 0 Q (F0 m 17 ls []) := by
  intro σ H locs ls hf hat hl
  unfold f_String_isLatin1_k0_17 at hf
  refine lv_iconst (v := np_i 0) C.x C.b dd_String_isLatin1_17 rfl ?_
  exact w_f_String_isLatin1_k0_18 C hQ  _ _ _ _ _ hf hat (lv_sub hl [] rfl)
set_option maxHeartbeats 4000000 in
set_option maxRecDepth 100000 in
theorem w_f_String_isLatin1_k0 (C : np_Cx gA p R s m args c D np_cl (np_ty cA) A np_al "java/lang/String" prog_19_method_154_code 1 { frames := 0, cells := 0, slots := 0, locals := 0 }) (hQ : ∀ (pc : Nat) (ls : Array Slot) (H : Heap) (locs : List Loc) (v : Int) {σ : np_S}, decode prog_19_method_154_code pc = .ok (.ireturn, 1) → np_ck (v = 0 ∨ v = 1) (some (v, σ)) = some out → np_At D np_cl A (nc_wd q cA) s σ H locs → W p l e R s m args below meth c H locs 0 0 Q (F0 m pc ls [.int (np_i v)]))   : ∀ (σ : np_S) (H : Heap) (locs : List Loc) (ls : Array Slot), f_String_isLatin1_k0  σ = some out → np_At D np_cl A (nc_wd q cA) s σ H locs → lv_has ls 1 [(0, .ref (gA 0))] → W p l e R s m args below meth c H locs 0 0 Q (F0 m 0 ls []) := by
  intro σ H locs ls hf hat hl
  unfold f_String_isLatin1_k0 at hf
  refine np_gets (v := .int (np_i 1)) C hat C.en.2.2.2 tw_273 dd_String_isLatin1_0 ?_
  refine np_if_eq (tgt := 17) C dd_String_isLatin1_3 (by decide) hf (fun _ hf => ?_) (fun _ hf => ?_)
  · exact w_f_String_isLatin1_k0_17 C hQ   _ _ _ _ hf hat (lv_sub hl [] rfl)
  · refine lv_aload_n C.x C.b dd_String_isLatin1_6 rfl (lv_at hl 0 rfl) ?_
    refine np_getk (v := .int (np_i 0)) C hat ((C.en.1.1 0 (by decide)).2.1) tw_693 dd_String_isLatin1_7 ?_
    refine np_if_ne (tgt := 17) C dd_String_isLatin1_10 (by decide) hf (fun _ hf => ?_) (fun _ hf => ?_)
    · exact w_f_String_isLatin1_k0_17 C hQ   _ _ _ _ hf hat (lv_sub hl [] rfl)
    · refine lv_iconst (v := np_i 1) C.x C.b dd_String_isLatin1_13 rfl ?_
      refine lv_goto (tgt := 18) C.x C.b dd_String_isLatin1_14 (by decide) ?_
      exact w_f_String_isLatin1_k0_18 C hQ  _ _ _ _ _ hf hat (lv_sub hl [] rfl)
set_option maxHeartbeats 4000000 in
set_option maxRecDepth 100000 in
theorem c_String_isLatin1_k0 (l : Launch) {gA : Nat → Nat} {D : va_G} {q : Nat → Nat} {cA : Nat → ClassId} (σ : np_S) : np_Mi gA l D np_cl (np_ty cA) (nc_wd q cA) yy_String_isLatin1 (.code yy_String_isLatin1 prog_19_method_154_code 1 (some .boolean) :: np_al) { frames := 0, cells := 0, slots := 0, locals := 0 } [.ref (gA 0)] σ (f_String_isLatin1_k0  σ) :=
  np_mkz (by decide +kernel) (Nat.le_of_ble_eq_true rfl) (fun o p e R s m args below meth c Q A ls hf C hQ hat hl => w_f_String_isLatin1_k0 C hQ  σ _ _ _ hf hat (lv_sub hl [0] rfl))
set_option maxHeartbeats 4000000 in
set_option maxRecDepth 100000 in
theorem w_f_String_coder_k0_14 (C : np_Cx gA p R s m args c D np_cl (np_ty cA) A np_al "java/lang/String" prog_19_method_152_code 1 { frames := 0, cells := 0, slots := 0, locals := 0 }) (hQ : ∀ (pc : Nat) (ls : Array Slot) (H : Heap) (locs : List Loc) (v : Int) {σ : np_S}, decode prog_19_method_152_code pc = .ok (.ireturn, 1) → np_ck (v = 0 ∨ v = 1) (some (v, σ)) = some out → np_At D np_cl A (nc_wd q cA) s σ H locs → W p l e R s m args below meth c H locs 0 0 Q (F0 m pc ls [.int (np_i v)]))   : ∀ (t0 : Int) (σ : np_S) (H : Heap) (locs : List Loc) (ls : Array Slot), f_String_coder_k0_14  t0 σ = some out → np_At D np_cl A (nc_wd q cA) s σ H locs → lv_has ls 1 [] → W p l e R s m args below meth c H locs 0 0 Q (F0 m 14 ls [.int (np_i t0)]) := by
  intro t0 σ H locs ls hf hat hl
  unfold f_String_coder_k0_14 at hf
  exact hQ _ _ _ _ _ dd_String_coder_14 hf hat
set_option maxHeartbeats 4000000 in
set_option maxRecDepth 100000 in
theorem w_f_String_coder_k0 (C : np_Cx gA p R s m args c D np_cl (np_ty cA) A np_al "java/lang/String" prog_19_method_152_code 1 { frames := 0, cells := 0, slots := 0, locals := 0 }) (hQ : ∀ (pc : Nat) (ls : Array Slot) (H : Heap) (locs : List Loc) (v : Int) {σ : np_S}, decode prog_19_method_152_code pc = .ok (.ireturn, 1) → np_ck (v = 0 ∨ v = 1) (some (v, σ)) = some out → np_At D np_cl A (nc_wd q cA) s σ H locs → W p l e R s m args below meth c H locs 0 0 Q (F0 m pc ls [.int (np_i v)]))   : ∀ (σ : np_S) (H : Heap) (locs : List Loc) (ls : Array Slot), f_String_coder_k0  σ = some out → np_At D np_cl A (nc_wd q cA) s σ H locs → lv_has ls 1 [(0, .ref (gA 0))] → W p l e R s m args below meth c H locs 0 0 Q (F0 m 0 ls []) := by
  intro σ H locs ls hf hat hl
  unfold f_String_coder_k0 at hf
  refine np_gets (v := .int (np_i 1)) C hat C.en.2.2.2 tw_273 dd_String_coder_0 ?_
  refine np_if_eq (tgt := 13) C dd_String_coder_3 (by decide) hf (fun _ hf => ?_) (fun _ hf => ?_)
  · refine lv_iconst (v := np_i 1) C.x C.b dd_String_coder_13 rfl ?_
    exact w_f_String_coder_k0_14 C hQ  _ _ _ _ _ hf hat (lv_sub hl [] rfl)
  · refine lv_aload_n C.x C.b dd_String_coder_6 rfl (lv_at hl 0 rfl) ?_
    refine np_getk (v := .int (np_i 0)) C hat ((C.en.1.1 0 (by decide)).2.1) tw_693 dd_String_coder_7 ?_
    refine lv_goto (tgt := 14) C.x C.b dd_String_coder_10 (by decide) ?_
    exact w_f_String_coder_k0_14 C hQ  _ _ _ _ _ hf hat (lv_sub hl [] rfl)
set_option maxHeartbeats 4000000 in
set_option maxRecDepth 100000 in
theorem c_String_coder_k0 (l : Launch) {gA : Nat → Nat} {D : va_G} {q : Nat → Nat} {cA : Nat → ClassId} (σ : np_S) : np_Mi gA l D np_cl (np_ty cA) (nc_wd q cA) yy_String_coder (.code yy_String_coder prog_19_method_152_code 1 (some .byte) :: np_al) { frames := 0, cells := 0, slots := 0, locals := 0 } [.ref (gA 0)] σ (f_String_coder_k0  σ) :=
  np_mkb (by decide +kernel) (Nat.le_of_ble_eq_true rfl) (fun o p e R s m args below meth c Q A ls hf C hQ hat hl => w_f_String_coder_k0 C hQ  σ _ _ _ hf hat (lv_sub hl [0] rfl))
set_option maxHeartbeats 4000000 in
set_option maxRecDepth 100000 in
theorem w_f_String_length_k0 (C : np_Cx gA p R s m args c D np_cl (np_ty cA) A np_al "java/lang/String" prog_19_method_54_code 1 { frames := 1, cells := 0, slots := 0, locals := 20 }) (hQ : ∀ (pc : Nat) (ls : Array Slot) (H : Heap) (locs : List Loc) (v : Int) {σ : np_S}, decode prog_19_method_54_code pc = .ok (.ireturn, 1) → some (v, σ) = some out → np_At D np_cl A (nc_wd q cA) s σ H locs → W p l e R s m args below meth c H locs 0 0 Q (F0 m pc ls [.int (np_i v)]))   : ∀ (σ : np_S) (H : Heap) (locs : List Loc) (ls : Array Slot), f_String_length_k0  σ = some out → np_At D np_cl A (nc_wd q cA) s σ H locs → lv_has ls 1 [(0, .ref (gA 0))] → W p l e R s m args below meth c H locs 0 0 Q (F0 m 0 ls []) := by
  intro σ H locs ls hf hat hl
  unfold f_String_length_k0 at hf
  refine lv_aload_n C.x C.b dd_String_length_0 rfl (lv_at hl 0 rfl) ?_
  refine np_getk (v := .ref (gA (100 + 0))) C hat ((C.en.1.1 0 (by decide)).2.2.1) tw_692 dd_String_length_1 ?_
  refine np_klen (n := 19) C hat ((C.en.1.1 0 (by decide)).2.2.2) (by decide +kernel) dd_String_length_4 ?_
  refine lv_aload_n C.x C.b dd_String_length_5 rfl (lv_at hl 0 rfl) ?_
  refine np_callVi (As := []) (rest := [.int (np_i 19)]) C (c_String_coder_k0 l _) np_allgood tw_279 tw_280 tw_281 tw_15 tw_282 (nA := 0) (by decide +kernel) rfl ⟨rfl, rfl, Nat.le_of_ble_eq_true rfl, Nat.le_of_ble_eq_true rfl⟩ (vk_recv C.en.1 (i := 0) (by decide) hat.2.2) hat rfl hl.1 (Nat.le_of_ble_eq_true rfl) dd_String_length_6 hf (fun o1 H locs hf hat => ?_)
  refine np_ishr C dd_String_length_9 ?_
  exact hQ _ _ _ _ _ dd_String_length_10 hf hat
set_option maxHeartbeats 4000000 in
set_option maxRecDepth 100000 in
theorem c_String_length_k0 (l : Launch) {gA : Nat → Nat} {D : va_G} {q : Nat → Nat} {cA : Nat → ClassId} (σ : np_S) : np_Mi gA l D np_cl (np_ty cA) (nc_wd q cA) yy_String_length (.code yy_String_length prog_19_method_54_code 1 (some .int) :: np_al) { frames := 1, cells := 0, slots := 0, locals := 20 } [.ref (gA 0)] σ (f_String_length_k0  σ) :=
  np_mki (by decide +kernel) (Nat.le_of_ble_eq_true rfl) (fun o p e R s m args below meth c Q A ls hf C hQ hat hl => w_f_String_length_k0 C hQ  σ _ _ _ hf hat (lv_sub hl [0] rfl))
set_option maxHeartbeats 4000000 in
set_option maxRecDepth 100000 in
theorem w_f_StringLatin1_canEncode_16 (C : np_Cx gA p R s m args c D np_cl (np_ty cA) A np_al "java/lang/StringLatin1" prog_21_method_4_code 1 { frames := 0, cells := 0, slots := 0, locals := 0 }) (hQ : ∀ (pc : Nat) (ls : Array Slot) (H : Heap) (locs : List Loc) (v : Int) {σ : np_S}, decode prog_21_method_4_code pc = .ok (.ireturn, 1) → np_ck (v = 0 ∨ v = 1) (some (v, σ)) = some out → np_At D np_cl A (nc_wd q cA) s σ H locs → W p l e R s m args below meth c H locs 0 0 Q (F0 m pc ls [.int (np_i v)]))   : ∀ (t0 : Int) (σ : np_S) (H : Heap) (locs : List Loc) (ls : Array Slot), f_StringLatin1_canEncode_16  t0 σ = some out → np_At D np_cl A (nc_wd q cA) s σ H locs → lv_has ls 1 [] → W p l e R s m args below meth c H locs 0 0 Q (F0 m 16 ls [.int (np_i t0)]) := by
  intro t0 σ H locs ls hf hat hl
  unfold f_StringLatin1_canEncode_16 at hf
  exact hQ _ _ _ _ _ dd_StringLatin1_canEncode_16 hf hat
set_option maxHeartbeats 4000000 in
set_option maxRecDepth 100000 in
theorem w_f_StringLatin1_canEncode_15 (C : np_Cx gA p R s m args c D np_cl (np_ty cA) A np_al "java/lang/StringLatin1" prog_21_method_4_code 1 { frames := 0, cells := 0, slots := 0, locals := 0 }) (hQ : ∀ (pc : Nat) (ls : Array Slot) (H : Heap) (locs : List Loc) (v : Int) {σ : np_S}, decode prog_21_method_4_code pc = .ok (.ireturn, 1) → np_ck (v = 0 ∨ v = 1) (some (v, σ)) = some out → np_At D np_cl A (nc_wd q cA) s σ H locs → W p l e R s m args below meth c H locs 0 0 Q (F0 m pc ls [.int (np_i v)]))   : ∀ (σ : np_S) (H : Heap) (locs : List Loc) (ls : Array Slot), f_StringLatin1_canEncode_15  σ = some out → np_At D np_cl A (nc_wd q cA) s σ H locs → lv_has ls 1 [] → W p l e R s m args below meth c H locs 0 0 Q (F0 m 15 ls []) := by
  intro σ H locs ls hf hat hl
  unfold f_StringLatin1_canEncode_15 at hf
  refine lv_iconst (v := np_i 0) C.x C.b dd_StringLatin1_canEncode_15 rfl ?_
  exact w_f_StringLatin1_canEncode_16 C hQ  _ _ _ _ _ hf hat (lv_sub hl [] rfl)
set_option maxHeartbeats 4000000 in
set_option maxRecDepth 100000 in
theorem w_f_StringLatin1_canEncode (C : np_Cx gA p R s m args c D np_cl (np_ty cA) A np_al "java/lang/StringLatin1" prog_21_method_4_code 1 { frames := 0, cells := 0, slots := 0, locals := 0 }) (hQ : ∀ (pc : Nat) (ls : Array Slot) (H : Heap) (locs : List Loc) (v : Int) {σ : np_S}, decode prog_21_method_4_code pc = .ok (.ireturn, 1) → np_ck (v = 0 ∨ v = 1) (some (v, σ)) = some out → np_At D np_cl A (nc_wd q cA) s σ H locs → W p l e R s m args below meth c H locs 0 0 Q (F0 m pc ls [.int (np_i v)]))   : ∀ (x0 : Int) (σ : np_S) (H : Heap) (locs : List Loc) (ls : Array Slot), f_StringLatin1_canEncode  x0 σ = some out → np_At D np_cl A (nc_wd q cA) s σ H locs → lv_has ls 1 [(0, .int (np_i x0))] → W p l e R s m args below meth c H locs 0 0 Q (F0 m 0 ls []) := by
  intro x0 σ H locs ls hf hat hl
  unfold f_StringLatin1_canEncode at hf
  refine lv_iload_n C.x C.b dd_StringLatin1_canEncode_0 rfl (lv_at hl 0 rfl) ?_
  refine np_if_lt (tgt := 15) C dd_StringLatin1_canEncode_1 (by decide) hf (fun _ hf => ?_) (fun _ hf => ?_)
  · exact w_f_StringLatin1_canEncode_15 C hQ   _ _ _ _ hf hat (lv_sub hl [] rfl)
  · refine lv_iload_n C.x C.b dd_StringLatin1_canEncode_4 rfl (lv_at hl 0 rfl) ?_
    refine lv_sipush (v := np_i 255) C.x C.b dd_StringLatin1_canEncode_5 (by decide +kernel) ?_
    refine np_icmp_gt (tgt := 15) C dd_StringLatin1_canEncode_8 (by decide) hf (fun _ hf => ?_) (fun _ hf => ?_)
    · exact w_f_StringLatin1_canEncode_15 C hQ   _ _ _ _ hf hat (lv_sub hl [] rfl)
    · refine lv_iconst (v := np_i 1) C.x C.b dd_StringLatin1_canEncode_11 rfl ?_
      refine lv_goto (tgt := 16) C.x C.b dd_StringLatin1_canEncode_12 (by decide) ?_
      exact w_f_StringLatin1_canEncode_16 C hQ  _ _ _ _ _ hf hat (lv_sub hl [] rfl)
set_option maxHeartbeats 4000000 in
set_option maxRecDepth 100000 in
theorem c_StringLatin1_canEncode (l : Launch) {gA : Nat → Nat} {D : va_G} {q : Nat → Nat} {cA : Nat → ClassId} (x0 : Int) (σ : np_S) : np_Mi gA l D np_cl (np_ty cA) (nc_wd q cA) yy_StringLatin1_canEncode (.code yy_StringLatin1_canEncode prog_21_method_4_code 1 (some .boolean) :: np_al) { frames := 0, cells := 0, slots := 0, locals := 0 } [.int (np_i x0)] σ (f_StringLatin1_canEncode x0 σ) :=
  np_mkz (by decide +kernel) (Nat.le_of_ble_eq_true rfl) (fun o p e R s m args below meth c Q A ls hf C hQ hat hl => w_f_StringLatin1_canEncode C hQ x0 σ _ _ _ hf hat (lv_sub hl [0] rfl))
set_option maxHeartbeats 4000000 in
set_option maxRecDepth 100000 in
theorem w_f_StringLatin1_indexOfChar_kb0_7 (C : np_Cx gA p R s m args c D np_cl (np_ty cA) A np_al "java/lang/StringLatin1" prog_21_method_23_code 6 { frames := 0, cells := 0, slots := 0, locals := 0 }) (hQ : ∀ (pc : Nat) (ls : Array Slot) (H : Heap) (locs : List Loc) (v : Int) {σ : np_S}, decode prog_21_method_23_code pc = .ok (.ireturn, 1) → some (v, σ) = some out → np_At D np_cl A (nc_wd q cA) s σ H locs → W p l e R s m args below meth c H locs 0 0 Q (F0 m pc ls [.int (np_i v)]))   : ∀ (n : Nat), ∀ (x3 x4 x5 : Int) (σ : np_S) (H : Heap) (locs : List Loc) (ls : Array Slot), f_StringLatin1_indexOfChar_kb0_7  n x3 x4 x5 σ = some out → np_At D np_cl A (nc_wd q cA) s σ H locs → lv_has ls 6 [(0, .ref (gA (100 + 0))), (3, .int (np_i x3)), (4, .int (np_i x4)), (5, .int (np_i x5))] → W p l e R s m args below meth c H locs 0 0 Q (F0 m 7 ls []) := by
  intro n
  induction n with
  | zero => intro x3 x4 x5 σ H locs ls hf; cases hf
  | succ n ih =>
    intro x3 x4 x5 σ H locs ls hf hat hl
    have h7 := ih
    have hf : f_StringLatin1_indexOfChar_kb0_7_b  (fun x3 x4 x5 σ => f_StringLatin1_indexOfChar_kb0_7  n x3 x4 x5 σ) x3 x4 x5 σ = some out := hf
    unfold f_StringLatin1_indexOfChar_kb0_7_b at hf
    refine lv_iload C.x C.b dd_StringLatin1_indexOfChar_7 (lv_at hl 3 rfl) ?_
    refine lv_iload_n C.x C.b dd_StringLatin1_indexOfChar_9 rfl (lv_at hl 1 rfl) ?_
    refine np_icmp_ge (tgt := 31) C dd_StringLatin1_indexOfChar_10 (by decide) hf (fun _ hf => ?_) (fun _ hf => ?_)
    · refine lv_iconst (v := np_i (-1)) C.x C.b dd_StringLatin1_indexOfChar_31 rfl ?_
      exact hQ _ _ _ _ _ dd_StringLatin1_indexOfChar_32 hf hat
    · refine lv_aload_n C.x C.b dd_StringLatin1_indexOfChar_13 rfl (lv_at hl 0 rfl) ?_
      refine lv_iload C.x C.b dd_StringLatin1_indexOfChar_14 (lv_at hl 3 rfl) ?_
      refine np_kald (i := 0) (n := 19) C hat ((C.en.1.1 0 (by decide)).2.2.2) rfl (by decide) dd_StringLatin1_indexOfChar_16 hf (fun hf => ?_)
      refine lv_iload C.x C.b dd_StringLatin1_indexOfChar_17 (lv_at hl 2 rfl) ?_
      refine np_icmp_ne (tgt := 25) C dd_StringLatin1_indexOfChar_19 (by decide) hf (fun _ hf => ?_) (fun _ hf => ?_)
      · refine lv_iinc (v := np_i (x5 + 1)) (lv' := [(5, .int (np_i (x5 + 1))), (0, .ref (gA (100 + 0))), (3, .int (np_i x3)), (4, .int (np_i x4))]) C.x C.b dd_StringLatin1_indexOfChar_25 hl (k := 3) rfl (np_inc _ _) (by decide) rfl (fun ls hl => ?_)
        refine lv_goto (tgt := 7) C.x C.b dd_StringLatin1_indexOfChar_28 (by decide) ?_
        exact h7 _ _ _ _ _ _ _ hf hat (lv_sub hl [1, 2, 3, 0] rfl)
      · refine lv_iload C.x C.b dd_StringLatin1_indexOfChar_22 (lv_at hl 3 rfl) ?_
        exact hQ _ _ _ _ _ dd_StringLatin1_indexOfChar_24 hf hat
set_option maxHeartbeats 4000000 in
set_option maxRecDepth 100000 in
theorem w_f_StringLatin1_indexOfChar_kb0 (C : np_Cx gA p R s m args c D np_cl (np_ty cA) A np_al "java/lang/StringLatin1" prog_21_method_23_code 6 { frames := 0, cells := 0, slots := 0, locals := 0 }) (hQ : ∀ (pc : Nat) (ls : Array Slot) (H : Heap) (locs : List Loc) (v : Int) {σ : np_S}, decode prog_21_method_23_code pc = .ok (.ireturn, 1) → some (v, σ) = some out → np_At D np_cl A (nc_wd q cA) s σ H locs → W p l e R s m args below meth c H locs 0 0 Q (F0 m pc ls [.int (np_i v)]))   : ∀ (x1 x2 x3 : Int) (σ : np_S) (H : Heap) (locs : List Loc) (ls : Array Slot), f_StringLatin1_indexOfChar_kb0  x1 x2 x3 σ = some out → np_At D np_cl A (nc_wd q cA) s σ H locs → lv_has ls 6 [(0, .ref (gA (100 + 0))), (1, .int (np_i x1)), (2, .int (np_i x2)), (3, .int (np_i x3))] → W p l e R s m args below meth c H locs 0 0 Q (F0 m 0 ls []) := by
  intro x1 x2 x3 σ H locs ls hf hat hl
  unfold f_StringLatin1_indexOfChar_kb0 at hf
  refine lv_iload_n C.x C.b dd_StringLatin1_indexOfChar_0 rfl (lv_at hl 1 rfl) ?_
  refine np_i2b C dd_StringLatin1_indexOfChar_1 ?_
  refine lv_istore (lv' := [(4, .int (np_i (Int.bmod x1 256))), (0, .ref (gA (100 + 0))), (1, .int (np_i x1)), (2, .int (np_i x2)), (3, .int (np_i x3))]) C.x C.b dd_StringLatin1_indexOfChar_2 hl (by decide) rfl (fun ls hl => ?_)
  refine lv_iload_n C.x C.b dd_StringLatin1_indexOfChar_4 rfl (lv_at hl 3 rfl) ?_
  refine lv_istore (lv' := [(5, .int (np_i x2)), (4, .int (np_i (Int.bmod x1 256))), (0, .ref (gA (100 + 0))), (1, .int (np_i x1)), (2, .int (np_i x2)), (3, .int (np_i x3))]) C.x C.b dd_StringLatin1_indexOfChar_5 hl (by decide) rfl (fun ls hl => ?_)
  exact w_f_StringLatin1_indexOfChar_kb0_7 C hQ  6000 _ _ _ _ _ _ _ hf hat (lv_sub hl [2, 5, 1, 0] rfl)
set_option maxHeartbeats 4000000 in
set_option maxRecDepth 100000 in
theorem c_StringLatin1_indexOfChar_kb0 (l : Launch) {gA : Nat → Nat} {D : va_G} {q : Nat → Nat} {cA : Nat → ClassId} (x1 x2 x3 : Int) (σ : np_S) : np_Mi gA l D np_cl (np_ty cA) (nc_wd q cA) yy_StringLatin1_indexOfChar (.code yy_StringLatin1_indexOfChar prog_21_method_23_code 6 (some .int) :: np_al) { frames := 0, cells := 0, slots := 0, locals := 0 } [.ref (gA (100 + 0)), .int (np_i x1), .int (np_i x2), .int (np_i x3)] σ (f_StringLatin1_indexOfChar_kb0 x1 x2 x3 σ) :=
  np_mki (by decide +kernel) (Nat.le_of_ble_eq_true rfl) (fun o p e R s m args below meth c Q A ls hf C hQ hat hl => w_f_StringLatin1_indexOfChar_kb0 C hQ x1 x2 x3 σ _ _ _ hf hat (lv_sub hl [0, 1, 2, 3] rfl))
set_option maxHeartbeats 4000000 in
set_option maxRecDepth 100000 in
theorem w_f_StringLatin1_indexOf_kb0 (C : np_Cx gA p R s m args c D np_cl (np_ty cA) A np_al "java/lang/StringLatin1" prog_21_method_22_code 4 { frames := 1, cells := 0, slots := 0, locals := 25 }) (hQ : ∀ (pc : Nat) (ls : Array Slot) (H : Heap) (locs : List Loc) (v : Int) {σ : np_S}, decode prog_21_method_22_code pc = .ok (.ireturn, 1) → some (v, σ) = some out → np_At D np_cl A (nc_wd q cA) s σ H locs → W p l e R s m args below meth c H locs 0 0 Q (F0 m pc ls [.int (np_i v)]))   : ∀ (x1 x2 x3 : Int) (σ : np_S) (H : Heap) (locs : List Loc) (ls : Array Slot), f_StringLatin1_indexOf_kb0  x1 x2 x3 σ = some out → np_At D np_cl A (nc_wd q cA) s σ H locs → lv_has ls 4 [(0, .ref (gA (100 + 0))), (1, .int (np_i x1)), (2, .int (np_i x2)), (3, .int (np_i x3))] → W p l e R s m args below meth c H locs 0 0 Q (F0 m 0 ls []) := by
  intro x1 x2 x3 σ H locs ls hf hat hl
  unfold f_StringLatin1_indexOf_kb0 at hf
  refine lv_iload_n C.x C.b dd_StringLatin1_indexOf_0 rfl (lv_at hl 1 rfl) ?_
  refine np_callSi (As := [.int (np_i x1)]) (rest := []) C (c_StringLatin1_canEncode l x1 _) np_allgood tw_286 tw_287 tw_16 tw_288 (nA := 1) (by decide +kernel) rfl ⟨rfl, rfl, Nat.le_of_ble_eq_true rfl, Nat.le_of_ble_eq_true rfl⟩ hat rfl hl.1 (Nat.le_of_ble_eq_true rfl) dd_StringLatin1_indexOf_1 hf (fun o1 H locs hf hat => ?_)
  refine np_if_ne (tgt := 9) C dd_StringLatin1_indexOf_4 (by decide) hf (fun _ hf => ?_) (fun _ hf => ?_)
  · refine lv_iload_n C.x C.b dd_StringLatin1_indexOf_9 rfl (lv_at hl 2 rfl) ?_
    refine lv_iconst (v := np_i 0) C.x C.b dd_StringLatin1_indexOf_10 rfl ?_
    refine np_mmax C tw_289 tw_290 tw_17 tw_291 (Nat.le_of_ble_eq_true rfl) (Nat.le_of_ble_eq_true rfl) hl.1 dd_StringLatin1_indexOf_11 hf (fun hf => ?_)
    refine lv_istore_n (lv' := [(2, .int (np_i (np_max x2 0))), (0, .ref (gA (100 + 0))), (1, .int (np_i x1)), (3, .int (np_i x3))]) C.x C.b dd_StringLatin1_indexOf_14 rfl hl (by decide) rfl (fun ls hl => ?_)
    refine lv_iload_n C.x C.b dd_StringLatin1_indexOf_15 rfl (lv_at hl 3 rfl) ?_
    refine lv_aload_n C.x C.b dd_StringLatin1_indexOf_16 rfl (lv_at hl 1 rfl) ?_
    refine np_klen (n := 19) C hat ((C.en.1.1 0 (by decide)).2.2.2) (by decide +kernel) dd_StringLatin1_indexOf_17 ?_
    refine np_mmin C tw_292 tw_293 tw_17 tw_294 (Nat.le_of_ble_eq_true rfl) (Nat.le_of_ble_eq_true rfl) hl.1 dd_StringLatin1_indexOf_18 hf (fun hf => ?_)
    refine lv_istore_n (lv' := [(3, .int (np_i (np_min x3 19))), (2, .int (np_i (np_max x2 0))), (0, .ref (gA (100 + 0))), (1, .int (np_i x1))]) C.x C.b dd_StringLatin1_indexOf_21 rfl hl (by decide) rfl (fun ls hl => ?_)
    refine lv_iload_n C.x C.b dd_StringLatin1_indexOf_22 rfl (lv_at hl 1 rfl) ?_
    refine lv_iload_n C.x C.b dd_StringLatin1_indexOf_23 rfl (lv_at hl 0 rfl) ?_
    refine np_icmp_lt (tgt := 29) C dd_StringLatin1_indexOf_24 (by decide) hf (fun _ hf => ?_) (fun _ hf => ?_)
    · refine lv_aload_n C.x C.b dd_StringLatin1_indexOf_29 rfl (lv_at hl 2 rfl) ?_
      refine lv_iload_n C.x C.b dd_StringLatin1_indexOf_30 rfl (lv_at hl 3 rfl) ?_
      refine lv_iload_n C.x C.b dd_StringLatin1_indexOf_31 rfl (lv_at hl 1 rfl) ?_
      refine lv_iload_n C.x C.b dd_StringLatin1_indexOf_32 rfl (lv_at hl 0 rfl) ?_
      refine np_callSi (As := [.ref (gA (100 + 0)), .int (np_i x1), .int (np_i (np_max x2 0)), .int (np_i (np_min x3 19))]) (rest := []) C (c_StringLatin1_indexOfChar_kb0 l x1 (np_max x2 0) (np_min x3 19) _) np_allgood tw_295 tw_296 tw_16 tw_297 (nA := 4) (by decide +kernel) rfl ⟨rfl, rfl, Nat.le_of_ble_eq_true rfl, Nat.le_of_ble_eq_true rfl⟩ hat rfl hl.1 (Nat.le_of_ble_eq_true rfl) dd_StringLatin1_indexOf_33 hf (fun o2 H locs hf hat => ?_)
      exact hQ _ _ _ _ _ dd_StringLatin1_indexOf_36 hf hat
    · refine lv_iconst (v := np_i (-1)) C.x C.b dd_StringLatin1_indexOf_27 rfl ?_
      exact hQ _ _ _ _ _ dd_StringLatin1_indexOf_28 hf hat
  · refine lv_iconst (v := np_i (-1)) C.x C.b dd_StringLatin1_indexOf_7 rfl ?_
    exact hQ _ _ _ _ _ dd_StringLatin1_indexOf_8 hf hat
set_option maxHeartbeats 4000000 in
set_option maxRecDepth 100000 in
theorem c_StringLatin1_indexOf_kb0 (l : Launch) {gA : Nat → Nat} {D : va_G} {q : Nat → Nat} {cA : Nat → ClassId} (x1 x2 x3 : Int) (σ : np_S) : np_Mi gA l D np_cl (np_ty cA) (nc_wd q cA) yy_StringLatin1_indexOf (.code yy_StringLatin1_indexOf prog_21_method_22_code 4 (some .int) :: np_al) { frames := 1, cells := 0, slots := 0, locals := 25 } [.ref (gA (100 + 0)), .int (np_i x1), .int (np_i x2), .int (np_i x3)] σ (f_StringLatin1_indexOf_kb0 x1 x2 x3 σ) :=
  np_mki (by decide +kernel) (Nat.le_of_ble_eq_true rfl) (fun o p e R s m args below meth c Q A ls hf C hQ hat hl => w_f_StringLatin1_indexOf_kb0 C hQ x1 x2 x3 σ _ _ _ hf hat (lv_sub hl [0, 1, 2, 3] rfl))
set_option maxHeartbeats 4000000 in
set_option maxRecDepth 100000 in
theorem w_f_String_indexOf2_k0_36 (C : np_Cx gA p R s m args c D np_cl (np_ty cA) A np_al "java/lang/String" prog_19_method_80_code 3 { frames := 2, cells := 0, slots := 0, locals := 48 }) (hQ : ∀ (pc : Nat) (ls : Array Slot) (H : Heap) (locs : List Loc) (v : Int) {σ : np_S}, decode prog_19_method_80_code pc = .ok (.ireturn, 1) → some (v, σ) = some out → np_At D np_cl A (nc_wd q cA) s σ H locs → W p l e R s m args below meth c H locs 0 0 Q (F0 m pc ls [.int (np_i v)]))   : ∀ (t0 : Int) (σ : np_S) (H : Heap) (locs : List Loc) (ls : Array Slot), f_String_indexOf2_k0_36  t0 σ = some out → np_At D np_cl A (nc_wd q cA) s σ H locs → lv_has ls 3 [] → W p l e R s m args below meth c H locs 0 0 Q (F0 m 36 ls [.int (np_i t0)]) := by
  intro t0 σ H locs ls hf hat hl
  unfold f_String_indexOf2_k0_36 at hf
  exact hQ _ _ _ _ _ dd_String_indexOf2_36 hf hat
set_option maxHeartbeats 4000000 in
set_option maxRecDepth 100000 in
theorem w_f_String_indexOf2_k0 (C : np_Cx gA p R s m args c D np_cl (np_ty cA) A np_al "java/lang/String" prog_19_method_80_code 3 { frames := 2, cells := 0, slots := 0, locals := 48 }) (hQ : ∀ (pc : Nat) (ls : Array Slot) (H : Heap) (locs : List Loc) (v : Int) {σ : np_S}, decode prog_19_method_80_code pc = .ok (.ireturn, 1) → some (v, σ) = some out → np_At D np_cl A (nc_wd q cA) s σ H locs → W p l e R s m args below meth c H locs 0 0 Q (F0 m pc ls [.int (np_i v)]))   : ∀ (x1 x2 : Int) (σ : np_S) (H : Heap) (locs : List Loc) (ls : Array Slot), f_String_indexOf2_k0  x1 x2 σ = some out → np_At D np_cl A (nc_wd q cA) s σ H locs → lv_has ls 3 [(0, .ref (gA 0)), (1, .int (np_i x1)), (2, .int (np_i x2))] → W p l e R s m args below meth c H locs 0 0 Q (F0 m 0 ls []) := by
  intro x1 x2 σ H locs ls hf hat hl
  unfold f_String_indexOf2_k0 at hf
  refine lv_aload_n C.x C.b dd_String_indexOf2_0 rfl (lv_at hl 0 rfl) ?_
  refine np_callVi (As := []) (rest := []) C (c_String_isLatin1_k0 l _) np_allgood tw_269 tw_270 tw_271 tw_15 tw_272 (nA := 0) (by decide +kernel) rfl ⟨rfl, rfl, Nat.le_of_ble_eq_true rfl, Nat.le_of_ble_eq_true rfl⟩ (vk_recv C.en.1 (i := 0) (by decide) hat.2.2) hat rfl hl.1 (Nat.le_of_ble_eq_true rfl) dd_String_indexOf2_1 hf (fun o1 H locs hf hat => ?_)
  refine np_if_eq (tgt := 23) C dd_String_indexOf2_4 (by decide) hf (fun _ hf => ?_) (fun _ hf => ?_)
  · refine lv_aload_n C.x C.b dd_String_indexOf2_23 rfl (lv_at hl 0 rfl) ?_
    refine np_getk (v := .ref (gA (100 + 0))) C hat ((C.en.1.1 0 (by decide)).2.2.1) tw_692 dd_String_indexOf2_24 ?_
    refine lv_iload_n C.x C.b dd_String_indexOf2_27 rfl (lv_at hl 1 rfl) ?_
    refine lv_iload_n C.x C.b dd_String_indexOf2_28 rfl (lv_at hl 2 rfl) ?_
    refine lv_aload_n C.x C.b dd_String_indexOf2_29 rfl (lv_at hl 0 rfl) ?_
    refine np_callVi (As := []) (rest := [.int (np_i x2), .int (np_i x1), .ref (gA (100 + 0))]) C (c_String_length_k0 l _) np_allgood tw_275 tw_276 tw_277 tw_15 tw_278 (nA := 0) (by decide +kernel) rfl ⟨rfl, rfl, Nat.le_of_ble_eq_true rfl, Nat.le_of_ble_eq_true rfl⟩ (vk_recv C.en.1 (i := 0) (by decide) hat.2.2) hat rfl hl.1 (Nat.le_of_ble_eq_true rfl) dd_String_indexOf2_30 hf (fun o2 H locs hf hat => ?_)
    cases hf
  · refine lv_aload_n C.x C.b dd_String_indexOf2_7 rfl (lv_at hl 0 rfl) ?_
    refine np_getk (v := .ref (gA (100 + 0))) C hat ((C.en.1.1 0 (by decide)).2.2.1) tw_692 dd_String_indexOf2_8 ?_
    refine lv_iload_n C.x C.b dd_String_indexOf2_11 rfl (lv_at hl 1 rfl) ?_
    refine lv_iload_n C.x C.b dd_String_indexOf2_12 rfl (lv_at hl 2 rfl) ?_
    refine lv_aload_n C.x C.b dd_String_indexOf2_13 rfl (lv_at hl 0 rfl) ?_
    refine np_callVi (As := []) (rest := [.int (np_i x2), .int (np_i x1), .ref (gA (100 + 0))]) C (c_String_length_k0 l _) np_allgood tw_275 tw_276 tw_277 tw_15 tw_278 (nA := 0) (by decide +kernel) rfl ⟨rfl, rfl, Nat.le_of_ble_eq_true rfl, Nat.le_of_ble_eq_true rfl⟩ (vk_recv C.en.1 (i := 0) (by decide) hat.2.2) hat rfl hl.1 (Nat.le_of_ble_eq_true rfl) dd_String_indexOf2_14 hf (fun o3 H locs hf hat => ?_)
    refine np_callSi (As := [.ref (gA (100 + 0)), .int (np_i x1), .int (np_i x2), .int (np_i o3.1)]) (rest := []) C (c_StringLatin1_indexOf_kb0 l x1 x2 o3.1 _) np_allgood tw_283 tw_284 tw_16 tw_285 (nA := 4) (by decide +kernel) rfl ⟨rfl, rfl, Nat.le_of_ble_eq_true rfl, Nat.le_of_ble_eq_true rfl⟩ hat rfl hl.1 (Nat.le_of_ble_eq_true rfl) dd_String_indexOf2_17 hf (fun o4 H locs hf hat => ?_)
    refine lv_goto (tgt := 36) C.x C.b dd_String_indexOf2_20 (by decide) ?_
    exact w_f_String_indexOf2_k0_36 C hQ  _ _ _ _ _ hf hat (lv_sub hl [] rfl)
set_option maxHeartbeats 4000000 in
set_option maxRecDepth 100000 in
theorem c_String_indexOf2_k0 (l : Launch) {gA : Nat → Nat} {D : va_G} {q : Nat → Nat} {cA : Nat → ClassId} (x1 x2 : Int) (σ : np_S) : np_Mi gA l D np_cl (np_ty cA) (nc_wd q cA) yy_String_indexOf2 (.code yy_String_indexOf2 prog_19_method_80_code 3 (some .int) :: np_al) { frames := 2, cells := 0, slots := 0, locals := 48 } [.ref (gA 0), .int (np_i x1), .int (np_i x2)] σ (f_String_indexOf2_k0 x1 x2 σ) :=
  np_mki (by decide +kernel) (Nat.le_of_ble_eq_true rfl) (fun o p e R s m args below meth c Q A ls hf C hQ hat hl => w_f_String_indexOf2_k0 C hQ x1 x2 σ _ _ _ hf hat (lv_sub hl [0, 1, 2] rfl))
set_option maxHeartbeats 4000000 in
set_option maxRecDepth 100000 in
theorem w_f_String_indexOf_k0 (C : np_Cx gA p R s m args c D np_cl (np_ty cA) A np_al "java/lang/String" prog_19_method_79_code 2 { frames := 3, cells := 0, slots := 0, locals := 70 }) (hQ : ∀ (pc : Nat) (ls : Array Slot) (H : Heap) (locs : List Loc) (v : Int) {σ : np_S}, decode prog_19_method_79_code pc = .ok (.ireturn, 1) → some (v, σ) = some out → np_At D np_cl A (nc_wd q cA) s σ H locs → W p l e R s m args below meth c H locs 0 0 Q (F0 m pc ls [.int (np_i v)]))   : ∀ (x1 : Int) (σ : np_S) (H : Heap) (locs : List Loc) (ls : Array Slot), f_String_indexOf_k0  x1 σ = some out → np_At D np_cl A (nc_wd q cA) s σ H locs → lv_has ls 2 [(0, .ref (gA 0)), (1, .int (np_i x1))] → W p l e R s m args below meth c H locs 0 0 Q (F0 m 0 ls []) := by
  intro x1 σ H locs ls hf hat hl
  unfold f_String_indexOf_k0 at hf
  refine lv_aload_n C.x C.b dd_String_indexOf_0 rfl (lv_at hl 0 rfl) ?_
  refine lv_iload_n C.x C.b dd_String_indexOf_1 rfl (lv_at hl 1 rfl) ?_
  refine lv_iconst (v := np_i 0) C.x C.b dd_String_indexOf_2 rfl ?_
  refine np_callVi (As := [.int (np_i x1), .int (np_i 0)]) (rest := []) C (c_String_indexOf2_k0 l x1 0 _) np_allgood tw_265 tw_266 tw_267 tw_15 tw_268 (nA := 2) (by decide +kernel) rfl ⟨rfl, rfl, Nat.le_of_ble_eq_true rfl, Nat.le_of_ble_eq_true rfl⟩ (vk_recv C.en.1 (i := 0) (by decide) hat.2.2) hat rfl hl.1 (Nat.le_of_ble_eq_true rfl) dd_String_indexOf_3 hf (fun o1 H locs hf hat => ?_)
  exact hQ _ _ _ _ _ dd_String_indexOf_6 hf hat
set_option maxHeartbeats 4000000 in
set_option maxRecDepth 100000 in
theorem c_String_indexOf_k0 (l : Launch) {gA : Nat → Nat} {D : va_G} {q : Nat → Nat} {cA : Nat → ClassId} (x1 : Int) (σ : np_S) : np_Mi gA l D np_cl (np_ty cA) (nc_wd q cA) yy_String_indexOf (.code yy_String_indexOf prog_19_method_79_code 2 (some .int) :: np_al) { frames := 3, cells := 0, slots := 0, locals := 70 } [.ref (gA 0), .int (np_i x1)] σ (f_String_indexOf_k0 x1 σ) :=
  np_mki (by decide +kernel) (Nat.le_of_ble_eq_true rfl) (fun o p e R s m args below meth c Q A ls hf C hQ hat hl => w_f_String_indexOf_k0 C hQ x1 σ _ _ _ hf hat (lv_sub hl [0, 1] rfl))
set_option maxHeartbeats 4000000 in
set_option maxRecDepth 100000 in
theorem w_f_String_isLatin1_k1_18 (C : np_Cx gA p R s m args c D np_cl (np_ty cA) A np_al "java/lang/String" prog_19_method_154_code 1 { frames := 0, cells := 0, slots := 0, locals := 0 }) (hQ : ∀ (pc : Nat) (ls : Array Slot) (H : Heap) (locs : List Loc) (v : Int) {σ : np_S}, decode prog_19_method_154_code pc = .ok (.ireturn, 1) → np_ck (v = 0 ∨ v = 1) (some (v, σ)) = some out → np_At D np_cl A (nc_wd q cA) s σ H locs → W p l e R s m args below meth c H locs 0 0 Q (F0 m pc ls [.int (np_i v)]))   : ∀ (t0 : Int) (σ : np_S) (H : Heap) (locs : List Loc) (ls : Array Slot), f_String_isLatin1_k1_18  t0 σ = some out → np_At D np_cl A (nc_wd q cA) s σ H locs → lv_has ls 1 [] → W p l e R s m args below meth c H locs 0 0 Q (F0 m 18 ls [.int (np_i t0)]) := by
  intro t0 σ H locs ls hf hat hl
  unfold f_String_isLatin1_k1_18 at hf
  exact hQ _ _ _ _ _ dd_String_isLatin1_18 hf hat
set_option maxHeartbeats 4000000 in
set_option maxRecDepth 100000 in
theorem w_f_String_isLatin1_k1_17 (C : np_Cx gA p R s m args c D np_cl (np_ty cA) A np_al "java/lang/String" prog_19_method_154_code 1 { frames := 0, cells := 0, slots := 0, locals := 0 }) (hQ : ∀ (pc : Nat) (ls : Array Slot) (H : Heap) (locs : List Loc) (v : Int) {σ : np_S}, decode prog_19_method_154_code pc = .ok (.ireturn, 1) → np_ck (v = 0 ∨ v = 1) (some (v, σ)) = some out → np_At D np_cl A (nc_wd q cA) s σ H locs → W p l e R s m args below meth c H locs 0 0 Q (F0 m pc ls [.int (np_i v)]))   : ∀ (σ : np_S) (H : Heap) (locs : List Loc) (ls : Array Slot), f_String_isLatin1_k1_17  σ = some out → np_At D np_cl A (nc_wd q cA) s σ H locs → lv_has ls 1 [] → W p l e R s m args below meth c H locs 0 0 Q (F0 m 17 ls []) := by
  intro σ H locs ls hf hat hl
  unfold f_String_isLatin1_k1_17 at hf
  refine lv_iconst (v := np_i 0) C.x C.b dd_String_isLatin1_17 rfl ?_
  exact w_f_String_isLatin1_k1_18 C hQ  _ _ _ _ _ hf hat (lv_sub hl [] rfl)
set_option maxHeartbeats 4000000 in
set_option maxRecDepth 100000 in
theorem w_f_String_isLatin1_k1 (C : np_Cx gA p R s m args c D np_cl (np_ty cA) A np_al "java/lang/String" prog_19_method_154_code 1 { frames := 0, cells := 0, slots := 0, locals := 0 }) (hQ : ∀ (pc : Nat) (ls : Array Slot) (H : Heap) (locs : List Loc) (v : Int) {σ : np_S}, decode prog_19_method_154_code pc = .ok (.ireturn, 1) → np_ck (v = 0 ∨ v = 1) (some (v, σ)) = some out → np_At D np_cl A (nc_wd q cA) s σ H locs → W p l e R s m args below meth c H locs 0 0 Q (F0 m pc ls [.int (np_i v)]))   : ∀ (σ : np_S) (H : Heap) (locs : List Loc) (ls : Array Slot), f_String_isLatin1_k1  σ = some out → np_At D np_cl A (nc_wd q cA) s σ H locs → lv_has ls 1 [(0, .ref (gA 1))] → W p l e R s m args below meth c H locs 0 0 Q (F0 m 0 ls []) := by
  intro σ H locs ls hf hat hl
  unfold f_String_isLatin1_k1 at hf
  refine np_gets (v := .int (np_i 1)) C hat C.en.2.2.2 tw_273 dd_String_isLatin1_0 ?_
  refine np_if_eq (tgt := 17) C dd_String_isLatin1_3 (by decide) hf (fun _ hf => ?_) (fun _ hf => ?_)
  · exact w_f_String_isLatin1_k1_17 C hQ   _ _ _ _ hf hat (lv_sub hl [] rfl)
  · refine lv_aload_n C.x C.b dd_String_isLatin1_6 rfl (lv_at hl 0 rfl) ?_
    refine np_getk (v := .int (np_i 0)) C hat ((C.en.1.1 1 (by decide)).2.1) tw_693 dd_String_isLatin1_7 ?_
    refine np_if_ne (tgt := 17) C dd_String_isLatin1_10 (by decide) hf (fun _ hf => ?_) (fun _ hf => ?_)
    · exact w_f_String_isLatin1_k1_17 C hQ   _ _ _ _ hf hat (lv_sub hl [] rfl)
    · refine lv_iconst (v := np_i 1) C.x C.b dd_String_isLatin1_13 rfl ?_
      refine lv_goto (tgt := 18) C.x C.b dd_String_isLatin1_14 (by decide) ?_
      exact w_f_String_isLatin1_k1_18 C hQ  _ _ _ _ _ hf hat (lv_sub hl [] rfl)
set_option maxHeartbeats 4000000 in
set_option maxRecDepth 100000 in
theorem c_String_isLatin1_k1 (l : Launch) {gA : Nat → Nat} {D : va_G} {q : Nat → Nat} {cA : Nat → ClassId} (σ : np_S) : np_Mi gA l D np_cl (np_ty cA) (nc_wd q cA) yy_String_isLatin1 (.code yy_String_isLatin1 prog_19_method_154_code 1 (some .boolean) :: np_al) { frames := 0, cells := 0, slots := 0, locals := 0 } [.ref (gA 1)] σ (f_String_isLatin1_k1  σ) :=
  np_mkz (by decide +kernel) (Nat.le_of_ble_eq_true rfl) (fun o p e R s m args below meth c Q A ls hf C hQ hat hl => w_f_String_isLatin1_k1 C hQ  σ _ _ _ hf hat (lv_sub hl [0] rfl))
set_option maxHeartbeats 4000000 in
set_option maxRecDepth 100000 in
theorem w_f_String_coder_k1_14 (C : np_Cx gA p R s m args c D np_cl (np_ty cA) A np_al "java/lang/String" prog_19_method_152_code 1 { frames := 0, cells := 0, slots := 0, locals := 0 }) (hQ : ∀ (pc : Nat) (ls : Array Slot) (H : Heap) (locs : List Loc) (v : Int) {σ : np_S}, decode prog_19_method_152_code pc = .ok (.ireturn, 1) → np_ck (v = 0 ∨ v = 1) (some (v, σ)) = some out → np_At D np_cl A (nc_wd q cA) s σ H locs → W p l e R s m args below meth c H locs 0 0 Q (F0 m pc ls [.int (np_i v)]))   : ∀ (t0 : Int) (σ : np_S) (H : Heap) (locs : List Loc) (ls : Array Slot), f_String_coder_k1_14  t0 σ = some out → np_At D np_cl A (nc_wd q cA) s σ H locs → lv_has ls 1 [] → W p l e R s m args below meth c H locs 0 0 Q (F0 m 14 ls [.int (np_i t0)]) := by
  intro t0 σ H locs ls hf hat hl
  unfold f_String_coder_k1_14 at hf
  exact hQ _ _ _ _ _ dd_String_coder_14 hf hat
set_option maxHeartbeats 4000000 in
set_option maxRecDepth 100000 in
theorem w_f_String_coder_k1 (C : np_Cx gA p R s m args c D np_cl (np_ty cA) A np_al "java/lang/String" prog_19_method_152_code 1 { frames := 0, cells := 0, slots := 0, locals := 0 }) (hQ : ∀ (pc : Nat) (ls : Array Slot) (H : Heap) (locs : List Loc) (v : Int) {σ : np_S}, decode prog_19_method_152_code pc = .ok (.ireturn, 1) → np_ck (v = 0 ∨ v = 1) (some (v, σ)) = some out → np_At D np_cl A (nc_wd q cA) s σ H locs → W p l e R s m args below meth c H locs 0 0 Q (F0 m pc ls [.int (np_i v)]))   : ∀ (σ : np_S) (H : Heap) (locs : List Loc) (ls : Array Slot), f_String_coder_k1  σ = some out → np_At D np_cl A (nc_wd q cA) s σ H locs → lv_has ls 1 [(0, .ref (gA 1))] → W p l e R s m args below meth c H locs 0 0 Q (F0 m 0 ls []) := by
  intro σ H locs ls hf hat hl
  unfold f_String_coder_k1 at hf
  refine np_gets (v := .int (np_i 1)) C hat C.en.2.2.2 tw_273 dd_String_coder_0 ?_
  refine np_if_eq (tgt := 13) C dd_String_coder_3 (by decide) hf (fun _ hf => ?_) (fun _ hf => ?_)
  · refine lv_iconst (v := np_i 1) C.x C.b dd_String_coder_13 rfl ?_
    exact w_f_String_coder_k1_14 C hQ  _ _ _ _ _ hf hat (lv_sub hl [] rfl)
  · refine lv_aload_n C.x C.b dd_String_coder_6 rfl (lv_at hl 0 rfl) ?_
    refine np_getk (v := .int (np_i 0)) C hat ((C.en.1.1 1 (by decide)).2.1) tw_693 dd_String_coder_7 ?_
    refine lv_goto (tgt := 14) C.x C.b dd_String_coder_10 (by decide) ?_
    exact w_f_String_coder_k1_14 C hQ  _ _ _ _ _ hf hat (lv_sub hl [] rfl)
set_option maxHeartbeats 4000000 in
set_option maxRecDepth 100000 in
theorem c_String_coder_k1 (l : Launch) {gA : Nat → Nat} {D : va_G} {q : Nat → Nat} {cA : Nat → ClassId} (σ : np_S) : np_Mi gA l D np_cl (np_ty cA) (nc_wd q cA) yy_String_coder (.code yy_String_coder prog_19_method_152_code 1 (some .byte) :: np_al) { frames := 0, cells := 0, slots := 0, locals := 0 } [.ref (gA 1)] σ (f_String_coder_k1  σ) :=
  np_mkb (by decide +kernel) (Nat.le_of_ble_eq_true rfl) (fun o p e R s m args below meth c Q A ls hf C hQ hat hl => w_f_String_coder_k1 C hQ  σ _ _ _ hf hat (lv_sub hl [0] rfl))
set_option maxHeartbeats 4000000 in
set_option maxRecDepth 100000 in
theorem w_f_String_length_k1 (C : np_Cx gA p R s m args c D np_cl (np_ty cA) A np_al "java/lang/String" prog_19_method_54_code 1 { frames := 1, cells := 0, slots := 0, locals := 20 }) (hQ : ∀ (pc : Nat) (ls : Array Slot) (H : Heap) (locs : List Loc) (v : Int) {σ : np_S}, decode prog_19_method_54_code pc = .ok (.ireturn, 1) → some (v, σ) = some out → np_At D np_cl A (nc_wd q cA) s σ H locs → W p l e R s m args below meth c H locs 0 0 Q (F0 m pc ls [.int (np_i v)]))   : ∀ (σ : np_S) (H : Heap) (locs : List Loc) (ls : Array Slot), f_String_length_k1  σ = some out → np_At D np_cl A (nc_wd q cA) s σ H locs → lv_has ls 1 [(0, .ref (gA 1))] → W p l e R s m args below meth c H locs 0 0 Q (F0 m 0 ls []) := by
  intro σ H locs ls hf hat hl
  unfold f_String_length_k1 at hf
  refine lv_aload_n C.x C.b dd_String_length_0 rfl (lv_at hl 0 rfl) ?_
  refine np_getk (v := .ref (gA (100 + 1))) C hat ((C.en.1.1 1 (by decide)).2.2.1) tw_692 dd_String_length_1 ?_
  refine np_klen (n := 8) C hat ((C.en.1.1 1 (by decide)).2.2.2) (by decide +kernel) dd_String_length_4 ?_
  refine lv_aload_n C.x C.b dd_String_length_5 rfl (lv_at hl 0 rfl) ?_
  refine np_callVi (As := []) (rest := [.int (np_i 8)]) C (c_String_coder_k1 l _) np_allgood tw_279 tw_280 tw_281 tw_15 tw_282 (nA := 0) (by decide +kernel) rfl ⟨rfl, rfl, Nat.le_of_ble_eq_true rfl, Nat.le_of_ble_eq_true rfl⟩ (vk_recv C.en.1 (i := 1) (by decide) hat.2.2) hat rfl hl.1 (Nat.le_of_ble_eq_true rfl) dd_String_length_6 hf (fun o1 H locs hf hat => ?_)
  refine np_ishr C dd_String_length_9 ?_
  exact hQ _ _ _ _ _ dd_String_length_10 hf hat
set_option maxHeartbeats 4000000 in
set_option maxRecDepth 100000 in
theorem c_String_length_k1 (l : Launch) {gA : Nat → Nat} {D : va_G} {q : Nat → Nat} {cA : Nat → ClassId} (σ : np_S) : np_Mi gA l D np_cl (np_ty cA) (nc_wd q cA) yy_String_length (.code yy_String_length prog_19_method_54_code 1 (some .int) :: np_al) { frames := 1, cells := 0, slots := 0, locals := 20 } [.ref (gA 1)] σ (f_String_length_k1  σ) :=
  np_mki (by decide +kernel) (Nat.le_of_ble_eq_true rfl) (fun o p e R s m args below meth c Q A ls hf C hQ hat hl => w_f_String_length_k1 C hQ  σ _ _ _ hf hat (lv_sub hl [0] rfl))
set_option maxHeartbeats 4000000 in
set_option maxRecDepth 100000 in
theorem w_f_StringLatin1_indexOfChar_kb1_7 (C : np_Cx gA p R s m args c D np_cl (np_ty cA) A np_al "java/lang/StringLatin1" prog_21_method_23_code 6 { frames := 0, cells := 0, slots := 0, locals := 0 }) (hQ : ∀ (pc : Nat) (ls : Array Slot) (H : Heap) (locs : List Loc) (v : Int) {σ : np_S}, decode prog_21_method_23_code pc = .ok (.ireturn, 1) → some (v, σ) = some out → np_At D np_cl A (nc_wd q cA) s σ H locs → W p l e R s m args below meth c H locs 0 0 Q (F0 m pc ls [.int (np_i v)]))   : ∀ (n : Nat), ∀ (x3 x4 x5 : Int) (σ : np_S) (H : Heap) (locs : List Loc) (ls : Array Slot), f_StringLatin1_indexOfChar_kb1_7  n x3 x4 x5 σ = some out → np_At D np_cl A (nc_wd q cA) s σ H locs → lv_has ls 6 [(0, .ref (gA (100 + 1))), (3, .int (np_i x3)), (4, .int (np_i x4)), (5, .int (np_i x5))] → W p l e R s m args below meth c H locs 0 0 Q (F0 m 7 ls []) := by
  intro n
  induction n with
  | zero => intro x3 x4 x5 σ H locs ls hf; cases hf
  | succ n ih =>
    intro x3 x4 x5 σ H locs ls hf hat hl
    have h7 := ih
    have hf : f_StringLatin1_indexOfChar_kb1_7_b  (fun x3 x4 x5 σ => f_StringLatin1_indexOfChar_kb1_7  n x3 x4 x5 σ) x3 x4 x5 σ = some out := hf
    unfold f_StringLatin1_indexOfChar_kb1_7_b at hf
    refine lv_iload C.x C.b dd_StringLatin1_indexOfChar_7 (lv_at hl 3 rfl) ?_
    refine lv_iload_n C.x C.b dd_StringLatin1_indexOfChar_9 rfl (lv_at hl 1 rfl) ?_
    refine np_icmp_ge (tgt := 31) C dd_StringLatin1_indexOfChar_10 (by decide) hf (fun _ hf => ?_) (fun _ hf => ?_)
    · refine lv_iconst (v := np_i (-1)) C.x C.b dd_StringLatin1_indexOfChar_31 rfl ?_
      exact hQ _ _ _ _ _ dd_StringLatin1_indexOfChar_32 hf hat
    · refine lv_aload_n C.x C.b dd_StringLatin1_indexOfChar_13 rfl (lv_at hl 0 rfl) ?_
      refine lv_iload C.x C.b dd_StringLatin1_indexOfChar_14 (lv_at hl 3 rfl) ?_
      refine np_kald (i := 1) (n := 8) C hat ((C.en.1.1 1 (by decide)).2.2.2) rfl (by decide) dd_StringLatin1_indexOfChar_16 hf (fun hf => ?_)
      refine lv_iload C.x C.b dd_StringLatin1_indexOfChar_17 (lv_at hl 2 rfl) ?_
      refine np_icmp_ne (tgt := 25) C dd_StringLatin1_indexOfChar_19 (by decide) hf (fun _ hf => ?_) (fun _ hf => ?_)
      · refine lv_iinc (v := np_i (x5 + 1)) (lv' := [(5, .int (np_i (x5 + 1))), (0, .ref (gA (100 + 1))), (3, .int (np_i x3)), (4, .int (np_i x4))]) C.x C.b dd_StringLatin1_indexOfChar_25 hl (k := 3) rfl (np_inc _ _) (by decide) rfl (fun ls hl => ?_)
        refine lv_goto (tgt := 7) C.x C.b dd_StringLatin1_indexOfChar_28 (by decide) ?_
        exact h7 _ _ _ _ _ _ _ hf hat (lv_sub hl [1, 2, 3, 0] rfl)
      · refine lv_iload C.x C.b dd_StringLatin1_indexOfChar_22 (lv_at hl 3 rfl) ?_
        exact hQ _ _ _ _ _ dd_StringLatin1_indexOfChar_24 hf hat
set_option maxHeartbeats 4000000 in
set_option maxRecDepth 100000 in
theorem w_f_StringLatin1_indexOfChar_kb1 (C : np_Cx gA p R s m args c D np_cl (np_ty cA) A np_al "java/lang/StringLatin1" prog_21_method_23_code 6 { frames := 0, cells := 0, slots := 0, locals := 0 }) (hQ : ∀ (pc : Nat) (ls : Array Slot) (H : Heap) (locs : List Loc) (v : Int) {σ : np_S}, decode prog_21_method_23_code pc = .ok (.ireturn, 1) → some (v, σ) = some out → np_At D np_cl A (nc_wd q cA) s σ H locs → W p l e R s m args below meth c H locs 0 0 Q (F0 m pc ls [.int (np_i v)]))   : ∀ (x1 x2 x3 : Int) (σ : np_S) (H : Heap) (locs : List Loc) (ls : Array Slot), f_StringLatin1_indexOfChar_kb1  x1 x2 x3 σ = some out → np_At D np_cl A (nc_wd q cA) s σ H locs → lv_has ls 6 [(0, .ref (gA (100 + 1))), (1, .int (np_i x1)), (2, .int (np_i x2)), (3, .int (np_i x3))] → W p l e R s m args below meth c H locs 0 0 Q (F0 m 0 ls []) := by
  intro x1 x2 x3 σ H locs ls hf hat hl
  unfold f_StringLatin1_indexOfChar_kb1 at hf
  refine lv_iload_n C.x C.b dd_StringLatin1_indexOfChar_0 rfl (lv_at hl 1 rfl) ?_
  refine np_i2b C dd_StringLatin1_indexOfChar_1 ?_
  refine lv_istore (lv' := [(4, .int (np_i (Int.bmod x1 256))), (0, .ref (gA (100 + 1))), (1, .int (np_i x1)), (2, .int (np_i x2)), (3, .int (np_i x3))]) C.x C.b dd_StringLatin1_indexOfChar_2 hl (by decide) rfl (fun ls hl => ?_)
  refine lv_iload_n C.x C.b dd_StringLatin1_indexOfChar_4 rfl (lv_at hl 3 rfl) ?_
  refine lv_istore (lv' := [(5, .int (np_i x2)), (4, .int (np_i (Int.bmod x1 256))), (0, .ref (gA (100 + 1))), (1, .int (np_i x1)), (2, .int (np_i x2)), (3, .int (np_i x3))]) C.x C.b dd_StringLatin1_indexOfChar_5 hl (by decide) rfl (fun ls hl => ?_)
  exact w_f_StringLatin1_indexOfChar_kb1_7 C hQ  6000 _ _ _ _ _ _ _ hf hat (lv_sub hl [2, 5, 1, 0] rfl)
set_option maxHeartbeats 4000000 in
set_option maxRecDepth 100000 in
theorem c_StringLatin1_indexOfChar_kb1 (l : Launch) {gA : Nat → Nat} {D : va_G} {q : Nat → Nat} {cA : Nat → ClassId} (x1 x2 x3 : Int) (σ : np_S) : np_Mi gA l D np_cl (np_ty cA) (nc_wd q cA) yy_StringLatin1_indexOfChar (.code yy_StringLatin1_indexOfChar prog_21_method_23_code 6 (some .int) :: np_al) { frames := 0, cells := 0, slots := 0, locals := 0 } [.ref (gA (100 + 1)), .int (np_i x1), .int (np_i x2), .int (np_i x3)] σ (f_StringLatin1_indexOfChar_kb1 x1 x2 x3 σ) :=
  np_mki (by decide +kernel) (Nat.le_of_ble_eq_true rfl) (fun o p e R s m args below meth c Q A ls hf C hQ hat hl => w_f_StringLatin1_indexOfChar_kb1 C hQ x1 x2 x3 σ _ _ _ hf hat (lv_sub hl [0, 1, 2, 3] rfl))
set_option maxHeartbeats 4000000 in
set_option maxRecDepth 100000 in
theorem w_f_StringLatin1_indexOf_kb1 (C : np_Cx gA p R s m args c D np_cl (np_ty cA) A np_al "java/lang/StringLatin1" prog_21_method_22_code 4 { frames := 1, cells := 0, slots := 0, locals := 25 }) (hQ : ∀ (pc : Nat) (ls : Array Slot) (H : Heap) (locs : List Loc) (v : Int) {σ : np_S}, decode prog_21_method_22_code pc = .ok (.ireturn, 1) → some (v, σ) = some out → np_At D np_cl A (nc_wd q cA) s σ H locs → W p l e R s m args below meth c H locs 0 0 Q (F0 m pc ls [.int (np_i v)]))   : ∀ (x1 x2 x3 : Int) (σ : np_S) (H : Heap) (locs : List Loc) (ls : Array Slot), f_StringLatin1_indexOf_kb1  x1 x2 x3 σ = some out → np_At D np_cl A (nc_wd q cA) s σ H locs → lv_has ls 4 [(0, .ref (gA (100 + 1))), (1, .int (np_i x1)), (2, .int (np_i x2)), (3, .int (np_i x3))] → W p l e R s m args below meth c H locs 0 0 Q (F0 m 0 ls []) := by
  intro x1 x2 x3 σ H locs ls hf hat hl
  unfold f_StringLatin1_indexOf_kb1 at hf
  refine lv_iload_n C.x C.b dd_StringLatin1_indexOf_0 rfl (lv_at hl 1 rfl) ?_
  refine np_callSi (As := [.int (np_i x1)]) (rest := []) C (c_StringLatin1_canEncode l x1 _) np_allgood tw_286 tw_287 tw_16 tw_288 (nA := 1) (by decide +kernel) rfl ⟨rfl, rfl, Nat.le_of_ble_eq_true rfl, Nat.le_of_ble_eq_true rfl⟩ hat rfl hl.1 (Nat.le_of_ble_eq_true rfl) dd_StringLatin1_indexOf_1 hf (fun o1 H locs hf hat => ?_)
  refine np_if_ne (tgt := 9) C dd_StringLatin1_indexOf_4 (by decide) hf (fun _ hf => ?_) (fun _ hf => ?_)
  · refine lv_iload_n C.x C.b dd_StringLatin1_indexOf_9 rfl (lv_at hl 2 rfl) ?_
    refine lv_iconst (v := np_i 0) C.x C.b dd_StringLatin1_indexOf_10 rfl ?_
    refine np_mmax C tw_289 tw_290 tw_17 tw_291 (Nat.le_of_ble_eq_true rfl) (Nat.le_of_ble_eq_true rfl) hl.1 dd_StringLatin1_indexOf_11 hf (fun hf => ?_)
    refine lv_istore_n (lv' := [(2, .int (np_i (np_max x2 0))), (0, .ref (gA (100 + 1))), (1, .int (np_i x1)), (3, .int (np_i x3))]) C.x C.b dd_StringLatin1_indexOf_14 rfl hl (by decide) rfl (fun ls hl => ?_)
    refine lv_iload_n C.x C.b dd_StringLatin1_indexOf_15 rfl (lv_at hl 3 rfl) ?_
    refine lv_aload_n C.x C.b dd_StringLatin1_indexOf_16 rfl (lv_at hl 1 rfl) ?_
    refine np_klen (n := 8) C hat ((C.en.1.1 1 (by decide)).2.2.2) (by decide +kernel) dd_StringLatin1_indexOf_17 ?_
    refine np_mmin C tw_292 tw_293 tw_17 tw_294 (Nat.le_of_ble_eq_true rfl) (Nat.le_of_ble_eq_true rfl) hl.1 dd_StringLatin1_indexOf_18 hf (fun hf => ?_)
    refine lv_istore_n (lv' := [(3, .int (np_i (np_min x3 8))), (2, .int (np_i (np_max x2 0))), (0, .ref (gA (100 + 1))), (1, .int (np_i x1))]) C.x C.b dd_StringLatin1_indexOf_21 rfl hl (by decide) rfl (fun ls hl => ?_)
    refine lv_iload_n C.x C.b dd_StringLatin1_indexOf_22 rfl (lv_at hl 1 rfl) ?_
    refine lv_iload_n C.x C.b dd_StringLatin1_indexOf_23 rfl (lv_at hl 0 rfl) ?_
    refine np_icmp_lt (tgt := 29) C dd_StringLatin1_indexOf_24 (by decide) hf (fun _ hf => ?_) (fun _ hf => ?_)
    · refine lv_aload_n C.x C.b dd_StringLatin1_indexOf_29 rfl (lv_at hl 2 rfl) ?_
      refine lv_iload_n C.x C.b dd_StringLatin1_indexOf_30 rfl (lv_at hl 3 rfl) ?_
      refine lv_iload_n C.x C.b dd_StringLatin1_indexOf_31 rfl (lv_at hl 1 rfl) ?_
      refine lv_iload_n C.x C.b dd_StringLatin1_indexOf_32 rfl (lv_at hl 0 rfl) ?_
      refine np_callSi (As := [.ref (gA (100 + 1)), .int (np_i x1), .int (np_i (np_max x2 0)), .int (np_i (np_min x3 8))]) (rest := []) C (c_StringLatin1_indexOfChar_kb1 l x1 (np_max x2 0) (np_min x3 8) _) np_allgood tw_295 tw_296 tw_16 tw_297 (nA := 4) (by decide +kernel) rfl ⟨rfl, rfl, Nat.le_of_ble_eq_true rfl, Nat.le_of_ble_eq_true rfl⟩ hat rfl hl.1 (Nat.le_of_ble_eq_true rfl) dd_StringLatin1_indexOf_33 hf (fun o2 H locs hf hat => ?_)
      exact hQ _ _ _ _ _ dd_StringLatin1_indexOf_36 hf hat
    · refine lv_iconst (v := np_i (-1)) C.x C.b dd_StringLatin1_indexOf_27 rfl ?_
      exact hQ _ _ _ _ _ dd_StringLatin1_indexOf_28 hf hat
  · refine lv_iconst (v := np_i (-1)) C.x C.b dd_StringLatin1_indexOf_7 rfl ?_
    exact hQ _ _ _ _ _ dd_StringLatin1_indexOf_8 hf hat
set_option maxHeartbeats 4000000 in
set_option maxRecDepth 100000 in
theorem c_StringLatin1_indexOf_kb1 (l : Launch) {gA : Nat → Nat} {D : va_G} {q : Nat → Nat} {cA : Nat → ClassId} (x1 x2 x3 : Int) (σ : np_S) : np_Mi gA l D np_cl (np_ty cA) (nc_wd q cA) yy_StringLatin1_indexOf (.code yy_StringLatin1_indexOf prog_21_method_22_code 4 (some .int) :: np_al) { frames := 1, cells := 0, slots := 0, locals := 25 } [.ref (gA (100 + 1)), .int (np_i x1), .int (np_i x2), .int (np_i x3)] σ (f_StringLatin1_indexOf_kb1 x1 x2 x3 σ) :=
  np_mki (by decide +kernel) (Nat.le_of_ble_eq_true rfl) (fun o p e R s m args below meth c Q A ls hf C hQ hat hl => w_f_StringLatin1_indexOf_kb1 C hQ x1 x2 x3 σ _ _ _ hf hat (lv_sub hl [0, 1, 2, 3] rfl))
set_option maxHeartbeats 4000000 in
set_option maxRecDepth 100000 in
theorem w_f_String_indexOf2_k1_36 (C : np_Cx gA p R s m args c D np_cl (np_ty cA) A np_al "java/lang/String" prog_19_method_80_code 3 { frames := 2, cells := 0, slots := 0, locals := 48 }) (hQ : ∀ (pc : Nat) (ls : Array Slot) (H : Heap) (locs : List Loc) (v : Int) {σ : np_S}, decode prog_19_method_80_code pc = .ok (.ireturn, 1) → some (v, σ) = some out → np_At D np_cl A (nc_wd q cA) s σ H locs → W p l e R s m args below meth c H locs 0 0 Q (F0 m pc ls [.int (np_i v)]))   : ∀ (t0 : Int) (σ : np_S) (H : Heap) (locs : List Loc) (ls : Array Slot), f_String_indexOf2_k1_36  t0 σ = some out → np_At D np_cl A (nc_wd q cA) s σ H locs → lv_has ls 3 [] → W p l e R s m args below meth c H locs 0 0 Q (F0 m 36 ls [.int (np_i t0)]) := by
  intro t0 σ H locs ls hf hat hl
  unfold f_String_indexOf2_k1_36 at hf
  exact hQ _ _ _ _ _ dd_String_indexOf2_36 hf hat
set_option maxHeartbeats 4000000 in
set_option maxRecDepth 100000 in
theorem w_f_String_indexOf2_k1 (C : np_Cx gA p R s m args c D np_cl (np_ty cA) A np_al "java/lang/String" prog_19_method_80_code 3 { frames := 2, cells := 0, slots := 0, locals := 48 }) (hQ : ∀ (pc : Nat) (ls : Array Slot) (H : Heap) (locs : List Loc) (v : Int) {σ : np_S}, decode prog_19_method_80_code pc = .ok (.ireturn, 1) → some (v, σ) = some out → np_At D np_cl A (nc_wd q cA) s σ H locs → W p l e R s m args below meth c H locs 0 0 Q (F0 m pc ls [.int (np_i v)]))   : ∀ (x1 x2 : Int) (σ : np_S) (H : Heap) (locs : List Loc) (ls : Array Slot), f_String_indexOf2_k1  x1 x2 σ = some out → np_At D np_cl A (nc_wd q cA) s σ H locs → lv_has ls 3 [(0, .ref (gA 1)), (1, .int (np_i x1)), (2, .int (np_i x2))] → W p l e R s m args below meth c H locs 0 0 Q (F0 m 0 ls []) := by
  intro x1 x2 σ H locs ls hf hat hl
  unfold f_String_indexOf2_k1 at hf
  refine lv_aload_n C.x C.b dd_String_indexOf2_0 rfl (lv_at hl 0 rfl) ?_
  refine np_callVi (As := []) (rest := []) C (c_String_isLatin1_k1 l _) np_allgood tw_269 tw_270 tw_271 tw_15 tw_272 (nA := 0) (by decide +kernel) rfl ⟨rfl, rfl, Nat.le_of_ble_eq_true rfl, Nat.le_of_ble_eq_true rfl⟩ (vk_recv C.en.1 (i := 1) (by decide) hat.2.2) hat rfl hl.1 (Nat.le_of_ble_eq_true rfl) dd_String_indexOf2_1 hf (fun o1 H locs hf hat => ?_)
  refine np_if_eq (tgt := 23) C dd_String_indexOf2_4 (by decide) hf (fun _ hf => ?_) (fun _ hf => ?_)
  · refine lv_aload_n C.x C.b dd_String_indexOf2_23 rfl (lv_at hl 0 rfl) ?_
    refine np_getk (v := .ref (gA (100 + 1))) C hat ((C.en.1.1 1 (by decide)).2.2.1) tw_692 dd_String_indexOf2_24 ?_
    refine lv_iload_n C.x C.b dd_String_indexOf2_27 rfl (lv_at hl 1 rfl) ?_
    refine lv_iload_n C.x C.b dd_String_indexOf2_28 rfl (lv_at hl 2 rfl) ?_
    refine lv_aload_n C.x C.b dd_String_indexOf2_29 rfl (lv_at hl 0 rfl) ?_
    refine np_callVi (As := []) (rest := [.int (np_i x2), .int (np_i x1), .ref (gA (100 + 1))]) C (c_String_length_k1 l _) np_allgood tw_275 tw_276 tw_277 tw_15 tw_278 (nA := 0) (by decide +kernel) rfl ⟨rfl, rfl, Nat.le_of_ble_eq_true rfl, Nat.le_of_ble_eq_true rfl⟩ (vk_recv C.en.1 (i := 1) (by decide) hat.2.2) hat rfl hl.1 (Nat.le_of_ble_eq_true rfl) dd_String_indexOf2_30 hf (fun o2 H locs hf hat => ?_)
    cases hf
  · refine lv_aload_n C.x C.b dd_String_indexOf2_7 rfl (lv_at hl 0 rfl) ?_
    refine np_getk (v := .ref (gA (100 + 1))) C hat ((C.en.1.1 1 (by decide)).2.2.1) tw_692 dd_String_indexOf2_8 ?_
    refine lv_iload_n C.x C.b dd_String_indexOf2_11 rfl (lv_at hl 1 rfl) ?_
    refine lv_iload_n C.x C.b dd_String_indexOf2_12 rfl (lv_at hl 2 rfl) ?_
    refine lv_aload_n C.x C.b dd_String_indexOf2_13 rfl (lv_at hl 0 rfl) ?_
    refine np_callVi (As := []) (rest := [.int (np_i x2), .int (np_i x1), .ref (gA (100 + 1))]) C (c_String_length_k1 l _) np_allgood tw_275 tw_276 tw_277 tw_15 tw_278 (nA := 0) (by decide +kernel) rfl ⟨rfl, rfl, Nat.le_of_ble_eq_true rfl, Nat.le_of_ble_eq_true rfl⟩ (vk_recv C.en.1 (i := 1) (by decide) hat.2.2) hat rfl hl.1 (Nat.le_of_ble_eq_true rfl) dd_String_indexOf2_14 hf (fun o3 H locs hf hat => ?_)
    refine np_callSi (As := [.ref (gA (100 + 1)), .int (np_i x1), .int (np_i x2), .int (np_i o3.1)]) (rest := []) C (c_StringLatin1_indexOf_kb1 l x1 x2 o3.1 _) np_allgood tw_283 tw_284 tw_16 tw_285 (nA := 4) (by decide +kernel) rfl ⟨rfl, rfl, Nat.le_of_ble_eq_true rfl, Nat.le_of_ble_eq_true rfl⟩ hat rfl hl.1 (Nat.le_of_ble_eq_true rfl) dd_String_indexOf2_17 hf (fun o4 H locs hf hat => ?_)
    refine lv_goto (tgt := 36) C.x C.b dd_String_indexOf2_20 (by decide) ?_
    exact w_f_String_indexOf2_k1_36 C hQ  _ _ _ _ _ hf hat (lv_sub hl [] rfl)
set_option maxHeartbeats 4000000 in
set_option maxRecDepth 100000 in
theorem c_String_indexOf2_k1 (l : Launch) {gA : Nat → Nat} {D : va_G} {q : Nat → Nat} {cA : Nat → ClassId} (x1 x2 : Int) (σ : np_S) : np_Mi gA l D np_cl (np_ty cA) (nc_wd q cA) yy_String_indexOf2 (.code yy_String_indexOf2 prog_19_method_80_code 3 (some .int) :: np_al) { frames := 2, cells := 0, slots := 0, locals := 48 } [.ref (gA 1), .int (np_i x1), .int (np_i x2)] σ (f_String_indexOf2_k1 x1 x2 σ) :=
  np_mki (by decide +kernel) (Nat.le_of_ble_eq_true rfl) (fun o p e R s m args below meth c Q A ls hf C hQ hat hl => w_f_String_indexOf2_k1 C hQ x1 x2 σ _ _ _ hf hat (lv_sub hl [0, 1, 2] rfl))
set_option maxHeartbeats 4000000 in
set_option maxRecDepth 100000 in
theorem w_f_String_indexOf_k1 (C : np_Cx gA p R s m args c D np_cl (np_ty cA) A np_al "java/lang/String" prog_19_method_79_code 2 { frames := 3, cells := 0, slots := 0, locals := 70 }) (hQ : ∀ (pc : Nat) (ls : Array Slot) (H : Heap) (locs : List Loc) (v : Int) {σ : np_S}, decode prog_19_method_79_code pc = .ok (.ireturn, 1) → some (v, σ) = some out → np_At D np_cl A (nc_wd q cA) s σ H locs → W p l e R s m args below meth c H locs 0 0 Q (F0 m pc ls [.int (np_i v)]))   : ∀ (x1 : Int) (σ : np_S) (H : Heap) (locs : List Loc) (ls : Array Slot), f_String_indexOf_k1  x1 σ = some out → np_At D np_cl A (nc_wd q cA) s σ H locs → lv_has ls 2 [(0, .ref (gA 1)), (1, .int (np_i x1))] → W p l e R s m args below meth c H locs 0 0 Q (F0 m 0 ls []) := by
  intro x1 σ H locs ls hf hat hl
  unfold f_String_indexOf_k1 at hf
  refine lv_aload_n C.x C.b dd_String_indexOf_0 rfl (lv_at hl 0 rfl) ?_
  refine lv_iload_n C.x C.b dd_String_indexOf_1 rfl (lv_at hl 1 rfl) ?_
  refine lv_iconst (v := np_i 0) C.x C.b dd_String_indexOf_2 rfl ?_
  refine np_callVi (As := [.int (np_i x1), .int (np_i 0)]) (rest := []) C (c_String_indexOf2_k1 l x1 0 _) np_allgood tw_265 tw_266 tw_267 tw_15 tw_268 (nA := 2) (by decide +kernel) rfl ⟨rfl, rfl, Nat.le_of_ble_eq_true rfl, Nat.le_of_ble_eq_true rfl⟩ (vk_recv C.en.1 (i := 1) (by decide) hat.2.2) hat rfl hl.1 (Nat.le_of_ble_eq_true rfl) dd_String_indexOf_3 hf (fun o1 H locs hf hat => ?_)
  exact hQ _ _ _ _ _ dd_String_indexOf_6 hf hat
set_option maxHeartbeats 4000000 in
set_option maxRecDepth 100000 in
theorem c_String_indexOf_k1 (l : Launch) {gA : Nat → Nat} {D : va_G} {q : Nat → Nat} {cA : Nat → ClassId} (x1 : Int) (σ : np_S) : np_Mi gA l D np_cl (np_ty cA) (nc_wd q cA) yy_String_indexOf (.code yy_String_indexOf prog_19_method_79_code 2 (some .int) :: np_al) { frames := 3, cells := 0, slots := 0, locals := 70 } [.ref (gA 1), .int (np_i x1)] σ (f_String_indexOf_k1 x1 σ) :=
  np_mki (by decide +kernel) (Nat.le_of_ble_eq_true rfl) (fun o p e R s m args below meth c Q A ls hf C hQ hat hl => w_f_String_indexOf_k1 C hQ x1 σ _ _ _ hf hat (lv_sub hl [0, 1] rfl))
end NW0
