section NW2
variable {p : Program} {l : Launch} {e : Env} {R : Room} {s : State} {m : MethodId} {args : Array Value} {below : List Frame} {meth : Method} {c : Code} {Q : State → Prop} {D : va_G} {A : Nat → Prop} {q : Nat → Nat} {cA : Nat → ClassId} {out : np_O} {gA : Nat → Nat}
set_option maxHeartbeats 4000000 in
set_option maxRecDepth 100000 in
theorem w_f_Arrays_fill_12_10 (C : np_Cx gA p R s m args c D np_cl (np_ty cA) A np_al "java/util/Arrays" prog_25_method_104_code 5 { frames := 1, cells := 0, slots := 0, locals := 22 }) (hQ : ∀ (pc : Nat) (ls : Array Slot) (H : Heap) (locs : List Loc) {σ : np_S}, decode prog_25_method_104_code pc = .ok (.return_, 1) → some ((0 : Int), σ) = some out → np_At D np_cl A (nc_wd q cA) s σ H locs → W p l e R s m args below meth c H locs 0 0 Q (F0 m pc ls []))   : ∀ (n : Nat), ∀ (x2 x3 x4 : Int) (σ : np_S) (H : Heap) (locs : List Loc) (ls : Array Slot), f_Arrays_fill_12_10  n x2 x3 x4 σ = some out → np_At D np_cl A (nc_wd q cA) s σ H locs → lv_has ls 5 [(0, .ref (q 12)), (2, .int (np_i x2)), (3, .int (np_i x3)), (4, .int (np_i x4))] → W p l e R s m args below meth c H locs 0 0 Q (F0 m 10 ls []) := by
  intro n
  induction n with
  | zero => intro x2 x3 x4 σ H locs ls hf; cases hf
  | succ n ih =>
    intro x2 x3 x4 σ H locs ls hf hat hl
    have h10 := ih
    have hf : f_Arrays_fill_12_10_b  (fun x2 x3 x4 σ => f_Arrays_fill_12_10  n x2 x3 x4 σ) x2 x3 x4 σ = some out := hf
    unfold f_Arrays_fill_12_10_b at hf
    refine lv_iload C.x C.b dd_Arrays_fill_10 (lv_at hl 3 rfl) ?_
    refine lv_iload_n C.x C.b dd_Arrays_fill_12 rfl (lv_at hl 1 rfl) ?_
    refine np_icmp_ge (tgt := 27) C dd_Arrays_fill_13 (by decide) hf (fun _ hf => ?_) (fun _ hf => ?_)
    · exact hQ _ _ _ _ dd_Arrays_fill_27 hf hat
    · refine lv_aload_n C.x C.b dd_Arrays_fill_16 rfl (lv_at hl 0 rfl) ?_
      refine lv_iload C.x C.b dd_Arrays_fill_17 (lv_at hl 3 rfl) ?_
      refine lv_iload_n C.x C.b dd_Arrays_fill_19 rfl (lv_at hl 2 rfl) ?_
      refine np_iastore C hat 12 (nc_a12 _) 0 rfl (by decide) (nc_s12 _ _ _) dd_Arrays_fill_20 hf (fun H locs hat hf => ?_)
      refine lv_iinc (v := np_i (x4 + 1)) (lv' := [(4, .int (np_i (x4 + 1))), (0, .ref (q 12)), (2, .int (np_i x2)), (3, .int (np_i x3))]) C.x C.b dd_Arrays_fill_21 hl (k := 3) rfl (np_inc _ _) (by decide) rfl (fun ls hl => ?_)
      refine lv_goto (tgt := 10) C.x C.b dd_Arrays_fill_24 (by decide) ?_
      exact h10 _ _ _ _ _ _ _ hf hat (lv_sub hl [1, 2, 3, 0] rfl)
set_option maxHeartbeats 4000000 in
set_option maxRecDepth 100000 in
theorem w_f_Arrays_fill_12 (C : np_Cx gA p R s m args c D np_cl (np_ty cA) A np_al "java/util/Arrays" prog_25_method_104_code 5 { frames := 1, cells := 0, slots := 0, locals := 22 }) (hQ : ∀ (pc : Nat) (ls : Array Slot) (H : Heap) (locs : List Loc) {σ : np_S}, decode prog_25_method_104_code pc = .ok (.return_, 1) → some ((0 : Int), σ) = some out → np_At D np_cl A (nc_wd q cA) s σ H locs → W p l e R s m args below meth c H locs 0 0 Q (F0 m pc ls []))   : ∀ (x1 x2 x3 : Int) (σ : np_S) (H : Heap) (locs : List Loc) (ls : Array Slot), f_Arrays_fill_12  x1 x2 x3 σ = some out → np_At D np_cl A (nc_wd q cA) s σ H locs → lv_has ls 5 [(0, .ref (q 12)), (1, .int (np_i x1)), (2, .int (np_i x2)), (3, .int (np_i x3))] → W p l e R s m args below meth c H locs 0 0 Q (F0 m 0 ls []) := by
  intro x1 x2 x3 σ H locs ls hf hat hl
  unfold f_Arrays_fill_12 at hf
  refine lv_aload_n C.x C.b dd_Arrays_fill_0 rfl (lv_at hl 0 rfl) ?_
  refine np_alen (n := 3038) C hat.1 12 (nc_a12 _) 0 rfl (show Int32.ofNat 3038 = np_i 3038 by decide +kernel) dd_Arrays_fill_1 ?_
  refine lv_iload_n C.x C.b dd_Arrays_fill_2 rfl (lv_at hl 1 rfl) ?_
  refine lv_iload_n C.x C.b dd_Arrays_fill_3 rfl (lv_at hl 2 rfl) ?_
  refine np_callSv (As := [.int (np_i 3038), .int (np_i x1), .int (np_i x2)]) (rest := []) C (c_Arrays_rangeCheck l 3038 x1 x2 _) np_allgood tw_494 tw_495 tw_3 tw_496 (nA := 3) (by decide +kernel) rfl ⟨rfl, rfl, Nat.le_of_ble_eq_true rfl, Nat.le_of_ble_eq_true rfl⟩ hat rfl hl.1 (Nat.le_of_ble_eq_true rfl) dd_Arrays_fill_4 hf (fun o1 H locs hf hat => ?_)
  refine lv_iload_n C.x C.b dd_Arrays_fill_7 rfl (lv_at hl 1 rfl) ?_
  refine lv_istore (lv' := [(4, .int (np_i x1)), (0, .ref (q 12)), (1, .int (np_i x1)), (2, .int (np_i x2)), (3, .int (np_i x3))]) C.x C.b dd_Arrays_fill_8 hl (by decide) rfl (fun ls hl => ?_)
  exact w_f_Arrays_fill_12_10 C hQ  20000 _ _ _ _ _ _ _ hf hat (lv_sub hl [1, 3, 4, 0] rfl)
set_option maxHeartbeats 4000000 in
set_option maxRecDepth 100000 in
theorem c_Arrays_fill_12 (l : Launch) {gA : Nat → Nat} {D : va_G} {q : Nat → Nat} {cA : Nat → ClassId} (x1 x2 x3 : Int) (σ : np_S) : np_Mv gA l D np_cl (np_ty cA) (nc_wd q cA) yy_Arrays_fill (.code yy_Arrays_fill prog_25_method_104_code 5 none :: np_al) { frames := 1, cells := 0, slots := 0, locals := 22 } [.ref (q 12), .int (np_i x1), .int (np_i x2), .int (np_i x3)] σ (f_Arrays_fill_12 x1 x2 x3 σ) :=
  np_mkv (by decide +kernel) (Nat.le_of_ble_eq_true rfl) (fun o p e R s m args below meth c Q A ls hf C hQ hat hl => w_f_Arrays_fill_12 C hQ x1 x2 x3 σ _ _ _ hf hat (lv_sub hl [0, 1, 2, 3] rfl))
set_option maxHeartbeats 4000000 in
set_option maxRecDepth 100000 in
theorem w_f_Chart_emptyRow (C : np_Cx gA p R s m args c D np_cl (np_ty cA) A np_al "NotationParse$Chart" prog_2_method_4_code 2 { frames := 2, cells := 0, slots := 0, locals := 46 }) (hQ : ∀ (pc : Nat) (ls : Array Slot) (H : Heap) (locs : List Loc) {σ : np_S}, decode prog_2_method_4_code pc = .ok (.return_, 1) → some ((0 : Int), σ) = some out → np_At D np_cl A (nc_wd q cA) s σ H locs → W p l e R s m args below meth c H locs 0 0 Q (F0 m pc ls []))   : ∀ (x1 : Int) (σ : np_S) (H : Heap) (locs : List Loc) (ls : Array Slot), f_Chart_emptyRow  x1 σ = some out → np_At D np_cl A (nc_wd q cA) s σ H locs → lv_has ls 2 [(0, .ref (q 11)), (1, .int (np_i x1))] → W p l e R s m args below meth c H locs 0 0 Q (F0 m 0 ls []) := by
  intro x1 σ H locs ls hf hat hl
  unfold f_Chart_emptyRow at hf
  refine lv_aload_n C.x C.b dd_Chart_emptyRow_0 rfl (lv_at hl 0 rfl) ?_
  refine np_get (v := .ref (q 12)) C i_Chart hat.1 11 (nc_o11 _) rfl 1 (by decide) tw_122 rfl rfl dd_Chart_emptyRow_1 ?_
  refine lv_iload_n C.x C.b dd_Chart_emptyRow_4 rfl (lv_at hl 1 rfl) ?_
  refine lv_bipush (v := np_i 98) C.x C.b dd_Chart_emptyRow_5 (by decide +kernel) ?_
  refine np_imul C dd_Chart_emptyRow_7 ?_
  refine lv_iload_n C.x C.b dd_Chart_emptyRow_8 rfl (lv_at hl 1 rfl) ?_
  refine lv_iconst (v := np_i 1) C.x C.b dd_Chart_emptyRow_9 rfl ?_
  refine np_iadd C dd_Chart_emptyRow_10 ?_
  refine lv_bipush (v := np_i 98) C.x C.b dd_Chart_emptyRow_11 (by decide +kernel) ?_
  refine np_imul C dd_Chart_emptyRow_13 ?_
  refine lv_iconst (v := np_i 0) C.x C.b dd_Chart_emptyRow_14 rfl ?_
  refine np_callSv (As := [.ref (q 12), .int (np_i (x1 * 98)), .int (np_i ((x1 + 1) * 98)), .int (np_i 0)]) (rest := []) C (c_Arrays_fill_12 l (x1 * 98) ((x1 + 1) * 98) 0 _) np_allgood tw_753 tw_492 tw_3 tw_493 (nA := 4) (by decide +kernel) rfl ⟨rfl, rfl, Nat.le_of_ble_eq_true rfl, Nat.le_of_ble_eq_true rfl⟩ hat rfl hl.1 (Nat.le_of_ble_eq_true rfl) dd_Chart_emptyRow_15 hf (fun o1 H locs hf hat => ?_)
  exact hQ _ _ _ _ dd_Chart_emptyRow_18 hf hat
set_option maxHeartbeats 4000000 in
set_option maxRecDepth 100000 in
theorem c_Chart_emptyRow (l : Launch) {gA : Nat → Nat} {D : va_G} {q : Nat → Nat} {cA : Nat → ClassId} (x1 : Int) (σ : np_S) : np_Mv gA l D np_cl (np_ty cA) (nc_wd q cA) yy_Chart_emptyRow (.code yy_Chart_emptyRow prog_2_method_4_code 2 none :: np_al) { frames := 2, cells := 0, slots := 0, locals := 46 } [.ref (q 11), .int (np_i x1)] σ (f_Chart_emptyRow x1 σ) :=
  np_mkv (by decide +kernel) (Nat.le_of_ble_eq_true rfl) (fun o p e R s m args below meth c Q A ls hf C hQ hat hl => w_f_Chart_emptyRow C hQ x1 σ _ _ _ hf hat (lv_sub hl [0, 1] rfl))
set_option maxHeartbeats 4000000 in
set_option maxRecDepth 100000 in
theorem w_f_Chart_scan_84 (C : np_Cx gA p R s m args c D np_cl (np_ty cA) A np_al "NotationParse$Chart" prog_2_method_6_code 8 { frames := 1, cells := 0, slots := 0, locals := 20 }) (hQ : ∀ (pc : Nat) (ls : Array Slot) (H : Heap) (locs : List Loc) (v : Int) {σ : np_S}, decode prog_2_method_6_code pc = .ok (.ireturn, 1) → np_ck (v = 0 ∨ v = 1) (some (v, σ)) = some out → np_At D np_cl A (nc_wd q cA) s σ H locs → W p l e R s m args below meth c H locs 0 0 Q (F0 m pc ls [.int (np_i v)])) {k19 : (Int → Int → Int → Int → Int → np_S → Option np_O)} (h19 : ∀ (x2 x4 x5 x6 x7 : Int) (σ : np_S) (H : Heap) (locs : List Loc) (ls : Array Slot), k19 x2 x4 x5 x6 x7 σ = some out → np_At D np_cl A (nc_wd q cA) s σ H locs → lv_has ls 8 [(0, .ref (q 11)), (2, .long (np_l x2)), (4, .int (np_i x4)), (5, .int (np_i x5)), (6, .int (np_i x6)), (7, .int (np_i x7))] → W p l e R s m args below meth c H locs 0 0 Q (F0 m 19 ls [])) : ∀ (x2 x4 x5 x6 x7 : Int) (σ : np_S) (H : Heap) (locs : List Loc) (ls : Array Slot), f_Chart_scan_84 k19 x2 x4 x5 x6 x7 σ = some out → np_At D np_cl A (nc_wd q cA) s σ H locs → lv_has ls 8 [(0, .ref (q 11)), (2, .long (np_l x2)), (4, .int (np_i x4)), (5, .int (np_i x5)), (6, .int (np_i x6)), (7, .int (np_i x7))] → W p l e R s m args below meth c H locs 0 0 Q (F0 m 84 ls []) := by
  intro x2 x4 x5 x6 x7 σ H locs ls hf hat hl
  unfold f_Chart_scan_84 at hf
  refine lv_iinc (v := np_i (x7 + 1)) (lv' := [(7, .int (np_i (x7 + 1))), (0, .ref (q 11)), (2, .long (np_l x2)), (4, .int (np_i x4)), (5, .int (np_i x5)), (6, .int (np_i x6))]) C.x C.b dd_Chart_scan_84 hl (k := 5) rfl (np_inc _ _) (by decide) rfl (fun ls hl => ?_)
  refine lv_goto (tgt := 19) C.x C.b dd_Chart_scan_87 (by decide) ?_
  exact h19 _ _ _ _ _ _ _ _ _ hf hat (lv_sub hl [1, 2, 3, 4, 5, 0] rfl)
set_option maxHeartbeats 4000000 in
set_option maxRecDepth 100000 in
theorem w_f_Chart_scan_19 (C : np_Cx gA p R s m args c D np_cl (np_ty cA) A np_al "NotationParse$Chart" prog_2_method_6_code 8 { frames := 1, cells := 0, slots := 0, locals := 20 }) (hQ : ∀ (pc : Nat) (ls : Array Slot) (H : Heap) (locs : List Loc) (v : Int) {σ : np_S}, decode prog_2_method_6_code pc = .ok (.ireturn, 1) → np_ck (v = 0 ∨ v = 1) (some (v, σ)) = some out → np_At D np_cl A (nc_wd q cA) s σ H locs → W p l e R s m args below meth c H locs 0 0 Q (F0 m pc ls [.int (np_i v)]))   : ∀ (n : Nat), ∀ (x2 x4 x5 x6 x7 : Int) (σ : np_S) (H : Heap) (locs : List Loc) (ls : Array Slot), f_Chart_scan_19  n x2 x4 x5 x6 x7 σ = some out → np_At D np_cl A (nc_wd q cA) s σ H locs → lv_has ls 8 [(0, .ref (q 11)), (2, .long (np_l x2)), (4, .int (np_i x4)), (5, .int (np_i x5)), (6, .int (np_i x6)), (7, .int (np_i x7))] → W p l e R s m args below meth c H locs 0 0 Q (F0 m 19 ls []) := by
  intro n
  induction n with
  | zero => intro x2 x4 x5 x6 x7 σ H locs ls hf; cases hf
  | succ n ih =>
    intro x2 x4 x5 x6 x7 σ H locs ls hf hat hl
    have h19 := ih
    have hf : f_Chart_scan_19_b  (fun x2 x4 x5 x6 x7 σ => f_Chart_scan_19  n x2 x4 x5 x6 x7 σ) x2 x4 x5 x6 x7 σ = some out := hf
    unfold f_Chart_scan_19_b at hf
    refine lv_iload C.x C.b dd_Chart_scan_19 (lv_at hl 5 rfl) ?_
    refine lv_aload_n C.x C.b dd_Chart_scan_21 rfl (lv_at hl 0 rfl) ?_
    refine np_get (v := .ref (q 1)) C i_Chart hat.1 11 (nc_o11 _) rfl 0 (by decide) tw_121 rfl rfl dd_Chart_scan_22 ?_
    refine np_callVi (As := []) (rest := [.int (np_i x7)]) C (c_Grammar_usedDots l _) np_allgood tw_766 tw_356 tw_357 tw_2 tw_358 (nA := 0) (by decide +kernel) rfl ⟨rfl, rfl, Nat.le_of_ble_eq_true rfl, Nat.le_of_ble_eq_true rfl⟩ (va_recv C.k hat.1 (ci := 1) (q0 := 1) rfl (nc_o1 _)) hat rfl hl.1 (Nat.le_of_ble_eq_true rfl) dd_Chart_scan_25 hf (fun o1 H locs hf hat => ?_)
    refine np_icmp_ge (tgt := 90) C dd_Chart_scan_28 (by decide) hf (fun _ hf => ?_) (fun _ hf => ?_)
    · refine lv_iload C.x C.b dd_Chart_scan_90 (lv_at hl 4 rfl) ?_
      exact hQ _ _ _ _ _ dd_Chart_scan_92 hf hat
    · refine lv_aload_n C.x C.b dd_Chart_scan_31 rfl (lv_at hl 0 rfl) ?_
      refine np_get (v := .ref (q 12)) C i_Chart hat.1 11 (nc_o11 _) rfl 1 (by decide) tw_122 rfl rfl dd_Chart_scan_32 ?_
      refine lv_iload C.x C.b dd_Chart_scan_35 (lv_at hl 2 rfl) ?_
      refine lv_iload C.x C.b dd_Chart_scan_37 (lv_at hl 5 rfl) ?_
      refine np_iadd C dd_Chart_scan_39 ?_
      refine np_iaload C hat.1 12 (nc_a12 _) 0 rfl (by decide) dd_Chart_scan_40 hf (fun hf => ?_)
      refine np_if_eq (tgt := 84) C dd_Chart_scan_41 (by decide) hf (fun _ hf => ?_) (fun _ hf => ?_)
      · exact w_f_Chart_scan_84 C hQ h19 _ _ _ _ _ _ _ _ _ hf hat (lv_sub hl [0, 1, 2, 3, 4, 5] rfl)
      · refine lv_aload_n C.x C.b dd_Chart_scan_44 rfl (lv_at hl 0 rfl) ?_
        refine np_get (v := .ref (q 1)) C i_Chart hat.1 11 (nc_o11 _) rfl 0 (by decide) tw_121 rfl rfl dd_Chart_scan_45 ?_
        refine np_get (v := .ref (q 3)) C i_Grammar hat.1 1 (nc_o1 _) rfl 1 (by decide) tw_54 rfl rfl dd_Chart_scan_48 ?_
        refine lv_iload C.x C.b dd_Chart_scan_51 (lv_at hl 5 rfl) ?_
        refine np_laload C hat.1 3 (nc_a3 _) 1 rfl (by decide) dd_Chart_scan_53 hf (fun hf => ?_)
        refine lv_lload_n C.x C.b dd_Chart_scan_54 rfl (lv_at hl 1 rfl) ?_
        refine np_lcmp C dd_Chart_scan_55 hf (fun hf => ?_)
        refine np_if_ne (tgt := 84) C dd_Chart_scan_56 (by decide) hf (fun _ hf => ?_) (fun _ hf => ?_)
        · exact w_f_Chart_scan_84 C hQ h19 _ _ _ _ _ _ _ _ _ hf hat (lv_sub hl [0, 1, 2, 3, 4, 5] rfl)
        · refine lv_aload_n C.x C.b dd_Chart_scan_59 rfl (lv_at hl 0 rfl) ?_
          refine np_get (v := .ref (q 12)) C i_Chart hat.1 11 (nc_o11 _) rfl 1 (by decide) tw_122 rfl rfl dd_Chart_scan_60 ?_
          refine lv_iload C.x C.b dd_Chart_scan_63 (lv_at hl 3 rfl) ?_
          refine lv_iload C.x C.b dd_Chart_scan_65 (lv_at hl 5 rfl) ?_
          refine np_iadd C dd_Chart_scan_67 ?_
          refine lv_iconst (v := np_i 1) C.x C.b dd_Chart_scan_68 rfl ?_
          refine np_iadd C dd_Chart_scan_69 ?_
          refine lv_aload_n C.x C.b dd_Chart_scan_70 rfl (lv_at hl 0 rfl) ?_
          refine np_get (v := .ref (q 12)) C i_Chart hat.1 11 (nc_o11 _) rfl 1 (by decide) tw_122 rfl rfl dd_Chart_scan_71 ?_
          refine lv_iload C.x C.b dd_Chart_scan_74 (lv_at hl 2 rfl) ?_
          refine lv_iload C.x C.b dd_Chart_scan_76 (lv_at hl 5 rfl) ?_
          refine np_iadd C dd_Chart_scan_78 ?_
          refine np_iaload C hat.1 12 (nc_a12 _) 0 rfl (by decide) dd_Chart_scan_79 hf (fun hf => ?_)
          refine np_iastore C hat 12 (nc_a12 _) 0 rfl (by decide) (nc_s12 _ _ _) dd_Chart_scan_80 hf (fun H locs hat hf => ?_)
          refine lv_iconst (v := np_i 1) C.x C.b dd_Chart_scan_81 rfl ?_
          refine lv_istore (lv' := [(6, .int (np_i 1)), (0, .ref (q 11)), (2, .long (np_l x2)), (4, .int (np_i x4)), (5, .int (np_i x5)), (7, .int (np_i x7))]) C.x C.b dd_Chart_scan_82 hl (by decide) rfl (fun ls hl => ?_)
          exact w_f_Chart_scan_84 C hQ h19 _ _ _ _ _ _ _ _ _ hf hat (lv_sub hl [1, 2, 3, 4, 0, 5] rfl)
set_option maxHeartbeats 4000000 in
set_option maxRecDepth 100000 in
theorem w_f_Chart_scan (C : np_Cx gA p R s m args c D np_cl (np_ty cA) A np_al "NotationParse$Chart" prog_2_method_6_code 8 { frames := 1, cells := 0, slots := 0, locals := 20 }) (hQ : ∀ (pc : Nat) (ls : Array Slot) (H : Heap) (locs : List Loc) (v : Int) {σ : np_S}, decode prog_2_method_6_code pc = .ok (.ireturn, 1) → np_ck (v = 0 ∨ v = 1) (some (v, σ)) = some out → np_At D np_cl A (nc_wd q cA) s σ H locs → W p l e R s m args below meth c H locs 0 0 Q (F0 m pc ls [.int (np_i v)]))   : ∀ (x1 x2 : Int) (σ : np_S) (H : Heap) (locs : List Loc) (ls : Array Slot), f_Chart_scan  x1 x2 σ = some out → np_At D np_cl A (nc_wd q cA) s σ H locs → lv_has ls 8 [(0, .ref (q 11)), (1, .int (np_i x1)), (2, .long (np_l x2))] → W p l e R s m args below meth c H locs 0 0 Q (F0 m 0 ls []) := by
  intro x1 x2 σ H locs ls hf hat hl
  unfold f_Chart_scan at hf
  refine lv_iload_n C.x C.b dd_Chart_scan_0 rfl (lv_at hl 1 rfl) ?_
  refine lv_bipush (v := np_i 98) C.x C.b dd_Chart_scan_1 (by decide +kernel) ?_
  refine np_imul C dd_Chart_scan_3 ?_
  refine lv_istore (lv' := [(4, .int (np_i (x1 * 98))), (0, .ref (q 11)), (1, .int (np_i x1)), (2, .long (np_l x2))]) C.x C.b dd_Chart_scan_4 hl (by decide) rfl (fun ls hl => ?_)
  refine lv_iload C.x C.b dd_Chart_scan_6 (lv_at hl 0 rfl) ?_
  refine lv_bipush (v := np_i 98) C.x C.b dd_Chart_scan_8 (by decide +kernel) ?_
  refine np_iadd C dd_Chart_scan_10 ?_
  refine lv_istore (lv' := [(5, .int (np_i ((x1 * 98) + 98))), (4, .int (np_i (x1 * 98))), (0, .ref (q 11)), (1, .int (np_i x1)), (2, .long (np_l x2))]) C.x C.b dd_Chart_scan_11 hl (by decide) rfl (fun ls hl => ?_)
  refine lv_iconst (v := np_i 0) C.x C.b dd_Chart_scan_13 rfl ?_
  refine lv_istore (lv' := [(6, .int (np_i 0)), (5, .int (np_i ((x1 * 98) + 98))), (4, .int (np_i (x1 * 98))), (0, .ref (q 11)), (1, .int (np_i x1)), (2, .long (np_l x2))]) C.x C.b dd_Chart_scan_14 hl (by decide) rfl (fun ls hl => ?_)
  refine lv_iconst (v := np_i 0) C.x C.b dd_Chart_scan_16 rfl ?_
  refine lv_istore (lv' := [(7, .int (np_i 0)), (6, .int (np_i 0)), (5, .int (np_i ((x1 * 98) + 98))), (4, .int (np_i (x1 * 98))), (0, .ref (q 11)), (1, .int (np_i x1)), (2, .long (np_l x2))]) C.x C.b dd_Chart_scan_17 hl (by decide) rfl (fun ls hl => ?_)
  exact w_f_Chart_scan_19 C hQ  20000 _ _ _ _ _ _ _ _ _ hf hat (lv_sub hl [4, 6, 3, 2, 1, 0] rfl)
set_option maxHeartbeats 4000000 in
set_option maxRecDepth 100000 in
theorem c_Chart_scan (l : Launch) {gA : Nat → Nat} {D : va_G} {q : Nat → Nat} {cA : Nat → ClassId} (x1 x2 : Int) (σ : np_S) : np_Mi gA l D np_cl (np_ty cA) (nc_wd q cA) yy_Chart_scan (.code yy_Chart_scan prog_2_method_6_code 8 (some .boolean) :: np_al) { frames := 1, cells := 0, slots := 0, locals := 20 } [.ref (q 11), .int (np_i x1), .long (np_l x2)] σ (f_Chart_scan x1 x2 σ) :=
  np_mkz (by decide +kernel) (Nat.le_of_ble_eq_true rfl) (fun o p e R s m args below meth c Q A ls hf C hQ hat hl => w_f_Chart_scan C hQ x1 x2 σ _ _ _ hf hat (lv_sub hl [0, 1, 2] rfl))
set_option maxHeartbeats 4000000 in
set_option maxRecDepth 100000 in
theorem w_f_Grammar_lastDot (C : np_Cx gA p R s m args c D np_cl (np_ty cA) A np_al "NotationParse$Grammar" prog_3_method_3_code 2 { frames := 0, cells := 0, slots := 0, locals := 0 }) (hQ : ∀ (pc : Nat) (ls : Array Slot) (H : Heap) (locs : List Loc) (v : Int) {σ : np_S}, decode prog_3_method_3_code pc = .ok (.ireturn, 1) → some (v, σ) = some out → np_At D np_cl A (nc_wd q cA) s σ H locs → W p l e R s m args below meth c H locs 0 0 Q (F0 m pc ls [.int (np_i v)]))   : ∀ (x1 : Int) (σ : np_S) (H : Heap) (locs : List Loc) (ls : Array Slot), f_Grammar_lastDot  x1 σ = some out → np_At D np_cl A (nc_wd q cA) s σ H locs → lv_has ls 2 [(0, .ref (q 1)), (1, .int (np_i x1))] → W p l e R s m args below meth c H locs 0 0 Q (F0 m 0 ls []) := by
  intro x1 σ H locs ls hf hat hl
  unfold f_Grammar_lastDot at hf
  refine lv_iload_n C.x C.b dd_Grammar_lastDot_0 rfl (lv_at hl 1 rfl) ?_
  refine lv_bipush (v := np_i 7) C.x C.b dd_Grammar_lastDot_1 (by decide +kernel) ?_
  refine np_imul C dd_Grammar_lastDot_3 ?_
  refine lv_aload_n C.x C.b dd_Grammar_lastDot_4 rfl (lv_at hl 0 rfl) ?_
  refine np_get (v := .ref (q 5)) C i_Grammar hat.1 1 (nc_o1 _) rfl 3 (by decide) tw_58 rfl rfl dd_Grammar_lastDot_5 ?_
  refine lv_iload_n C.x C.b dd_Grammar_lastDot_8 rfl (lv_at hl 1 rfl) ?_
  refine np_iaload C hat.1 5 (nc_a5 _) 0 rfl (by decide) dd_Grammar_lastDot_9 hf (fun hf => ?_)
  refine np_iadd C dd_Grammar_lastDot_10 ?_
  exact hQ _ _ _ _ _ dd_Grammar_lastDot_11 hf hat
set_option maxHeartbeats 4000000 in
set_option maxRecDepth 100000 in
theorem c_Grammar_lastDot (l : Launch) {gA : Nat → Nat} {D : va_G} {q : Nat → Nat} {cA : Nat → ClassId} (x1 : Int) (σ : np_S) : np_Mi gA l D np_cl (np_ty cA) (nc_wd q cA) yy_Grammar_lastDot (.code yy_Grammar_lastDot prog_3_method_3_code 2 (some .int) :: np_al) { frames := 0, cells := 0, slots := 0, locals := 0 } [.ref (q 1), .int (np_i x1)] σ (f_Grammar_lastDot x1 σ) :=
  np_mki (by decide +kernel) (Nat.le_of_ble_eq_true rfl) (fun o p e R s m args below meth c Q A ls hf C hQ hat hl => w_f_Grammar_lastDot C hQ x1 σ _ _ _ hf hat (lv_sub hl [0, 1] rfl))
set_option maxHeartbeats 4000000 in
set_option maxRecDepth 100000 in
theorem w_f_Chart_isReached_23 (C : np_Cx gA p R s m args c D np_cl (np_ty cA) A np_al "NotationParse$Chart" prog_2_method_5_code 4 { frames := 0, cells := 0, slots := 0, locals := 0 }) (hQ : ∀ (pc : Nat) (ls : Array Slot) (H : Heap) (locs : List Loc) (v : Int) {σ : np_S}, decode prog_2_method_5_code pc = .ok (.ireturn, 1) → np_ck (v = 0 ∨ v = 1) (some (v, σ)) = some out → np_At D np_cl A (nc_wd q cA) s σ H locs → W p l e R s m args below meth c H locs 0 0 Q (F0 m pc ls [.int (np_i v)]))   : ∀ (t0 : Int) (σ : np_S) (H : Heap) (locs : List Loc) (ls : Array Slot), f_Chart_isReached_23  t0 σ = some out → np_At D np_cl A (nc_wd q cA) s σ H locs → lv_has ls 4 [] → W p l e R s m args below meth c H locs 0 0 Q (F0 m 23 ls [.int (np_i t0)]) := by
  intro t0 σ H locs ls hf hat hl
  unfold f_Chart_isReached_23 at hf
  exact hQ _ _ _ _ _ dd_Chart_isReached_23 hf hat
set_option maxHeartbeats 4000000 in
set_option maxRecDepth 100000 in
theorem w_f_Chart_isReached (C : np_Cx gA p R s m args c D np_cl (np_ty cA) A np_al "NotationParse$Chart" prog_2_method_5_code 4 { frames := 0, cells := 0, slots := 0, locals := 0 }) (hQ : ∀ (pc : Nat) (ls : Array Slot) (H : Heap) (locs : List Loc) (v : Int) {σ : np_S}, decode prog_2_method_5_code pc = .ok (.ireturn, 1) → np_ck (v = 0 ∨ v = 1) (some (v, σ)) = some out → np_At D np_cl A (nc_wd q cA) s σ H locs → W p l e R s m args below meth c H locs 0 0 Q (F0 m pc ls [.int (np_i v)]))   : ∀ (x1 x2 x3 : Int) (σ : np_S) (H : Heap) (locs : List Loc) (ls : Array Slot), f_Chart_isReached  x1 x2 x3 σ = some out → np_At D np_cl A (nc_wd q cA) s σ H locs → lv_has ls 4 [(0, .ref (q 11)), (1, .int (np_i x1)), (2, .int (np_i x2)), (3, .int (np_i x3))] → W p l e R s m args below meth c H locs 0 0 Q (F0 m 0 ls []) := by
  intro x1 x2 x3 σ H locs ls hf hat hl
  unfold f_Chart_isReached at hf
  refine lv_aload_n C.x C.b dd_Chart_isReached_0 rfl (lv_at hl 0 rfl) ?_
  refine np_get (v := .ref (q 12)) C i_Chart hat.1 11 (nc_o11 _) rfl 1 (by decide) tw_122 rfl rfl dd_Chart_isReached_1 ?_
  refine lv_iload_n C.x C.b dd_Chart_isReached_4 rfl (lv_at hl 2 rfl) ?_
  refine lv_bipush (v := np_i 98) C.x C.b dd_Chart_isReached_5 (by decide +kernel) ?_
  refine np_imul C dd_Chart_isReached_7 ?_
  refine lv_iload_n C.x C.b dd_Chart_isReached_8 rfl (lv_at hl 3 rfl) ?_
  refine np_iadd C dd_Chart_isReached_9 ?_
  refine np_iaload C hat.1 12 (nc_a12 _) 0 rfl (by decide) dd_Chart_isReached_10 hf (fun hf => ?_)
  refine lv_iload_n C.x C.b dd_Chart_isReached_11 rfl (lv_at hl 1 rfl) ?_
  refine np_iushr C dd_Chart_isReached_12 ?_
  refine lv_iconst (v := np_i 1) C.x C.b dd_Chart_isReached_13 rfl ?_
  refine np_iand C dd_Chart_isReached_14 ?_
  refine np_if_eq (tgt := 22) C dd_Chart_isReached_15 (by decide) hf (fun _ hf => ?_) (fun _ hf => ?_)
  · refine lv_iconst (v := np_i 0) C.x C.b dd_Chart_isReached_22 rfl ?_
    exact w_f_Chart_isReached_23 C hQ  _ _ _ _ _ hf hat (lv_sub hl [] rfl)
  · refine lv_iconst (v := np_i 1) C.x C.b dd_Chart_isReached_18 rfl ?_
    refine lv_goto (tgt := 23) C.x C.b dd_Chart_isReached_19 (by decide) ?_
    exact w_f_Chart_isReached_23 C hQ  _ _ _ _ _ hf hat (lv_sub hl [] rfl)
set_option maxHeartbeats 4000000 in
set_option maxRecDepth 100000 in
theorem c_Chart_isReached (l : Launch) {gA : Nat → Nat} {D : va_G} {q : Nat → Nat} {cA : Nat → ClassId} (x1 x2 x3 : Int) (σ : np_S) : np_Mi gA l D np_cl (np_ty cA) (nc_wd q cA) yy_Chart_isReached (.code yy_Chart_isReached prog_2_method_5_code 4 (some .boolean) :: np_al) { frames := 0, cells := 0, slots := 0, locals := 0 } [.ref (q 11), .int (np_i x1), .int (np_i x2), .int (np_i x3)] σ (f_Chart_isReached x1 x2 x3 σ) :=
  np_mkz (by decide +kernel) (Nat.le_of_ble_eq_true rfl) (fun o p e R s m args below meth c Q A ls hf C hQ hat hl => w_f_Chart_isReached C hQ x1 x2 x3 σ _ _ _ hf hat (lv_sub hl [0, 1, 2, 3] rfl))
set_option maxHeartbeats 4000000 in
set_option maxRecDepth 100000 in
theorem w_f_Chart_highestTerm_60 (C : np_Cx gA p R s m args c D np_cl (np_ty cA) A np_al "NotationParse$Chart" prog_2_method_8_code 5 { frames := 1, cells := 0, slots := 0, locals := 23 }) (hQ : ∀ (pc : Nat) (ls : Array Slot) (H : Heap) (locs : List Loc) (v : Int) {σ : np_S}, decode prog_2_method_8_code pc = .ok (.ireturn, 1) → some (v, σ) = some out → np_At D np_cl A (nc_wd q cA) s σ H locs → W p l e R s m args below meth c H locs 0 0 Q (F0 m pc ls [.int (np_i v)])) {k5 : (Int → Int → Int → Int → np_S → Option np_O)} (h5 : ∀ (x1 x2 x3 x4 : Int) (σ : np_S) (H : Heap) (locs : List Loc) (ls : Array Slot), k5 x1 x2 x3 x4 σ = some out → np_At D np_cl A (nc_wd q cA) s σ H locs → lv_has ls 5 [(0, .ref (q 11)), (1, .int (np_i x1)), (2, .int (np_i x2)), (3, .int (np_i x3)), (4, .int (np_i x4))] → W p l e R s m args below meth c H locs 0 0 Q (F0 m 5 ls [])) : ∀ (x1 x2 x3 x4 : Int) (σ : np_S) (H : Heap) (locs : List Loc) (ls : Array Slot), f_Chart_highestTerm_60 k5 x1 x2 x3 x4 σ = some out → np_At D np_cl A (nc_wd q cA) s σ H locs → lv_has ls 5 [(0, .ref (q 11)), (1, .int (np_i x1)), (2, .int (np_i x2)), (3, .int (np_i x3)), (4, .int (np_i x4))] → W p l e R s m args below meth c H locs 0 0 Q (F0 m 60 ls []) := by
  intro x1 x2 x3 x4 σ H locs ls hf hat hl
  unfold f_Chart_highestTerm_60 at hf
  refine lv_iinc (v := np_i (x4 + 1)) (lv' := [(4, .int (np_i (x4 + 1))), (0, .ref (q 11)), (1, .int (np_i x1)), (2, .int (np_i x2)), (3, .int (np_i x3))]) C.x C.b dd_Chart_highestTerm_60 hl (k := 4) rfl (np_inc _ _) (by decide) rfl (fun ls hl => ?_)
  refine lv_goto (tgt := 5) C.x C.b dd_Chart_highestTerm_63 (by decide) ?_
  exact h5 _ _ _ _ _ _ _ _ hf hat (lv_sub hl [1, 2, 3, 4, 0] rfl)
set_option maxHeartbeats 4000000 in
set_option maxRecDepth 100000 in
theorem w_f_Chart_highestTerm_5 (C : np_Cx gA p R s m args c D np_cl (np_ty cA) A np_al "NotationParse$Chart" prog_2_method_8_code 5 { frames := 1, cells := 0, slots := 0, locals := 23 }) (hQ : ∀ (pc : Nat) (ls : Array Slot) (H : Heap) (locs : List Loc) (v : Int) {σ : np_S}, decode prog_2_method_8_code pc = .ok (.ireturn, 1) → some (v, σ) = some out → np_At D np_cl A (nc_wd q cA) s σ H locs → W p l e R s m args below meth c H locs 0 0 Q (F0 m pc ls [.int (np_i v)]))   : ∀ (n : Nat), ∀ (x1 x2 x3 x4 : Int) (σ : np_S) (H : Heap) (locs : List Loc) (ls : Array Slot), f_Chart_highestTerm_5  n x1 x2 x3 x4 σ = some out → np_At D np_cl A (nc_wd q cA) s σ H locs → lv_has ls 5 [(0, .ref (q 11)), (1, .int (np_i x1)), (2, .int (np_i x2)), (3, .int (np_i x3)), (4, .int (np_i x4))] → W p l e R s m args below meth c H locs 0 0 Q (F0 m 5 ls []) := by
  intro n
  induction n with
  | zero => intro x1 x2 x3 x4 σ H locs ls hf; cases hf
  | succ n ih =>
    intro x1 x2 x3 x4 σ H locs ls hf hat hl
    have h5 := ih
    have hf : f_Chart_highestTerm_5_b  (fun x1 x2 x3 x4 σ => f_Chart_highestTerm_5  n x1 x2 x3 x4 σ) x1 x2 x3 x4 σ = some out := hf
    unfold f_Chart_highestTerm_5_b at hf
    refine lv_iload C.x C.b dd_Chart_highestTerm_5 (lv_at hl 4 rfl) ?_
    refine lv_aload_n C.x C.b dd_Chart_highestTerm_7 rfl (lv_at hl 0 rfl) ?_
    refine np_get (v := .ref (q 1)) C i_Chart hat.1 11 (nc_o11 _) rfl 0 (by decide) tw_121 rfl rfl dd_Chart_highestTerm_8 ?_
    refine np_get (v := .int (np_i (σ 1 4))) C i_Grammar hat.1 1 (nc_o1 _) rfl 4 (by decide) tw_61 rfl rfl dd_Chart_highestTerm_11 ?_
    refine np_icmp_ge (tgt := 66) C dd_Chart_highestTerm_14 (by decide) hf (fun _ hf => ?_) (fun _ hf => ?_)
    · refine lv_iload_n C.x C.b dd_Chart_highestTerm_66 rfl (lv_at hl 3 rfl) ?_
      exact hQ _ _ _ _ _ dd_Chart_highestTerm_67 hf hat
    · refine lv_aload_n C.x C.b dd_Chart_highestTerm_17 rfl (lv_at hl 0 rfl) ?_
      refine np_get (v := .ref (q 1)) C i_Chart hat.1 11 (nc_o11 _) rfl 0 (by decide) tw_121 rfl rfl dd_Chart_highestTerm_18 ?_
      refine np_get (v := .ref (q 4)) C i_Grammar hat.1 1 (nc_o1 _) rfl 2 (by decide) tw_56 rfl rfl dd_Chart_highestTerm_21 ?_
      refine lv_iload C.x C.b dd_Chart_highestTerm_24 (lv_at hl 4 rfl) ?_
      refine np_iaload C hat.1 4 (nc_a4 _) 0 rfl (by decide) dd_Chart_highestTerm_26 hf (fun hf => ?_)
      refine lv_iload_n C.x C.b dd_Chart_highestTerm_27 rfl (lv_at hl 3 rfl) ?_
      refine np_icmp_le (tgt := 60) C dd_Chart_highestTerm_28 (by decide) hf (fun _ hf => ?_) (fun _ hf => ?_)
      · exact w_f_Chart_highestTerm_60 C hQ h5 _ _ _ _ _ _ _ _ hf hat (lv_sub hl [0, 1, 2, 3, 4] rfl)
      · refine lv_aload_n C.x C.b dd_Chart_highestTerm_31 rfl (lv_at hl 0 rfl) ?_
        refine lv_iload_n C.x C.b dd_Chart_highestTerm_32 rfl (lv_at hl 1 rfl) ?_
        refine lv_iload_n C.x C.b dd_Chart_highestTerm_33 rfl (lv_at hl 2 rfl) ?_
        refine lv_aload_n C.x C.b dd_Chart_highestTerm_34 rfl (lv_at hl 0 rfl) ?_
        refine np_get (v := .ref (q 1)) C i_Chart hat.1 11 (nc_o11 _) rfl 0 (by decide) tw_121 rfl rfl dd_Chart_highestTerm_35 ?_
        refine lv_iload C.x C.b dd_Chart_highestTerm_38 (lv_at hl 4 rfl) ?_
        refine np_callVi (As := [.int (np_i x4)]) (rest := [.int (np_i x2), .int (np_i x1), .ref (q 11)]) C (c_Grammar_lastDot l x4 _) np_allgood tw_775 tw_776 tw_777 tw_2 tw_778 (nA := 1) (by decide +kernel) rfl ⟨rfl, rfl, Nat.le_of_ble_eq_true rfl, Nat.le_of_ble_eq_true rfl⟩ (va_recv C.k hat.1 (ci := 1) (q0 := 1) rfl (nc_o1 _)) hat rfl hl.1 (Nat.le_of_ble_eq_true rfl) dd_Chart_highestTerm_40 hf (fun o1 H locs hf hat => ?_)
        refine np_callVi (As := [.int (np_i x1), .int (np_i x2), .int (np_i o1.1)]) (rest := []) C (c_Chart_isReached l x1 x2 o1.1 _) np_allgood tw_779 tw_781 tp_11 tw_5 tw_782 (nA := 3) (by decide +kernel) rfl ⟨rfl, rfl, Nat.le_of_ble_eq_true rfl, Nat.le_of_ble_eq_true rfl⟩ (va_recv C.k hat.1 (ci := 3) (q0 := 11) rfl (nc_o11 _)) hat rfl hl.1 (Nat.le_of_ble_eq_true rfl) dd_Chart_highestTerm_43 hf (fun o2 H locs hf hat => ?_)
        refine np_if_eq (tgt := 60) C dd_Chart_highestTerm_46 (by decide) hf (fun _ hf => ?_) (fun _ hf => ?_)
        · exact w_f_Chart_highestTerm_60 C hQ h5 _ _ _ _ _ _ _ _ hf hat (lv_sub hl [0, 1, 2, 3, 4] rfl)
        · refine lv_aload_n C.x C.b dd_Chart_highestTerm_49 rfl (lv_at hl 0 rfl) ?_
          refine np_get (v := .ref (q 1)) C i_Chart hat.1 11 (nc_o11 _) rfl 0 (by decide) tw_121 rfl rfl dd_Chart_highestTerm_50 ?_
          refine np_get (v := .ref (q 4)) C i_Grammar hat.1 1 (nc_o1 _) rfl 2 (by decide) tw_56 rfl rfl dd_Chart_highestTerm_53 ?_
          refine lv_iload C.x C.b dd_Chart_highestTerm_56 (lv_at hl 4 rfl) ?_
          refine np_iaload C hat.1 4 (nc_a4 _) 0 rfl (by decide) dd_Chart_highestTerm_58 hf (fun hf => ?_)
          refine lv_istore_n (lv' := [(3, .int (np_i (o2.2 4 x4))), (0, .ref (q 11)), (1, .int (np_i x1)), (2, .int (np_i x2)), (4, .int (np_i x4))]) C.x C.b dd_Chart_highestTerm_59 rfl hl (by decide) rfl (fun ls hl => ?_)
          exact w_f_Chart_highestTerm_60 C hQ h5 _ _ _ _ _ _ _ _ hf hat (lv_sub hl [1, 2, 3, 0, 4] rfl)
set_option maxHeartbeats 4000000 in
set_option maxRecDepth 100000 in
theorem w_f_Chart_highestTerm (C : np_Cx gA p R s m args c D np_cl (np_ty cA) A np_al "NotationParse$Chart" prog_2_method_8_code 5 { frames := 1, cells := 0, slots := 0, locals := 23 }) (hQ : ∀ (pc : Nat) (ls : Array Slot) (H : Heap) (locs : List Loc) (v : Int) {σ : np_S}, decode prog_2_method_8_code pc = .ok (.ireturn, 1) → some (v, σ) = some out → np_At D np_cl A (nc_wd q cA) s σ H locs → W p l e R s m args below meth c H locs 0 0 Q (F0 m pc ls [.int (np_i v)]))   : ∀ (x1 x2 : Int) (σ : np_S) (H : Heap) (locs : List Loc) (ls : Array Slot), f_Chart_highestTerm  x1 x2 σ = some out → np_At D np_cl A (nc_wd q cA) s σ H locs → lv_has ls 5 [(0, .ref (q 11)), (1, .int (np_i x1)), (2, .int (np_i x2))] → W p l e R s m args below meth c H locs 0 0 Q (F0 m 0 ls []) := by
  intro x1 x2 σ H locs ls hf hat hl
  unfold f_Chart_highestTerm at hf
  refine lv_iconst (v := np_i (-1)) C.x C.b dd_Chart_highestTerm_0 rfl ?_
  refine lv_istore_n (lv' := [(3, .int (np_i ((-1)))), (0, .ref (q 11)), (1, .int (np_i x1)), (2, .int (np_i x2))]) C.x C.b dd_Chart_highestTerm_1 rfl hl (by decide) rfl (fun ls hl => ?_)
  refine lv_iconst (v := np_i 0) C.x C.b dd_Chart_highestTerm_2 rfl ?_
  refine lv_istore (lv' := [(4, .int (np_i 0)), (3, .int (np_i ((-1)))), (0, .ref (q 11)), (1, .int (np_i x1)), (2, .int (np_i x2))]) C.x C.b dd_Chart_highestTerm_3 hl (by decide) rfl (fun ls hl => ?_)
  exact w_f_Chart_highestTerm_5 C hQ  20000 _ _ _ _ _ _ _ _ hf hat (lv_sub hl [2, 3, 4, 1, 0] rfl)
set_option maxHeartbeats 4000000 in
set_option maxRecDepth 100000 in
theorem c_Chart_highestTerm (l : Launch) {gA : Nat → Nat} {D : va_G} {q : Nat → Nat} {cA : Nat → ClassId} (x1 x2 : Int) (σ : np_S) : np_Mi gA l D np_cl (np_ty cA) (nc_wd q cA) yy_Chart_highestTerm (.code yy_Chart_highestTerm prog_2_method_8_code 5 (some .int) :: np_al) { frames := 1, cells := 0, slots := 0, locals := 23 } [.ref (q 11), .int (np_i x1), .int (np_i x2)] σ (f_Chart_highestTerm x1 x2 σ) :=
  np_mki (by decide +kernel) (Nat.le_of_ble_eq_true rfl) (fun o p e R s m args below meth c Q A ls hf C hQ hat hl => w_f_Chart_highestTerm C hQ x1 x2 σ _ _ _ hf hat (lv_sub hl [0, 1, 2] rfl))
set_option maxHeartbeats 4000000 in
set_option maxRecDepth 100000 in
theorem w_f_Chart_fillHoles_76 (C : np_Cx gA p R s m args c D np_cl (np_ty cA) A np_al "NotationParse$Chart" prog_2_method_9_code 8 { frames := 1, cells := 0, slots := 0, locals := 20 }) (hQ : ∀ (pc : Nat) (ls : Array Slot) (H : Heap) (locs : List Loc) {σ : np_S}, decode prog_2_method_9_code pc = .ok (.return_, 1) → some ((0 : Int), σ) = some out → np_At D np_cl A (nc_wd q cA) s σ H locs → W p l e R s m args below meth c H locs 0 0 Q (F0 m pc ls [])) {k15 : (Int → Int → Int → Int → np_S → Option np_O)} (h15 : ∀ (x3 x4 x5 x6 : Int) (σ : np_S) (H : Heap) (locs : List Loc) (ls : Array Slot), k15 x3 x4 x5 x6 σ = some out → np_At D np_cl A (nc_wd q cA) s σ H locs → lv_has ls 8 [(0, .ref (q 11)), (3, .int (np_i x3)), (4, .int (np_i x4)), (5, .int (np_i x5)), (6, .int (np_i x6))] → W p l e R s m args below meth c H locs 0 0 Q (F0 m 15 ls [])) : ∀ (x3 x4 x5 x6 : Int) (σ : np_S) (H : Heap) (locs : List Loc) (ls : Array Slot), f_Chart_fillHoles_76 k15 x3 x4 x5 x6 σ = some out → np_At D np_cl A (nc_wd q cA) s σ H locs → lv_has ls 8 [(0, .ref (q 11)), (3, .int (np_i x3)), (4, .int (np_i x4)), (5, .int (np_i x5)), (6, .int (np_i x6))] → W p l e R s m args below meth c H locs 0 0 Q (F0 m 76 ls []) := by
  intro x3 x4 x5 x6 σ H locs ls hf hat hl
  unfold f_Chart_fillHoles_76 at hf
  refine lv_iinc (v := np_i (x6 + 1)) (lv' := [(6, .int (np_i (x6 + 1))), (0, .ref (q 11)), (3, .int (np_i x3)), (4, .int (np_i x4)), (5, .int (np_i x5))]) C.x C.b dd_Chart_fillHoles_76 hl (k := 4) rfl (np_inc _ _) (by decide) rfl (fun ls hl => ?_)
  refine lv_goto (tgt := 15) C.x C.b dd_Chart_fillHoles_79 (by decide) ?_
  exact h15 _ _ _ _ _ _ _ _ hf hat (lv_sub hl [1, 2, 3, 4, 0] rfl)
set_option maxHeartbeats 4000000 in
set_option maxRecDepth 100000 in
theorem w_f_Chart_fillHoles_15 (C : np_Cx gA p R s m args c D np_cl (np_ty cA) A np_al "NotationParse$Chart" prog_2_method_9_code 8 { frames := 1, cells := 0, slots := 0, locals := 20 }) (hQ : ∀ (pc : Nat) (ls : Array Slot) (H : Heap) (locs : List Loc) {σ : np_S}, decode prog_2_method_9_code pc = .ok (.return_, 1) → some ((0 : Int), σ) = some out → np_At D np_cl A (nc_wd q cA) s σ H locs → W p l e R s m args below meth c H locs 0 0 Q (F0 m pc ls []))   : ∀ (n : Nat), ∀ (x3 x4 x5 x6 : Int) (σ : np_S) (H : Heap) (locs : List Loc) (ls : Array Slot), f_Chart_fillHoles_15  n x3 x4 x5 x6 σ = some out → np_At D np_cl A (nc_wd q cA) s σ H locs → lv_has ls 8 [(0, .ref (q 11)), (3, .int (np_i x3)), (4, .int (np_i x4)), (5, .int (np_i x5)), (6, .int (np_i x6))] → W p l e R s m args below meth c H locs 0 0 Q (F0 m 15 ls []) := by
  intro n
  induction n with
  | zero => intro x3 x4 x5 x6 σ H locs ls hf; cases hf
  | succ n ih =>
    intro x3 x4 x5 x6 σ H locs ls hf hat hl
    have h15 := ih
    have hf : f_Chart_fillHoles_15_b  (fun x3 x4 x5 x6 σ => f_Chart_fillHoles_15  n x3 x4 x5 x6 σ) x3 x4 x5 x6 σ = some out := hf
    unfold f_Chart_fillHoles_15_b at hf
    refine lv_iload C.x C.b dd_Chart_fillHoles_15 (lv_at hl 4 rfl) ?_
    refine lv_aload_n C.x C.b dd_Chart_fillHoles_17 rfl (lv_at hl 0 rfl) ?_
    refine np_get (v := .ref (q 1)) C i_Chart hat.1 11 (nc_o11 _) rfl 0 (by decide) tw_121 rfl rfl dd_Chart_fillHoles_18 ?_
    refine np_callVi (As := []) (rest := [.int (np_i x6)]) C (c_Grammar_usedDots l _) np_allgood tw_766 tw_356 tw_357 tw_2 tw_358 (nA := 0) (by decide +kernel) rfl ⟨rfl, rfl, Nat.le_of_ble_eq_true rfl, Nat.le_of_ble_eq_true rfl⟩ (va_recv C.k hat.1 (ci := 1) (q0 := 1) rfl (nc_o1 _)) hat rfl hl.1 (Nat.le_of_ble_eq_true rfl) dd_Chart_fillHoles_21 hf (fun o1 H locs hf hat => ?_)
    refine np_icmp_ge (tgt := 82) C dd_Chart_fillHoles_24 (by decide) hf (fun _ hf => ?_) (fun _ hf => ?_)
    · exact hQ _ _ _ _ dd_Chart_fillHoles_82 hf hat
    · refine lv_aload_n C.x C.b dd_Chart_fillHoles_27 rfl (lv_at hl 0 rfl) ?_
      refine np_get (v := .ref (q 1)) C i_Chart hat.1 11 (nc_o11 _) rfl 0 (by decide) tw_121 rfl rfl dd_Chart_fillHoles_28 ?_
      refine np_get (v := .ref (q 2)) C i_Grammar hat.1 1 (nc_o1 _) rfl 0 (by decide) tw_52 rfl rfl dd_Chart_fillHoles_31 ?_
      refine lv_iload C.x C.b dd_Chart_fillHoles_34 (lv_at hl 4 rfl) ?_
      refine np_iaload C hat.1 2 (nc_a2 _) 0 rfl (by decide) dd_Chart_fillHoles_36 hf (fun hf => ?_)
      refine lv_istore (lv' := [(7, .int (np_i (o1.2 2 x6))), (0, .ref (q 11)), (3, .int (np_i x3)), (4, .int (np_i x4)), (5, .int (np_i x5)), (6, .int (np_i x6))]) C.x C.b dd_Chart_fillHoles_37 hl (by decide) rfl (fun ls hl => ?_)
      refine lv_iload C.x C.b dd_Chart_fillHoles_39 (lv_at hl 0 rfl) ?_
      refine lv_iconst (v := np_i (-1)) C.x C.b dd_Chart_fillHoles_41 rfl ?_
      refine np_icmp_eq (tgt := 76) C dd_Chart_fillHoles_42 (by decide) hf (fun _ hf => ?_) (fun _ hf => ?_)
      · exact w_f_Chart_fillHoles_76 C hQ h15 _ _ _ _ _ _ _ _ hf hat (lv_sub hl [1, 2, 3, 4, 5] rfl)
      · refine lv_iload C.x C.b dd_Chart_fillHoles_45 (lv_at hl 0 rfl) ?_
        refine lv_iload_n C.x C.b dd_Chart_fillHoles_47 rfl (lv_at hl 2 rfl) ?_
        refine np_icmp_gt (tgt := 76) C dd_Chart_fillHoles_48 (by decide) hf (fun _ hf => ?_) (fun _ hf => ?_)
        · exact w_f_Chart_fillHoles_76 C hQ h15 _ _ _ _ _ _ _ _ hf hat (lv_sub hl [1, 2, 3, 4, 5] rfl)
        · refine lv_aload_n C.x C.b dd_Chart_fillHoles_51 rfl (lv_at hl 1 rfl) ?_
          refine np_get (v := .ref (q 12)) C i_Chart hat.1 11 (nc_o11 _) rfl 1 (by decide) tw_122 rfl rfl dd_Chart_fillHoles_52 ?_
          refine lv_iload C.x C.b dd_Chart_fillHoles_55 (lv_at hl 4 rfl) ?_
          refine lv_iload C.x C.b dd_Chart_fillHoles_57 (lv_at hl 5 rfl) ?_
          refine np_iadd C dd_Chart_fillHoles_59 ?_
          refine lv_iconst (v := np_i 1) C.x C.b dd_Chart_fillHoles_60 rfl ?_
          refine np_iadd C dd_Chart_fillHoles_61 ?_
          refine lv_dup2_11 C.x C.b dd_Chart_fillHoles_62 rfl rfl ?_
          refine np_iaload C hat.1 12 (nc_a12 _) 0 rfl (by decide) dd_Chart_fillHoles_63 hf (fun hf => ?_)
          refine lv_aload_n C.x C.b dd_Chart_fillHoles_64 rfl (lv_at hl 1 rfl) ?_
          refine np_get (v := .ref (q 12)) C i_Chart hat.1 11 (nc_o11 _) rfl 1 (by decide) tw_122 rfl rfl dd_Chart_fillHoles_65 ?_
          refine lv_iload C.x C.b dd_Chart_fillHoles_68 (lv_at hl 3 rfl) ?_
          refine lv_iload C.x C.b dd_Chart_fillHoles_70 (lv_at hl 5 rfl) ?_
          refine np_iadd C dd_Chart_fillHoles_72 ?_
          refine np_iaload C hat.1 12 (nc_a12 _) 0 rfl (by decide) dd_Chart_fillHoles_73 hf (fun hf => ?_)
          refine np_ior C dd_Chart_fillHoles_74 ?_
          refine np_iastore C hat 12 (nc_a12 _) 0 rfl (by decide) (nc_s12 _ _ _) dd_Chart_fillHoles_75 hf (fun H locs hat hf => ?_)
          exact w_f_Chart_fillHoles_76 C hQ h15 _ _ _ _ _ _ _ _ hf hat (lv_sub hl [1, 2, 3, 4, 5] rfl)
set_option maxHeartbeats 4000000 in
set_option maxRecDepth 100000 in
theorem w_f_Chart_fillHoles (C : np_Cx gA p R s m args c D np_cl (np_ty cA) A np_al "NotationParse$Chart" prog_2_method_9_code 8 { frames := 1, cells := 0, slots := 0, locals := 20 }) (hQ : ∀ (pc : Nat) (ls : Array Slot) (H : Heap) (locs : List Loc) {σ : np_S}, decode prog_2_method_9_code pc = .ok (.return_, 1) → some ((0 : Int), σ) = some out → np_At D np_cl A (nc_wd q cA) s σ H locs → W p l e R s m args below meth c H locs 0 0 Q (F0 m pc ls []))   : ∀ (x1 x2 x3 : Int) (σ : np_S) (H : Heap) (locs : List Loc) (ls : Array Slot), f_Chart_fillHoles  x1 x2 x3 σ = some out → np_At D np_cl A (nc_wd q cA) s σ H locs → lv_has ls 8 [(0, .ref (q 11)), (1, .int (np_i x1)), (2, .int (np_i x2)), (3, .int (np_i x3))] → W p l e R s m args below meth c H locs 0 0 Q (F0 m 0 ls []) := by
  intro x1 x2 x3 σ H locs ls hf hat hl
  unfold f_Chart_fillHoles at hf
  refine lv_iload_n C.x C.b dd_Chart_fillHoles_0 rfl (lv_at hl 1 rfl) ?_
  refine lv_bipush (v := np_i 98) C.x C.b dd_Chart_fillHoles_1 (by decide +kernel) ?_
  refine np_imul C dd_Chart_fillHoles_3 ?_
  refine lv_istore (lv' := [(4, .int (np_i (x1 * 98))), (0, .ref (q 11)), (1, .int (np_i x1)), (2, .int (np_i x2)), (3, .int (np_i x3))]) C.x C.b dd_Chart_fillHoles_4 hl (by decide) rfl (fun ls hl => ?_)
  refine lv_iload_n C.x C.b dd_Chart_fillHoles_6 rfl (lv_at hl 3 rfl) ?_
  refine lv_bipush (v := np_i 98) C.x C.b dd_Chart_fillHoles_7 (by decide +kernel) ?_
  refine np_imul C dd_Chart_fillHoles_9 ?_
  refine lv_istore (lv' := [(5, .int (np_i (x2 * 98))), (4, .int (np_i (x1 * 98))), (0, .ref (q 11)), (1, .int (np_i x1)), (2, .int (np_i x2)), (3, .int (np_i x3))]) C.x C.b dd_Chart_fillHoles_10 hl (by decide) rfl (fun ls hl => ?_)
  refine lv_iconst (v := np_i 0) C.x C.b dd_Chart_fillHoles_12 rfl ?_
  refine lv_istore (lv' := [(6, .int (np_i 0)), (5, .int (np_i (x2 * 98))), (4, .int (np_i (x1 * 98))), (0, .ref (q 11)), (1, .int (np_i x1)), (2, .int (np_i x2)), (3, .int (np_i x3))]) C.x C.b dd_Chart_fillHoles_13 hl (by decide) rfl (fun ls hl => ?_)
  exact w_f_Chart_fillHoles_15 C hQ  20000 _ _ _ _ _ _ _ _ hf hat (lv_sub hl [3, 6, 2, 1, 0] rfl)
set_option maxHeartbeats 4000000 in
set_option maxRecDepth 100000 in
theorem c_Chart_fillHoles (l : Launch) {gA : Nat → Nat} {D : va_G} {q : Nat → Nat} {cA : Nat → ClassId} (x1 x2 x3 : Int) (σ : np_S) : np_Mv gA l D np_cl (np_ty cA) (nc_wd q cA) yy_Chart_fillHoles (.code yy_Chart_fillHoles prog_2_method_9_code 8 none :: np_al) { frames := 1, cells := 0, slots := 0, locals := 20 } [.ref (q 11), .int (np_i x1), .int (np_i x2), .int (np_i x3)] σ (f_Chart_fillHoles x1 x2 x3 σ) :=
  np_mkv (by decide +kernel) (Nat.le_of_ble_eq_true rfl) (fun o p e R s m args below meth c Q A ls hf C hQ hat hl => w_f_Chart_fillHoles C hQ x1 x2 x3 σ _ _ _ hf hat (lv_sub hl [0, 1, 2, 3] rfl))
set_option maxHeartbeats 4000000 in
set_option maxRecDepth 100000 in
theorem w_f_Chart_complete_27 (C : np_Cx gA p R s m args c D np_cl (np_ty cA) A np_al "NotationParse$Chart" prog_2_method_7_code 4 { frames := 2, cells := 0, slots := 0, locals := 47 }) (hQ : ∀ (pc : Nat) (ls : Array Slot) (H : Heap) (locs : List Loc) {σ : np_S}, decode prog_2_method_7_code pc = .ok (.return_, 1) → some ((0 : Int), σ) = some out → np_At D np_cl A (nc_wd q cA) s σ H locs → W p l e R s m args below meth c H locs 0 0 Q (F0 m pc ls [])) {k4 : (Int → Int → np_S → Option np_O)} (h4 : ∀ (x1 x2 : Int) (σ : np_S) (H : Heap) (locs : List Loc) (ls : Array Slot), k4 x1 x2 σ = some out → np_At D np_cl A (nc_wd q cA) s σ H locs → lv_has ls 4 [(0, .ref (q 11)), (1, .int (np_i x1)), (2, .int (np_i x2))] → W p l e R s m args below meth c H locs 0 0 Q (F0 m 4 ls [])) : ∀ (x1 x2 : Int) (σ : np_S) (H : Heap) (locs : List Loc) (ls : Array Slot), f_Chart_complete_27 k4 x1 x2 σ = some out → np_At D np_cl A (nc_wd q cA) s σ H locs → lv_has ls 4 [(0, .ref (q 11)), (1, .int (np_i x1)), (2, .int (np_i x2))] → W p l e R s m args below meth c H locs 0 0 Q (F0 m 27 ls []) := by
  intro x1 x2 σ H locs ls hf hat hl
  unfold f_Chart_complete_27 at hf
  refine lv_iinc (v := np_i (x2 + (-1))) (lv' := [(2, .int (np_i (x2 + (-1)))), (0, .ref (q 11)), (1, .int (np_i x1))]) C.x C.b dd_Chart_complete_27 hl (k := 2) rfl (np_inc _ _) (by decide) rfl (fun ls hl => ?_)
  refine lv_goto (tgt := 4) C.x C.b dd_Chart_complete_30 (by decide) ?_
  exact h4 _ _ _ _ _ _ hf hat (lv_sub hl [1, 2, 0] rfl)
set_option maxHeartbeats 4000000 in
set_option maxRecDepth 100000 in
theorem w_f_Chart_complete_4 (C : np_Cx gA p R s m args c D np_cl (np_ty cA) A np_al "NotationParse$Chart" prog_2_method_7_code 4 { frames := 2, cells := 0, slots := 0, locals := 47 }) (hQ : ∀ (pc : Nat) (ls : Array Slot) (H : Heap) (locs : List Loc) {σ : np_S}, decode prog_2_method_7_code pc = .ok (.return_, 1) → some ((0 : Int), σ) = some out → np_At D np_cl A (nc_wd q cA) s σ H locs → W p l e R s m args below meth c H locs 0 0 Q (F0 m pc ls []))   : ∀ (n : Nat), ∀ (x1 x2 : Int) (σ : np_S) (H : Heap) (locs : List Loc) (ls : Array Slot), f_Chart_complete_4  n x1 x2 σ = some out → np_At D np_cl A (nc_wd q cA) s σ H locs → lv_has ls 4 [(0, .ref (q 11)), (1, .int (np_i x1)), (2, .int (np_i x2))] → W p l e R s m args below meth c H locs 0 0 Q (F0 m 4 ls []) := by
  intro n
  induction n with
  | zero => intro x1 x2 σ H locs ls hf; cases hf
  | succ n ih =>
    intro x1 x2 σ H locs ls hf hat hl
    have h4 := ih
    have hf : f_Chart_complete_4_b  (fun x1 x2 σ => f_Chart_complete_4  n x1 x2 σ) x1 x2 σ = some out := hf
    unfold f_Chart_complete_4_b at hf
    refine lv_iload_n C.x C.b dd_Chart_complete_4 rfl (lv_at hl 2 rfl) ?_
    refine np_if_lt (tgt := 33) C dd_Chart_complete_5 (by decide) hf (fun _ hf => ?_) (fun _ hf => ?_)
    · exact hQ _ _ _ _ dd_Chart_complete_33 hf hat
    · refine lv_aload_n C.x C.b dd_Chart_complete_8 rfl (lv_at hl 0 rfl) ?_
      refine lv_iload_n C.x C.b dd_Chart_complete_9 rfl (lv_at hl 2 rfl) ?_
      refine lv_iload_n C.x C.b dd_Chart_complete_10 rfl (lv_at hl 1 rfl) ?_
      refine np_callVi (As := [.int (np_i x2), .int (np_i x1)]) (rest := []) C (c_Chart_highestTerm l x2 x1 _) np_allgood tw_771 tw_773 tp_10 tw_5 tw_774 (nA := 2) (by decide +kernel) rfl ⟨rfl, rfl, Nat.le_of_ble_eq_true rfl, Nat.le_of_ble_eq_true rfl⟩ (va_recv C.k hat.1 (ci := 3) (q0 := 11) rfl (nc_o11 _)) hat rfl hl.1 (Nat.le_of_ble_eq_true rfl) dd_Chart_complete_11 hf (fun o1 H locs hf hat => ?_)
      refine lv_istore_n (lv' := [(3, .int (np_i o1.1)), (0, .ref (q 11)), (1, .int (np_i x1)), (2, .int (np_i x2))]) C.x C.b dd_Chart_complete_14 rfl hl (by decide) rfl (fun ls hl => ?_)
      refine lv_iload_n C.x C.b dd_Chart_complete_15 rfl (lv_at hl 0 rfl) ?_
      refine lv_iconst (v := np_i (-1)) C.x C.b dd_Chart_complete_16 rfl ?_
      refine np_icmp_eq (tgt := 27) C dd_Chart_complete_17 (by decide) hf (fun _ hf => ?_) (fun _ hf => ?_)
      · exact w_f_Chart_complete_27 C hQ h4 _ _ _ _ _ _ hf hat (lv_sub hl [1, 2, 3] rfl)
      · refine lv_aload_n C.x C.b dd_Chart_complete_20 rfl (lv_at hl 1 rfl) ?_
        refine lv_iload_n C.x C.b dd_Chart_complete_21 rfl (lv_at hl 3 rfl) ?_
        refine lv_iload_n C.x C.b dd_Chart_complete_22 rfl (lv_at hl 2 rfl) ?_
        refine lv_iload_n C.x C.b dd_Chart_complete_23 rfl (lv_at hl 0 rfl) ?_
        refine np_callVv (As := [.int (np_i x2), .int (np_i x1), .int (np_i o1.1)]) (rest := []) C (c_Chart_fillHoles l x2 x1 o1.1 _) np_allgood tw_783 tw_785 tp_12 tw_5 tw_786 (nA := 3) (by decide +kernel) rfl ⟨rfl, rfl, Nat.le_of_ble_eq_true rfl, Nat.le_of_ble_eq_true rfl⟩ (va_recv C.k hat.1 (ci := 3) (q0 := 11) rfl (nc_o11 _)) hat rfl hl.1 (Nat.le_of_ble_eq_true rfl) dd_Chart_complete_24 hf (fun o2 H locs hf hat => ?_)
        exact w_f_Chart_complete_27 C hQ h4 _ _ _ _ _ _ hf hat (lv_sub hl [1, 2, 3] rfl)
set_option maxHeartbeats 4000000 in
set_option maxRecDepth 100000 in
theorem w_f_Chart_complete (C : np_Cx gA p R s m args c D np_cl (np_ty cA) A np_al "NotationParse$Chart" prog_2_method_7_code 4 { frames := 2, cells := 0, slots := 0, locals := 47 }) (hQ : ∀ (pc : Nat) (ls : Array Slot) (H : Heap) (locs : List Loc) {σ : np_S}, decode prog_2_method_7_code pc = .ok (.return_, 1) → some ((0 : Int), σ) = some out → np_At D np_cl A (nc_wd q cA) s σ H locs → W p l e R s m args below meth c H locs 0 0 Q (F0 m pc ls []))   : ∀ (x1 : Int) (σ : np_S) (H : Heap) (locs : List Loc) (ls : Array Slot), f_Chart_complete  x1 σ = some out → np_At D np_cl A (nc_wd q cA) s σ H locs → lv_has ls 4 [(0, .ref (q 11)), (1, .int (np_i x1))] → W p l e R s m args below meth c H locs 0 0 Q (F0 m 0 ls []) := by
  intro x1 σ H locs ls hf hat hl
  unfold f_Chart_complete at hf
  refine lv_iload_n C.x C.b dd_Chart_complete_0 rfl (lv_at hl 1 rfl) ?_
  refine lv_iconst (v := np_i 1) C.x C.b dd_Chart_complete_1 rfl ?_
  refine np_isub C dd_Chart_complete_2 ?_
  refine lv_istore_n (lv' := [(2, .int (np_i (x1 - 1))), (0, .ref (q 11)), (1, .int (np_i x1))]) C.x C.b dd_Chart_complete_3 rfl hl (by decide) rfl (fun ls hl => ?_)
  exact w_f_Chart_complete_4 C hQ  20000 _ _ _ _ _ _ hf hat (lv_sub hl [1, 2, 0] rfl)
set_option maxHeartbeats 4000000 in
set_option maxRecDepth 100000 in
theorem c_Chart_complete (l : Launch) {gA : Nat → Nat} {D : va_G} {q : Nat → Nat} {cA : Nat → ClassId} (x1 : Int) (σ : np_S) : np_Mv gA l D np_cl (np_ty cA) (nc_wd q cA) yy_Chart_complete (.code yy_Chart_complete prog_2_method_7_code 4 none :: np_al) { frames := 2, cells := 0, slots := 0, locals := 47 } [.ref (q 11), .int (np_i x1)] σ (f_Chart_complete x1 σ) :=
  np_mkv (by decide +kernel) (Nat.le_of_ble_eq_true rfl) (fun o p e R s m args below meth c Q A ls hf C hQ hat hl => w_f_Chart_complete C hQ x1 σ _ _ _ hf hat (lv_sub hl [0, 1] rfl))
set_option maxHeartbeats 4000000 in
set_option maxRecDepth 100000 in
theorem w_f_Chart_leastWanted_56 (C : np_Cx gA p R s m args c D np_cl (np_ty cA) A np_al "NotationParse$Chart" prog_2_method_10_code 5 { frames := 1, cells := 0, slots := 0, locals := 20 }) (hQ : ∀ (pc : Nat) (ls : Array Slot) (H : Heap) (locs : List Loc) (v : Int) {σ : np_S}, decode prog_2_method_10_code pc = .ok (.ireturn, 1) → some (v, σ) = some out → np_At D np_cl A (nc_wd q cA) s σ H locs → W p l e R s m args below meth c H locs 0 0 Q (F0 m pc ls [.int (np_i v)])) {k5 : (Int → Int → Int → np_S → Option np_O)} (h5 : ∀ (x1 x2 x3 : Int) (σ : np_S) (H : Heap) (locs : List Loc) (ls : Array Slot), k5 x1 x2 x3 σ = some out → np_At D np_cl A (nc_wd q cA) s σ H locs → lv_has ls 5 [(0, .ref (q 11)), (1, .int (np_i x1)), (2, .int (np_i x2)), (3, .int (np_i x3))] → W p l e R s m args below meth c H locs 0 0 Q (F0 m 5 ls [])) : ∀ (x1 x2 x3 : Int) (σ : np_S) (H : Heap) (locs : List Loc) (ls : Array Slot), f_Chart_leastWanted_56 k5 x1 x2 x3 σ = some out → np_At D np_cl A (nc_wd q cA) s σ H locs → lv_has ls 5 [(0, .ref (q 11)), (1, .int (np_i x1)), (2, .int (np_i x2)), (3, .int (np_i x3))] → W p l e R s m args below meth c H locs 0 0 Q (F0 m 56 ls []) := by
  intro x1 x2 x3 σ H locs ls hf hat hl
  unfold f_Chart_leastWanted_56 at hf
  refine lv_iinc (v := np_i (x3 + 1)) (lv' := [(3, .int (np_i (x3 + 1))), (0, .ref (q 11)), (1, .int (np_i x1)), (2, .int (np_i x2))]) C.x C.b dd_Chart_leastWanted_56 hl (k := 3) rfl (np_inc _ _) (by decide) rfl (fun ls hl => ?_)
  refine lv_goto (tgt := 5) C.x C.b dd_Chart_leastWanted_59 (by decide) ?_
  exact h5 _ _ _ _ _ _ _ hf hat (lv_sub hl [1, 2, 3, 0] rfl)
set_option maxHeartbeats 4000000 in
set_option maxRecDepth 100000 in
theorem w_f_Chart_leastWanted_5 (C : np_Cx gA p R s m args c D np_cl (np_ty cA) A np_al "NotationParse$Chart" prog_2_method_10_code 5 { frames := 1, cells := 0, slots := 0, locals := 20 }) (hQ : ∀ (pc : Nat) (ls : Array Slot) (H : Heap) (locs : List Loc) (v : Int) {σ : np_S}, decode prog_2_method_10_code pc = .ok (.ireturn, 1) → some (v, σ) = some out → np_At D np_cl A (nc_wd q cA) s σ H locs → W p l e R s m args below meth c H locs 0 0 Q (F0 m pc ls [.int (np_i v)]))   : ∀ (n : Nat), ∀ (x1 x2 x3 : Int) (σ : np_S) (H : Heap) (locs : List Loc) (ls : Array Slot), f_Chart_leastWanted_5  n x1 x2 x3 σ = some out → np_At D np_cl A (nc_wd q cA) s σ H locs → lv_has ls 5 [(0, .ref (q 11)), (1, .int (np_i x1)), (2, .int (np_i x2)), (3, .int (np_i x3))] → W p l e R s m args below meth c H locs 0 0 Q (F0 m 5 ls []) := by
  intro n
  induction n with
  | zero => intro x1 x2 x3 σ H locs ls hf; cases hf
  | succ n ih =>
    intro x1 x2 x3 σ H locs ls hf hat hl
    have h5 := ih
    have hf : f_Chart_leastWanted_5_b  (fun x1 x2 x3 σ => f_Chart_leastWanted_5  n x1 x2 x3 σ) x1 x2 x3 σ = some out := hf
    unfold f_Chart_leastWanted_5_b at hf
    refine lv_iload_n C.x C.b dd_Chart_leastWanted_5 rfl (lv_at hl 3 rfl) ?_
    refine lv_aload_n C.x C.b dd_Chart_leastWanted_6 rfl (lv_at hl 0 rfl) ?_
    refine np_get (v := .ref (q 1)) C i_Chart hat.1 11 (nc_o11 _) rfl 0 (by decide) tw_121 rfl rfl dd_Chart_leastWanted_7 ?_
    refine np_callVi (As := []) (rest := [.int (np_i x3)]) C (c_Grammar_usedDots l _) np_allgood tw_766 tw_356 tw_357 tw_2 tw_358 (nA := 0) (by decide +kernel) rfl ⟨rfl, rfl, Nat.le_of_ble_eq_true rfl, Nat.le_of_ble_eq_true rfl⟩ (va_recv C.k hat.1 (ci := 1) (q0 := 1) rfl (nc_o1 _)) hat rfl hl.1 (Nat.le_of_ble_eq_true rfl) dd_Chart_leastWanted_10 hf (fun o1 H locs hf hat => ?_)
    refine np_icmp_ge (tgt := 62) C dd_Chart_leastWanted_13 (by decide) hf (fun _ hf => ?_) (fun _ hf => ?_)
    · refine lv_iload_n C.x C.b dd_Chart_leastWanted_62 rfl (lv_at hl 2 rfl) ?_
      exact hQ _ _ _ _ _ dd_Chart_leastWanted_63 hf hat
    · refine lv_aload_n C.x C.b dd_Chart_leastWanted_16 rfl (lv_at hl 0 rfl) ?_
      refine np_get (v := .ref (q 1)) C i_Chart hat.1 11 (nc_o11 _) rfl 0 (by decide) tw_121 rfl rfl dd_Chart_leastWanted_17 ?_
      refine np_get (v := .ref (q 2)) C i_Grammar hat.1 1 (nc_o1 _) rfl 0 (by decide) tw_52 rfl rfl dd_Chart_leastWanted_20 ?_
      refine lv_iload_n C.x C.b dd_Chart_leastWanted_23 rfl (lv_at hl 3 rfl) ?_
      refine np_iaload C hat.1 2 (nc_a2 _) 0 rfl (by decide) dd_Chart_leastWanted_24 hf (fun hf => ?_)
      refine lv_istore (lv' := [(4, .int (np_i (o1.2 2 x3))), (0, .ref (q 11)), (1, .int (np_i x1)), (2, .int (np_i x2)), (3, .int (np_i x3))]) C.x C.b dd_Chart_leastWanted_25 hl (by decide) rfl (fun ls hl => ?_)
      refine lv_iload C.x C.b dd_Chart_leastWanted_27 (lv_at hl 0 rfl) ?_
      refine lv_iconst (v := np_i (-1)) C.x C.b dd_Chart_leastWanted_29 rfl ?_
      refine np_icmp_eq (tgt := 56) C dd_Chart_leastWanted_30 (by decide) hf (fun _ hf => ?_) (fun _ hf => ?_)
      · exact w_f_Chart_leastWanted_56 C hQ h5 _ _ _ _ _ _ _ hf hat (lv_sub hl [1, 2, 3, 4] rfl)
      · refine lv_iload C.x C.b dd_Chart_leastWanted_33 (lv_at hl 0 rfl) ?_
        refine lv_iload_n C.x C.b dd_Chart_leastWanted_35 rfl (lv_at hl 3 rfl) ?_
        refine np_icmp_ge (tgt := 56) C dd_Chart_leastWanted_36 (by decide) hf (fun _ hf => ?_) (fun _ hf => ?_)
        · exact w_f_Chart_leastWanted_56 C hQ h5 _ _ _ _ _ _ _ hf hat (lv_sub hl [1, 2, 3, 4] rfl)
        · refine lv_aload_n C.x C.b dd_Chart_leastWanted_39 rfl (lv_at hl 1 rfl) ?_
          refine np_get (v := .ref (q 12)) C i_Chart hat.1 11 (nc_o11 _) rfl 1 (by decide) tw_122 rfl rfl dd_Chart_leastWanted_40 ?_
          refine lv_iload_n C.x C.b dd_Chart_leastWanted_43 rfl (lv_at hl 2 rfl) ?_
          refine lv_bipush (v := np_i 98) C.x C.b dd_Chart_leastWanted_44 (by decide +kernel) ?_
          refine np_imul C dd_Chart_leastWanted_46 ?_
          refine lv_iload_n C.x C.b dd_Chart_leastWanted_47 rfl (lv_at hl 4 rfl) ?_
          refine np_iadd C dd_Chart_leastWanted_48 ?_
          refine np_iaload C hat.1 12 (nc_a12 _) 0 rfl (by decide) dd_Chart_leastWanted_49 hf (fun hf => ?_)
          refine np_if_eq (tgt := 56) C dd_Chart_leastWanted_50 (by decide) hf (fun _ hf => ?_) (fun _ hf => ?_)
          · exact w_f_Chart_leastWanted_56 C hQ h5 _ _ _ _ _ _ _ hf hat (lv_sub hl [1, 2, 3, 4] rfl)
          · refine lv_iload C.x C.b dd_Chart_leastWanted_53 (lv_at hl 0 rfl) ?_
            refine lv_istore_n (lv' := [(2, .int (np_i (o1.2 2 x3))), (4, .int (np_i (o1.2 2 x3))), (0, .ref (q 11)), (1, .int (np_i x1)), (3, .int (np_i x3))]) C.x C.b dd_Chart_leastWanted_55 rfl hl (by decide) rfl (fun ls hl => ?_)
            exact w_f_Chart_leastWanted_56 C hQ h5 _ _ _ _ _ _ _ hf hat (lv_sub hl [2, 3, 0, 4] rfl)
set_option maxHeartbeats 4000000 in
set_option maxRecDepth 100000 in
theorem w_f_Chart_leastWanted (C : np_Cx gA p R s m args c D np_cl (np_ty cA) A np_al "NotationParse$Chart" prog_2_method_10_code 5 { frames := 1, cells := 0, slots := 0, locals := 20 }) (hQ : ∀ (pc : Nat) (ls : Array Slot) (H : Heap) (locs : List Loc) (v : Int) {σ : np_S}, decode prog_2_method_10_code pc = .ok (.ireturn, 1) → some (v, σ) = some out → np_At D np_cl A (nc_wd q cA) s σ H locs → W p l e R s m args below meth c H locs 0 0 Q (F0 m pc ls [.int (np_i v)]))   : ∀ (x1 : Int) (σ : np_S) (H : Heap) (locs : List Loc) (ls : Array Slot), f_Chart_leastWanted  x1 σ = some out → np_At D np_cl A (nc_wd q cA) s σ H locs → lv_has ls 5 [(0, .ref (q 11)), (1, .int (np_i x1))] → W p l e R s m args below meth c H locs 0 0 Q (F0 m 0 ls []) := by
  intro x1 σ H locs ls hf hat hl
  unfold f_Chart_leastWanted at hf
  refine lv_bipush (v := np_i 11) C.x C.b dd_Chart_leastWanted_0 (by decide +kernel) ?_
  refine lv_istore_n (lv' := [(2, .int (np_i 11)), (0, .ref (q 11)), (1, .int (np_i x1))]) C.x C.b dd_Chart_leastWanted_2 rfl hl (by decide) rfl (fun ls hl => ?_)
  refine lv_iconst (v := np_i 0) C.x C.b dd_Chart_leastWanted_3 rfl ?_
  refine lv_istore_n (lv' := [(3, .int (np_i 0)), (2, .int (np_i 11)), (0, .ref (q 11)), (1, .int (np_i x1))]) C.x C.b dd_Chart_leastWanted_4 rfl hl (by decide) rfl (fun ls hl => ?_)
  exact w_f_Chart_leastWanted_5 C hQ  20000 _ _ _ _ _ _ _ hf hat (lv_sub hl [2, 3, 1, 0] rfl)
set_option maxHeartbeats 4000000 in
set_option maxRecDepth 100000 in
theorem c_Chart_leastWanted (l : Launch) {gA : Nat → Nat} {D : va_G} {q : Nat → Nat} {cA : Nat → ClassId} (x1 : Int) (σ : np_S) : np_Mi gA l D np_cl (np_ty cA) (nc_wd q cA) yy_Chart_leastWanted (.code yy_Chart_leastWanted prog_2_method_10_code 5 (some .int) :: np_al) { frames := 1, cells := 0, slots := 0, locals := 20 } [.ref (q 11), .int (np_i x1)] σ (f_Chart_leastWanted x1 σ) :=
  np_mki (by decide +kernel) (Nat.le_of_ble_eq_true rfl) (fun o p e R s m args below meth c Q A ls hf C hQ hat hl => w_f_Chart_leastWanted C hQ x1 σ _ _ _ hf hat (lv_sub hl [0, 1] rfl))
set_option maxHeartbeats 4000000 in
set_option maxRecDepth 100000 in
theorem w_f_Chart_leastFirstHole_57 (C : np_Cx gA p R s m args c D np_cl (np_ty cA) A np_al "NotationParse$Chart" prog_2_method_12_code 5 { frames := 0, cells := 0, slots := 0, locals := 0 }) (hQ : ∀ (pc : Nat) (ls : Array Slot) (H : Heap) (locs : List Loc) (v : Int) {σ : np_S}, decode prog_2_method_12_code pc = .ok (.ireturn, 1) → some (v, σ) = some out → np_At D np_cl A (nc_wd q cA) s σ H locs → W p l e R s m args below meth c H locs 0 0 Q (F0 m pc ls [.int (np_i v)])) {k4 : (Int → Int → Int → np_S → Option np_O)} (h4 : ∀ (x1 x2 x3 : Int) (σ : np_S) (H : Heap) (locs : List Loc) (ls : Array Slot), k4 x1 x2 x3 σ = some out → np_At D np_cl A (nc_wd q cA) s σ H locs → lv_has ls 5 [(0, .ref (q 11)), (1, .int (np_i x1)), (2, .int (np_i x2)), (3, .int (np_i x3))] → W p l e R s m args below meth c H locs 0 0 Q (F0 m 4 ls [])) : ∀ (x1 x2 x3 : Int) (σ : np_S) (H : Heap) (locs : List Loc) (ls : Array Slot), f_Chart_leastFirstHole_57 k4 x1 x2 x3 σ = some out → np_At D np_cl A (nc_wd q cA) s σ H locs → lv_has ls 5 [(0, .ref (q 11)), (1, .int (np_i x1)), (2, .int (np_i x2)), (3, .int (np_i x3))] → W p l e R s m args below meth c H locs 0 0 Q (F0 m 57 ls []) := by
  intro x1 x2 x3 σ H locs ls hf hat hl
  unfold f_Chart_leastFirstHole_57 at hf
  refine lv_iinc (v := np_i (x3 + 1)) (lv' := [(3, .int (np_i (x3 + 1))), (0, .ref (q 11)), (1, .int (np_i x1)), (2, .int (np_i x2))]) C.x C.b dd_Chart_leastFirstHole_57 hl (k := 3) rfl (np_inc _ _) (by decide) rfl (fun ls hl => ?_)
  refine lv_goto (tgt := 4) C.x C.b dd_Chart_leastFirstHole_60 (by decide) ?_
  exact h4 _ _ _ _ _ _ _ hf hat (lv_sub hl [1, 2, 3, 0] rfl)
set_option maxHeartbeats 4000000 in
set_option maxRecDepth 100000 in
theorem w_f_Chart_leastFirstHole_4 (C : np_Cx gA p R s m args c D np_cl (np_ty cA) A np_al "NotationParse$Chart" prog_2_method_12_code 5 { frames := 0, cells := 0, slots := 0, locals := 0 }) (hQ : ∀ (pc : Nat) (ls : Array Slot) (H : Heap) (locs : List Loc) (v : Int) {σ : np_S}, decode prog_2_method_12_code pc = .ok (.ireturn, 1) → some (v, σ) = some out → np_At D np_cl A (nc_wd q cA) s σ H locs → W p l e R s m args below meth c H locs 0 0 Q (F0 m pc ls [.int (np_i v)]))   : ∀ (n : Nat), ∀ (x1 x2 x3 : Int) (σ : np_S) (H : Heap) (locs : List Loc) (ls : Array Slot), f_Chart_leastFirstHole_4  n x1 x2 x3 σ = some out → np_At D np_cl A (nc_wd q cA) s σ H locs → lv_has ls 5 [(0, .ref (q 11)), (1, .int (np_i x1)), (2, .int (np_i x2)), (3, .int (np_i x3))] → W p l e R s m args below meth c H locs 0 0 Q (F0 m 4 ls []) := by
  intro n
  induction n with
  | zero => intro x1 x2 x3 σ H locs ls hf; cases hf
  | succ n ih =>
    intro x1 x2 x3 σ H locs ls hf hat hl
    have h4 := ih
    have hf : f_Chart_leastFirstHole_4_b  (fun x1 x2 x3 σ => f_Chart_leastFirstHole_4  n x1 x2 x3 σ) x1 x2 x3 σ = some out := hf
    unfold f_Chart_leastFirstHole_4_b at hf
    refine lv_iload_n C.x C.b dd_Chart_leastFirstHole_4 rfl (lv_at hl 3 rfl) ?_
    refine lv_aload_n C.x C.b dd_Chart_leastFirstHole_5 rfl (lv_at hl 0 rfl) ?_
    refine np_get (v := .ref (q 1)) C i_Chart hat.1 11 (nc_o11 _) rfl 0 (by decide) tw_121 rfl rfl dd_Chart_leastFirstHole_6 ?_
    refine np_get (v := .int (np_i (σ 1 4))) C i_Grammar hat.1 1 (nc_o1 _) rfl 4 (by decide) tw_61 rfl rfl dd_Chart_leastFirstHole_9 ?_
    refine np_icmp_ge (tgt := 63) C dd_Chart_leastFirstHole_12 (by decide) hf (fun _ hf => ?_) (fun _ hf => ?_)
    · refine lv_iload_n C.x C.b dd_Chart_leastFirstHole_63 rfl (lv_at hl 2 rfl) ?_
      exact hQ _ _ _ _ _ dd_Chart_leastFirstHole_64 hf hat
    · refine lv_aload_n C.x C.b dd_Chart_leastFirstHole_15 rfl (lv_at hl 0 rfl) ?_
      refine np_get (v := .ref (q 1)) C i_Chart hat.1 11 (nc_o11 _) rfl 0 (by decide) tw_121 rfl rfl dd_Chart_leastFirstHole_16 ?_
      refine np_get (v := .ref (q 2)) C i_Grammar hat.1 1 (nc_o1 _) rfl 0 (by decide) tw_52 rfl rfl dd_Chart_leastFirstHole_19 ?_
      refine lv_iload_n C.x C.b dd_Chart_leastFirstHole_22 rfl (lv_at hl 3 rfl) ?_
      refine lv_bipush (v := np_i 7) C.x C.b dd_Chart_leastFirstHole_23 (by decide +kernel) ?_
      refine np_imul C dd_Chart_leastFirstHole_25 ?_
      refine np_iaload C hat.1 2 (nc_a2 _) 0 rfl (by decide) dd_Chart_leastFirstHole_26 hf (fun hf => ?_)
      refine lv_istore (lv' := [(4, .int (np_i (σ 2 (x3 * 7)))), (0, .ref (q 11)), (1, .int (np_i x1)), (2, .int (np_i x2)), (3, .int (np_i x3))]) C.x C.b dd_Chart_leastFirstHole_27 hl (by decide) rfl (fun ls hl => ?_)
      refine lv_aload_n C.x C.b dd_Chart_leastFirstHole_29 rfl (lv_at hl 1 rfl) ?_
      refine np_get (v := .ref (q 1)) C i_Chart hat.1 11 (nc_o11 _) rfl 0 (by decide) tw_121 rfl rfl dd_Chart_leastFirstHole_30 ?_
      refine np_get (v := .ref (q 4)) C i_Grammar hat.1 1 (nc_o1 _) rfl 2 (by decide) tw_56 rfl rfl dd_Chart_leastFirstHole_33 ?_
      refine lv_iload_n C.x C.b dd_Chart_leastFirstHole_36 rfl (lv_at hl 4 rfl) ?_
      refine np_iaload C hat.1 4 (nc_a4 _) 0 rfl (by decide) dd_Chart_leastFirstHole_37 hf (fun hf => ?_)
      refine lv_iload_n C.x C.b dd_Chart_leastFirstHole_38 rfl (lv_at hl 2 rfl) ?_
      refine np_icmp_lt (tgt := 57) C dd_Chart_leastFirstHole_39 (by decide) hf (fun _ hf => ?_) (fun _ hf => ?_)
      · exact w_f_Chart_leastFirstHole_57 C hQ h4 _ _ _ _ _ _ _ hf hat (lv_sub hl [1, 2, 3, 4] rfl)
      · refine lv_iload C.x C.b dd_Chart_leastFirstHole_42 (lv_at hl 0 rfl) ?_
        refine lv_iconst (v := np_i (-1)) C.x C.b dd_Chart_leastFirstHole_44 rfl ?_
        refine np_icmp_eq (tgt := 57) C dd_Chart_leastFirstHole_45 (by decide) hf (fun _ hf => ?_) (fun _ hf => ?_)
        · exact w_f_Chart_leastFirstHole_57 C hQ h4 _ _ _ _ _ _ _ hf hat (lv_sub hl [1, 2, 3, 4] rfl)
        · refine lv_iload C.x C.b dd_Chart_leastFirstHole_48 (lv_at hl 0 rfl) ?_
          refine lv_iload_n C.x C.b dd_Chart_leastFirstHole_50 rfl (lv_at hl 3 rfl) ?_
          refine np_icmp_ge (tgt := 57) C dd_Chart_leastFirstHole_51 (by decide) hf (fun _ hf => ?_) (fun _ hf => ?_)
          · exact w_f_Chart_leastFirstHole_57 C hQ h4 _ _ _ _ _ _ _ hf hat (lv_sub hl [1, 2, 3, 4] rfl)
          · refine lv_iload C.x C.b dd_Chart_leastFirstHole_54 (lv_at hl 0 rfl) ?_
            refine lv_istore_n (lv' := [(2, .int (np_i (σ 2 (x3 * 7)))), (4, .int (np_i (σ 2 (x3 * 7)))), (0, .ref (q 11)), (1, .int (np_i x1)), (3, .int (np_i x3))]) C.x C.b dd_Chart_leastFirstHole_56 rfl hl (by decide) rfl (fun ls hl => ?_)
            exact w_f_Chart_leastFirstHole_57 C hQ h4 _ _ _ _ _ _ _ hf hat (lv_sub hl [2, 3, 0, 4] rfl)
set_option maxHeartbeats 4000000 in
set_option maxRecDepth 100000 in
theorem w_f_Chart_leastFirstHole (C : np_Cx gA p R s m args c D np_cl (np_ty cA) A np_al "NotationParse$Chart" prog_2_method_12_code 5 { frames := 0, cells := 0, slots := 0, locals := 0 }) (hQ : ∀ (pc : Nat) (ls : Array Slot) (H : Heap) (locs : List Loc) (v : Int) {σ : np_S}, decode prog_2_method_12_code pc = .ok (.ireturn, 1) → some (v, σ) = some out → np_At D np_cl A (nc_wd q cA) s σ H locs → W p l e R s m args below meth c H locs 0 0 Q (F0 m pc ls [.int (np_i v)]))   : ∀ (x1 : Int) (σ : np_S) (H : Heap) (locs : List Loc) (ls : Array Slot), f_Chart_leastFirstHole  x1 σ = some out → np_At D np_cl A (nc_wd q cA) s σ H locs → lv_has ls 5 [(0, .ref (q 11)), (1, .int (np_i x1))] → W p l e R s m args below meth c H locs 0 0 Q (F0 m 0 ls []) := by
  intro x1 σ H locs ls hf hat hl
  unfold f_Chart_leastFirstHole at hf
  refine lv_iload_n C.x C.b dd_Chart_leastFirstHole_0 rfl (lv_at hl 1 rfl) ?_
  refine lv_istore_n (lv' := [(2, .int (np_i x1)), (0, .ref (q 11)), (1, .int (np_i x1))]) C.x C.b dd_Chart_leastFirstHole_1 rfl hl (by decide) rfl (fun ls hl => ?_)
  refine lv_iconst (v := np_i 2) C.x C.b dd_Chart_leastFirstHole_2 rfl ?_
  refine lv_istore_n (lv' := [(3, .int (np_i 2)), (2, .int (np_i x1)), (0, .ref (q 11)), (1, .int (np_i x1))]) C.x C.b dd_Chart_leastFirstHole_3 rfl hl (by decide) rfl (fun ls hl => ?_)
  exact w_f_Chart_leastFirstHole_4 C hQ  20000 _ _ _ _ _ _ _ hf hat (lv_sub hl [2, 3, 1, 0] rfl)
set_option maxHeartbeats 4000000 in
set_option maxRecDepth 100000 in
theorem c_Chart_leastFirstHole (l : Launch) {gA : Nat → Nat} {D : va_G} {q : Nat → Nat} {cA : Nat → ClassId} (x1 : Int) (σ : np_S) : np_Mi gA l D np_cl (np_ty cA) (nc_wd q cA) yy_Chart_leastFirstHole (.code yy_Chart_leastFirstHole prog_2_method_12_code 5 (some .int) :: np_al) { frames := 0, cells := 0, slots := 0, locals := 0 } [.ref (q 11), .int (np_i x1)] σ (f_Chart_leastFirstHole x1 σ) :=
  np_mki (by decide +kernel) (Nat.le_of_ble_eq_true rfl) (fun o p e R s m args below meth c Q A ls hf C hQ hat hl => w_f_Chart_leastFirstHole C hQ x1 σ _ _ _ hf hat (lv_sub hl [0, 1] rfl))
set_option maxHeartbeats 4000000 in
set_option maxRecDepth 100000 in
theorem w_f_Chart_predict_96 (C : np_Cx gA p R s m args c D np_cl (np_ty cA) A np_al "NotationParse$Chart" prog_2_method_11_code 7 { frames := 1, cells := 0, slots := 0, locals := 24 }) (hQ : ∀ (pc : Nat) (ls : Array Slot) (H : Heap) (locs : List Loc) {σ : np_S}, decode prog_2_method_11_code pc = .ok (.return_, 1) → some ((0 : Int), σ) = some out → np_At D np_cl A (nc_wd q cA) s σ H locs → W p l e R s m args below meth c H locs 0 0 Q (F0 m pc ls [])) {k52 : (Int → Int → Int → np_S → Option np_O)} (h52 : ∀ (x1 x3 x5 : Int) (σ : np_S) (H : Heap) (locs : List Loc) (ls : Array Slot), k52 x1 x3 x5 σ = some out → np_At D np_cl A (nc_wd q cA) s σ H locs → lv_has ls 7 [(0, .ref (q 11)), (1, .int (np_i x1)), (3, .int (np_i x3)), (5, .int (np_i x5))] → W p l e R s m args below meth c H locs 0 0 Q (F0 m 52 ls [])) : ∀ (x1 x3 x5 : Int) (σ : np_S) (H : Heap) (locs : List Loc) (ls : Array Slot), f_Chart_predict_96 k52 x1 x3 x5 σ = some out → np_At D np_cl A (nc_wd q cA) s σ H locs → lv_has ls 7 [(0, .ref (q 11)), (1, .int (np_i x1)), (3, .int (np_i x3)), (5, .int (np_i x5))] → W p l e R s m args below meth c H locs 0 0 Q (F0 m 96 ls []) := by
  intro x1 x3 x5 σ H locs ls hf hat hl
  unfold f_Chart_predict_96 at hf
  refine lv_iinc (v := np_i (x5 + 1)) (lv' := [(5, .int (np_i (x5 + 1))), (0, .ref (q 11)), (1, .int (np_i x1)), (3, .int (np_i x3))]) C.x C.b dd_Chart_predict_96 hl (k := 3) rfl (np_inc _ _) (by decide) rfl (fun ls hl => ?_)
  refine lv_goto (tgt := 52) C.x C.b dd_Chart_predict_99 (by decide) ?_
  exact h52 _ _ _ _ _ _ _ hf hat (lv_sub hl [1, 2, 3, 0] rfl)
set_option maxHeartbeats 4000000 in
set_option maxRecDepth 100000 in
theorem w_f_Chart_predict_52 (C : np_Cx gA p R s m args c D np_cl (np_ty cA) A np_al "NotationParse$Chart" prog_2_method_11_code 7 { frames := 1, cells := 0, slots := 0, locals := 24 }) (hQ : ∀ (pc : Nat) (ls : Array Slot) (H : Heap) (locs : List Loc) {σ : np_S}, decode prog_2_method_11_code pc = .ok (.return_, 1) → some ((0 : Int), σ) = some out → np_At D np_cl A (nc_wd q cA) s σ H locs → W p l e R s m args below meth c H locs 0 0 Q (F0 m pc ls []))   : ∀ (n : Nat), ∀ (x1 x3 x5 : Int) (σ : np_S) (H : Heap) (locs : List Loc) (ls : Array Slot), f_Chart_predict_52  n x1 x3 x5 σ = some out → np_At D np_cl A (nc_wd q cA) s σ H locs → lv_has ls 7 [(0, .ref (q 11)), (1, .int (np_i x1)), (3, .int (np_i x3)), (5, .int (np_i x5))] → W p l e R s m args below meth c H locs 0 0 Q (F0 m 52 ls []) := by
  intro n
  induction n with
  | zero => intro x1 x3 x5 σ H locs ls hf; cases hf
  | succ n ih =>
    intro x1 x3 x5 σ H locs ls hf hat hl
    have h52 := ih
    have hf : f_Chart_predict_52_b  (fun x1 x3 x5 σ => f_Chart_predict_52  n x1 x3 x5 σ) x1 x3 x5 σ = some out := hf
    unfold f_Chart_predict_52_b at hf
    refine lv_iload C.x C.b dd_Chart_predict_52 (lv_at hl 3 rfl) ?_
    refine lv_aload_n C.x C.b dd_Chart_predict_54 rfl (lv_at hl 0 rfl) ?_
    refine np_get (v := .ref (q 1)) C i_Chart hat.1 11 (nc_o11 _) rfl 0 (by decide) tw_121 rfl rfl dd_Chart_predict_55 ?_
    refine np_get (v := .int (np_i (σ 1 4))) C i_Grammar hat.1 1 (nc_o1 _) rfl 4 (by decide) tw_61 rfl rfl dd_Chart_predict_58 ?_
    refine np_icmp_ge (tgt := 102) C dd_Chart_predict_61 (by decide) hf (fun _ hf => ?_) (fun _ hf => ?_)
    · exact hQ _ _ _ _ dd_Chart_predict_102 hf hat
    · refine lv_aload_n C.x C.b dd_Chart_predict_64 rfl (lv_at hl 0 rfl) ?_
      refine np_get (v := .ref (q 1)) C i_Chart hat.1 11 (nc_o11 _) rfl 0 (by decide) tw_121 rfl rfl dd_Chart_predict_65 ?_
      refine np_get (v := .ref (q 4)) C i_Grammar hat.1 1 (nc_o1 _) rfl 2 (by decide) tw_56 rfl rfl dd_Chart_predict_68 ?_
      refine lv_iload C.x C.b dd_Chart_predict_71 (lv_at hl 3 rfl) ?_
      refine np_iaload C hat.1 4 (nc_a4 _) 0 rfl (by decide) dd_Chart_predict_73 hf (fun hf => ?_)
      refine lv_iload_n C.x C.b dd_Chart_predict_74 rfl (lv_at hl 2 rfl) ?_
      refine np_icmp_lt (tgt := 96) C dd_Chart_predict_75 (by decide) hf (fun _ hf => ?_) (fun _ hf => ?_)
      · exact w_f_Chart_predict_96 C hQ h52 _ _ _ _ _ _ _ hf hat (lv_sub hl [0, 1, 2, 3] rfl)
      · refine lv_aload_n C.x C.b dd_Chart_predict_78 rfl (lv_at hl 0 rfl) ?_
        refine np_get (v := .ref (q 12)) C i_Chart hat.1 11 (nc_o11 _) rfl 1 (by decide) tw_122 rfl rfl dd_Chart_predict_79 ?_
        refine lv_iload_n C.x C.b dd_Chart_predict_82 rfl (lv_at hl 1 rfl) ?_
        refine lv_bipush (v := np_i 98) C.x C.b dd_Chart_predict_83 (by decide +kernel) ?_
        refine np_imul C dd_Chart_predict_85 ?_
        refine lv_iload C.x C.b dd_Chart_predict_86 (lv_at hl 3 rfl) ?_
        refine lv_bipush (v := np_i 7) C.x C.b dd_Chart_predict_88 (by decide +kernel) ?_
        refine np_imul C dd_Chart_predict_90 ?_
        refine np_iadd C dd_Chart_predict_91 ?_
        refine lv_iconst (v := np_i 1) C.x C.b dd_Chart_predict_92 rfl ?_
        refine lv_iload_n C.x C.b dd_Chart_predict_93 rfl (lv_at hl 1 rfl) ?_
        refine np_ishl C dd_Chart_predict_94 ?_
        refine np_iastore C hat 12 (nc_a12 _) 0 rfl (by decide) (nc_s12 _ _ _) dd_Chart_predict_95 hf (fun H locs hat hf => ?_)
        exact w_f_Chart_predict_96 C hQ h52 _ _ _ _ _ _ _ hf hat (lv_sub hl [0, 1, 2, 3] rfl)
set_option maxHeartbeats 4000000 in
set_option maxRecDepth 100000 in
theorem w_f_Chart_predict_49 (C : np_Cx gA p R s m args c D np_cl (np_ty cA) A np_al "NotationParse$Chart" prog_2_method_11_code 7 { frames := 1, cells := 0, slots := 0, locals := 24 }) (hQ : ∀ (pc : Nat) (ls : Array Slot) (H : Heap) (locs : List Loc) {σ : np_S}, decode prog_2_method_11_code pc = .ok (.return_, 1) → some ((0 : Int), σ) = some out → np_At D np_cl A (nc_wd q cA) s σ H locs → W p l e R s m args below meth c H locs 0 0 Q (F0 m pc ls []))   : ∀ (x1 x3 : Int) (σ : np_S) (H : Heap) (locs : List Loc) (ls : Array Slot), f_Chart_predict_49  x1 x3 σ = some out → np_At D np_cl A (nc_wd q cA) s σ H locs → lv_has ls 7 [(0, .ref (q 11)), (1, .int (np_i x1)), (3, .int (np_i x3))] → W p l e R s m args below meth c H locs 0 0 Q (F0 m 49 ls []) := by
  intro x1 x3 σ H locs ls hf hat hl
  unfold f_Chart_predict_49 at hf
  refine lv_iconst (v := np_i 0) C.x C.b dd_Chart_predict_49 rfl ?_
  refine lv_istore (lv' := [(5, .int (np_i 0)), (0, .ref (q 11)), (1, .int (np_i x1)), (3, .int (np_i x3))]) C.x C.b dd_Chart_predict_50 hl (by decide) rfl (fun ls hl => ?_)
  exact w_f_Chart_predict_52 C hQ  20000 _ _ _ _ _ _ _ hf hat (lv_sub hl [1, 2, 3, 0] rfl)
set_option maxHeartbeats 4000000 in
set_option maxRecDepth 100000 in
theorem w_f_Chart_predict_41 (C : np_Cx gA p R s m args c D np_cl (np_ty cA) A np_al "NotationParse$Chart" prog_2_method_11_code 7 { frames := 1, cells := 0, slots := 0, locals := 24 }) (hQ : ∀ (pc : Nat) (ls : Array Slot) (H : Heap) (locs : List Loc) {σ : np_S}, decode prog_2_method_11_code pc = .ok (.return_, 1) → some ((0 : Int), σ) = some out → np_At D np_cl A (nc_wd q cA) s σ H locs → W p l e R s m args below meth c H locs 0 0 Q (F0 m pc ls [])) {k8 : (Int → Int → Int → Int → np_S → Option np_O)} (h8 : ∀ (x1 x3 x4 x5 : Int) (σ : np_S) (H : Heap) (locs : List Loc) (ls : Array Slot), k8 x1 x3 x4 x5 σ = some out → np_At D np_cl A (nc_wd q cA) s σ H locs → lv_has ls 7 [(0, .ref (q 11)), (1, .int (np_i x1)), (3, .int (np_i x3)), (4, .int (np_i x4)), (5, .int (np_i x5))] → W p l e R s m args below meth c H locs 0 0 Q (F0 m 8 ls [])) : ∀ (x1 x3 x5 t0 : Int) (σ : np_S) (H : Heap) (locs : List Loc) (ls : Array Slot), f_Chart_predict_41 k8 x1 x3 x5 t0 σ = some out → np_At D np_cl A (nc_wd q cA) s σ H locs → lv_has ls 7 [(0, .ref (q 11)), (1, .int (np_i x1)), (3, .int (np_i x3)), (5, .int (np_i x5))] → W p l e R s m args below meth c H locs 0 0 Q (F0 m 41 ls [.int (np_i t0)]) := by
  intro x1 x3 x5 t0 σ H locs ls hf hat hl
  unfold f_Chart_predict_41 at hf
  refine lv_istore (lv' := [(4, .int (np_i t0)), (0, .ref (q 11)), (1, .int (np_i x1)), (3, .int (np_i x3)), (5, .int (np_i x5))]) C.x C.b dd_Chart_predict_41 hl (by decide) rfl (fun ls hl => ?_)
  refine lv_iinc (v := np_i (x5 + 1)) (lv' := [(5, .int (np_i (x5 + 1))), (4, .int (np_i t0)), (0, .ref (q 11)), (1, .int (np_i x1)), (3, .int (np_i x3))]) C.x C.b dd_Chart_predict_43 hl (k := 4) rfl (np_inc _ _) (by decide) rfl (fun ls hl => ?_)
  refine lv_goto (tgt := 8) C.x C.b dd_Chart_predict_46 (by decide) ?_
  exact h8 _ _ _ _ _ _ _ _ hf hat (lv_sub hl [2, 3, 4, 1, 0] rfl)
set_option maxHeartbeats 4000000 in
set_option maxRecDepth 100000 in
theorem w_f_Chart_predict_8 (C : np_Cx gA p R s m args c D np_cl (np_ty cA) A np_al "NotationParse$Chart" prog_2_method_11_code 7 { frames := 1, cells := 0, slots := 0, locals := 24 }) (hQ : ∀ (pc : Nat) (ls : Array Slot) (H : Heap) (locs : List Loc) {σ : np_S}, decode prog_2_method_11_code pc = .ok (.return_, 1) → some ((0 : Int), σ) = some out → np_At D np_cl A (nc_wd q cA) s σ H locs → W p l e R s m args below meth c H locs 0 0 Q (F0 m pc ls []))   : ∀ (n : Nat), ∀ (x1 x3 x4 x5 : Int) (σ : np_S) (H : Heap) (locs : List Loc) (ls : Array Slot), f_Chart_predict_8  n x1 x3 x4 x5 σ = some out → np_At D np_cl A (nc_wd q cA) s σ H locs → lv_has ls 7 [(0, .ref (q 11)), (1, .int (np_i x1)), (3, .int (np_i x3)), (4, .int (np_i x4)), (5, .int (np_i x5))] → W p l e R s m args below meth c H locs 0 0 Q (F0 m 8 ls []) := by
  intro n
  induction n with
  | zero => intro x1 x3 x4 x5 σ H locs ls hf; cases hf
  | succ n ih =>
    intro x1 x3 x4 x5 σ H locs ls hf hat hl
    have h8 := ih
    have hf : f_Chart_predict_8_b  (fun x1 x3 x4 x5 σ => f_Chart_predict_8  n x1 x3 x4 x5 σ) x1 x3 x4 x5 σ = some out := hf
    unfold f_Chart_predict_8_b at hf
    refine lv_iload C.x C.b dd_Chart_predict_8 (lv_at hl 4 rfl) ?_
    refine lv_bipush (v := np_i 10) C.x C.b dd_Chart_predict_10 (by decide +kernel) ?_
    refine np_icmp_gt (tgt := 49) C dd_Chart_predict_12 (by decide) hf (fun _ hf => ?_) (fun _ hf => ?_)
    · exact w_f_Chart_predict_49 C hQ  _ _ _ _ _ _ hf hat (lv_sub hl [0, 1, 2] rfl)
    · refine lv_iload C.x C.b dd_Chart_predict_15 (lv_at hl 3 rfl) ?_
      refine np_if_eq (tgt := 49) C dd_Chart_predict_17 (by decide) hf (fun _ hf => ?_) (fun _ hf => ?_)
      · exact w_f_Chart_predict_49 C hQ  _ _ _ _ _ _ hf hat (lv_sub hl [0, 1, 2] rfl)
      · refine lv_iload_n C.x C.b dd_Chart_predict_20 rfl (lv_at hl 2 rfl) ?_
        refine lv_istore (lv' := [(6, .int (np_i x3)), (0, .ref (q 11)), (1, .int (np_i x1)), (3, .int (np_i x3)), (4, .int (np_i x4)), (5, .int (np_i x5))]) C.x C.b dd_Chart_predict_21 hl (by decide) rfl (fun ls hl => ?_)
        refine lv_aload_n C.x C.b dd_Chart_predict_23 rfl (lv_at hl 1 rfl) ?_
        refine lv_iload C.x C.b dd_Chart_predict_24 (lv_at hl 0 rfl) ?_
        refine np_callVi (As := [.int (np_i x3)]) (rest := []) C (c_Chart_leastFirstHole l x3 _) np_allgood tw_758 tw_760 tp_7 tw_5 tw_761 (nA := 1) (by decide +kernel) rfl ⟨rfl, rfl, Nat.le_of_ble_eq_true rfl, Nat.le_of_ble_eq_true rfl⟩ (va_recv C.k hat.1 (ci := 3) (q0 := 11) rfl (nc_o11 _)) hat rfl hl.1 (Nat.le_of_ble_eq_true rfl) dd_Chart_predict_26 hf (fun o1 H locs hf hat => ?_)
        refine lv_istore_n (lv' := [(3, .int (np_i o1.1)), (6, .int (np_i x3)), (0, .ref (q 11)), (1, .int (np_i x1)), (4, .int (np_i x4)), (5, .int (np_i x5))]) C.x C.b dd_Chart_predict_29 rfl hl (by decide) rfl (fun ls hl => ?_)
        refine lv_iload_n C.x C.b dd_Chart_predict_30 rfl (lv_at hl 0 rfl) ?_
        refine lv_iload C.x C.b dd_Chart_predict_31 (lv_at hl 1 rfl) ?_
        refine np_icmp_ge (tgt := 40) C dd_Chart_predict_33 (by decide) hf (fun _ hf => ?_) (fun _ hf => ?_)
        · refine lv_iconst (v := np_i 0) C.x C.b dd_Chart_predict_40 rfl ?_
          exact w_f_Chart_predict_41 C hQ h8 _ _ _ _ _ _ _ _ hf hat (lv_sub hl [2, 3, 0, 5] rfl)
        · refine lv_iconst (v := np_i 1) C.x C.b dd_Chart_predict_36 rfl ?_
          refine lv_goto (tgt := 41) C.x C.b dd_Chart_predict_37 (by decide) ?_
          exact w_f_Chart_predict_41 C hQ h8 _ _ _ _ _ _ _ _ hf hat (lv_sub hl [2, 3, 0, 5] rfl)
set_option maxHeartbeats 4000000 in
set_option maxRecDepth 100000 in
theorem w_f_Chart_predict (C : np_Cx gA p R s m args c D np_cl (np_ty cA) A np_al "NotationParse$Chart" prog_2_method_11_code 7 { frames := 1, cells := 0, slots := 0, locals := 24 }) (hQ : ∀ (pc : Nat) (ls : Array Slot) (H : Heap) (locs : List Loc) {σ : np_S}, decode prog_2_method_11_code pc = .ok (.return_, 1) → some ((0 : Int), σ) = some out → np_At D np_cl A (nc_wd q cA) s σ H locs → W p l e R s m args below meth c H locs 0 0 Q (F0 m pc ls []))   : ∀ (x1 x2 : Int) (σ : np_S) (H : Heap) (locs : List Loc) (ls : Array Slot), f_Chart_predict  x1 x2 σ = some out → np_At D np_cl A (nc_wd q cA) s σ H locs → lv_has ls 7 [(0, .ref (q 11)), (1, .int (np_i x1)), (2, .int (np_i x2))] → W p l e R s m args below meth c H locs 0 0 Q (F0 m 0 ls []) := by
  intro x1 x2 σ H locs ls hf hat hl
  unfold f_Chart_predict at hf
  refine lv_iload_n C.x C.b dd_Chart_predict_0 rfl (lv_at hl 2 rfl) ?_
  refine lv_istore_n (lv' := [(3, .int (np_i x2)), (0, .ref (q 11)), (1, .int (np_i x1)), (2, .int (np_i x2))]) C.x C.b dd_Chart_predict_1 rfl hl (by decide) rfl (fun ls hl => ?_)
  refine lv_iconst (v := np_i 1) C.x C.b dd_Chart_predict_2 rfl ?_
  refine lv_istore (lv' := [(4, .int (np_i 1)), (3, .int (np_i x2)), (0, .ref (q 11)), (1, .int (np_i x1)), (2, .int (np_i x2))]) C.x C.b dd_Chart_predict_3 hl (by decide) rfl (fun ls hl => ?_)
  refine lv_iconst (v := np_i 0) C.x C.b dd_Chart_predict_5 rfl ?_
  refine lv_istore (lv' := [(5, .int (np_i 0)), (4, .int (np_i 1)), (3, .int (np_i x2)), (0, .ref (q 11)), (1, .int (np_i x1)), (2, .int (np_i x2))]) C.x C.b dd_Chart_predict_6 hl (by decide) rfl (fun ls hl => ?_)
  exact w_f_Chart_predict_8 C hQ  20000 _ _ _ _ _ _ _ _ hf hat (lv_sub hl [3, 4, 2, 1, 0] rfl)
set_option maxHeartbeats 4000000 in
set_option maxRecDepth 100000 in
theorem c_Chart_predict (l : Launch) {gA : Nat → Nat} {D : va_G} {q : Nat → Nat} {cA : Nat → ClassId} (x1 x2 : Int) (σ : np_S) : np_Mv gA l D np_cl (np_ty cA) (nc_wd q cA) yy_Chart_predict (.code yy_Chart_predict prog_2_method_11_code 7 none :: np_al) { frames := 1, cells := 0, slots := 0, locals := 24 } [.ref (q 11), .int (np_i x1), .int (np_i x2)] σ (f_Chart_predict x1 x2 σ) :=
  np_mkv (by decide +kernel) (Nat.le_of_ble_eq_true rfl) (fun o p e R s m args below meth c Q A ls hf C hQ hat hl => w_f_Chart_predict C hQ x1 x2 σ _ _ _ hf hat (lv_sub hl [0, 1, 2] rfl))
set_option maxHeartbeats 4000000 in
set_option maxRecDepth 100000 in
theorem w_f_Chart_follow_13 (C : np_Cx gA p R s m args c D np_cl (np_ty cA) A np_al "NotationParse$Chart" prog_2_method_2_code 4 { frames := 3, cells := 0, slots := 0, locals := 70 }) (hQ : ∀ (pc : Nat) (ls : Array Slot) (H : Heap) (locs : List Loc) (v : Int) {σ : np_S}, decode prog_2_method_2_code pc = .ok (.ireturn, 1) → some (v, σ) = some out → np_At D np_cl A (nc_wd q cA) s σ H locs → W p l e R s m args below meth c H locs 0 0 Q (F0 m pc ls [.int (np_i v)]))   : ∀ (n : Nat), ∀ (x2 x3 : Int) (σ : np_S) (H : Heap) (locs : List Loc) (ls : Array Slot), f_Chart_follow_13  n x2 x3 σ = some out → np_At D np_cl A (nc_wd q cA) s σ H locs → lv_has ls 4 [(0, .ref (q 11)), (1, .ref (q 9)), (2, .int (np_i x2)), (3, .int (np_i x3))] → W p l e R s m args below meth c H locs 0 0 Q (F0 m 13 ls []) := by
  intro n
  induction n with
  | zero => intro x2 x3 σ H locs ls hf; cases hf
  | succ n ih =>
    intro x2 x3 σ H locs ls hf hat hl
    have h13 := ih
    have hf : f_Chart_follow_13_b  (fun x2 x3 σ => f_Chart_follow_13  n x2 x3 σ) x2 x3 σ = some out := hf
    unfold f_Chart_follow_13_b at hf
    refine lv_iload_n C.x C.b dd_Chart_follow_13 rfl (lv_at hl 3 rfl) ?_
    refine lv_iload_n C.x C.b dd_Chart_follow_14 rfl (lv_at hl 2 rfl) ?_
    refine np_icmp_ge (tgt := 65) C dd_Chart_follow_15 (by decide) hf (fun _ hf => ?_) (fun _ hf => ?_)
    · refine lv_iload_n C.x C.b dd_Chart_follow_65 rfl (lv_at hl 2 rfl) ?_
      exact hQ _ _ _ _ _ dd_Chart_follow_66 hf hat
    · refine lv_aload_n C.x C.b dd_Chart_follow_18 rfl (lv_at hl 0 rfl) ?_
      refine lv_iload_n C.x C.b dd_Chart_follow_19 rfl (lv_at hl 3 rfl) ?_
      refine lv_iconst (v := np_i 1) C.x C.b dd_Chart_follow_20 rfl ?_
      refine np_iadd C dd_Chart_follow_21 ?_
      refine np_callVv (As := [.int (np_i (x3 + 1))]) (rest := []) C (c_Chart_emptyRow l (x3 + 1) _) np_allgood tw_749 tw_751 tp_5 tw_5 tw_752 (nA := 1) (by decide +kernel) rfl ⟨rfl, rfl, Nat.le_of_ble_eq_true rfl, Nat.le_of_ble_eq_true rfl⟩ (va_recv C.k hat.1 (ci := 3) (q0 := 11) rfl (nc_o11 _)) hat rfl hl.1 (Nat.le_of_ble_eq_true rfl) dd_Chart_follow_22 hf (fun o1 H locs hf hat => ?_)
      refine lv_aload_n C.x C.b dd_Chart_follow_25 rfl (lv_at hl 0 rfl) ?_
      refine lv_iload_n C.x C.b dd_Chart_follow_26 rfl (lv_at hl 3 rfl) ?_
      refine lv_aload_n C.x C.b dd_Chart_follow_27 rfl (lv_at hl 1 rfl) ?_
      refine lv_iload_n C.x C.b dd_Chart_follow_28 rfl (lv_at hl 3 rfl) ?_
      refine np_laload C hat.1 9 (nc_a9 _) 1 rfl (by decide) dd_Chart_follow_29 hf (fun hf => ?_)
      refine np_callVi (As := [.int (np_i x3), .long (np_l (o1.2 9 x3))]) (rest := []) C (c_Chart_scan l x3 (o1.2 9 x3) _) np_allgood tw_762 tw_764 tp_8 tw_5 tw_765 (nA := 2) (by decide +kernel) rfl ⟨rfl, rfl, Nat.le_of_ble_eq_true rfl, Nat.le_of_ble_eq_true rfl⟩ (va_recv C.k hat.1 (ci := 3) (q0 := 11) rfl (nc_o11 _)) hat rfl hl.1 (Nat.le_of_ble_eq_true rfl) dd_Chart_follow_30 hf (fun o2 H locs hf hat => ?_)
      refine np_if_ne (tgt := 38) C dd_Chart_follow_33 (by decide) hf (fun _ hf => ?_) (fun _ hf => ?_)
      · refine lv_aload_n C.x C.b dd_Chart_follow_38 rfl (lv_at hl 0 rfl) ?_
        refine lv_iload_n C.x C.b dd_Chart_follow_39 rfl (lv_at hl 3 rfl) ?_
        refine lv_iconst (v := np_i 1) C.x C.b dd_Chart_follow_40 rfl ?_
        refine np_iadd C dd_Chart_follow_41 ?_
        refine np_callVv (As := [.int (np_i (x3 + 1))]) (rest := []) C (c_Chart_complete l (x3 + 1) _) np_allgood tw_767 tw_769 tp_9 tw_5 tw_770 (nA := 1) (by decide +kernel) rfl ⟨rfl, rfl, Nat.le_of_ble_eq_true rfl, Nat.le_of_ble_eq_true rfl⟩ (va_recv C.k hat.1 (ci := 3) (q0 := 11) rfl (nc_o11 _)) hat rfl hl.1 (Nat.le_of_ble_eq_true rfl) dd_Chart_follow_42 hf (fun o3 H locs hf hat => ?_)
        refine lv_aload_n C.x C.b dd_Chart_follow_45 rfl (lv_at hl 0 rfl) ?_
        refine lv_iload_n C.x C.b dd_Chart_follow_46 rfl (lv_at hl 3 rfl) ?_
        refine lv_iconst (v := np_i 1) C.x C.b dd_Chart_follow_47 rfl ?_
        refine np_iadd C dd_Chart_follow_48 ?_
        refine lv_aload_n C.x C.b dd_Chart_follow_49 rfl (lv_at hl 0 rfl) ?_
        refine lv_iload_n C.x C.b dd_Chart_follow_50 rfl (lv_at hl 3 rfl) ?_
        refine lv_iconst (v := np_i 1) C.x C.b dd_Chart_follow_51 rfl ?_
        refine np_iadd C dd_Chart_follow_52 ?_
        refine np_callVi (As := [.int (np_i (x3 + 1))]) (rest := [.int (np_i (x3 + 1)), .ref (q 11)]) C (c_Chart_leastWanted l (x3 + 1) _) np_allgood tw_787 tw_789 tp_13 tw_5 tw_790 (nA := 1) (by decide +kernel) rfl ⟨rfl, rfl, Nat.le_of_ble_eq_true rfl, Nat.le_of_ble_eq_true rfl⟩ (va_recv C.k hat.1 (ci := 3) (q0 := 11) rfl (nc_o11 _)) hat rfl hl.1 (Nat.le_of_ble_eq_true rfl) dd_Chart_follow_53 hf (fun o4 H locs hf hat => ?_)
        refine np_callVv (As := [.int (np_i (x3 + 1)), .int (np_i o4.1)]) (rest := []) C (c_Chart_predict l (x3 + 1) o4.1 _) np_allgood tw_754 tw_756 tp_6 tw_5 tw_757 (nA := 2) (by decide +kernel) rfl ⟨rfl, rfl, Nat.le_of_ble_eq_true rfl, Nat.le_of_ble_eq_true rfl⟩ (va_recv C.k hat.1 (ci := 3) (q0 := 11) rfl (nc_o11 _)) hat rfl hl.1 (Nat.le_of_ble_eq_true rfl) dd_Chart_follow_56 hf (fun o5 H locs hf hat => ?_)
        refine lv_iinc (v := np_i (x3 + 1)) (lv' := [(3, .int (np_i (x3 + 1))), (0, .ref (q 11)), (1, .ref (q 9)), (2, .int (np_i x2))]) C.x C.b dd_Chart_follow_59 hl (k := 3) rfl (np_inc _ _) (by decide) rfl (fun ls hl => ?_)
        refine lv_goto (tgt := 13) C.x C.b dd_Chart_follow_62 (by decide) ?_
        exact h13 _ _ _ _ _ _ hf hat (lv_sub hl [1, 2, 3, 0] rfl)
      · refine lv_iload_n C.x C.b dd_Chart_follow_36 rfl (lv_at hl 3 rfl) ?_
        exact hQ _ _ _ _ _ dd_Chart_follow_37 hf hat
set_option maxHeartbeats 4000000 in
set_option maxRecDepth 100000 in
theorem w_f_Chart_follow (C : np_Cx gA p R s m args c D np_cl (np_ty cA) A np_al "NotationParse$Chart" prog_2_method_2_code 4 { frames := 3, cells := 0, slots := 0, locals := 70 }) (hQ : ∀ (pc : Nat) (ls : Array Slot) (H : Heap) (locs : List Loc) (v : Int) {σ : np_S}, decode prog_2_method_2_code pc = .ok (.ireturn, 1) → some (v, σ) = some out → np_At D np_cl A (nc_wd q cA) s σ H locs → W p l e R s m args below meth c H locs 0 0 Q (F0 m pc ls [.int (np_i v)]))   : ∀ (x2 : Int) (σ : np_S) (H : Heap) (locs : List Loc) (ls : Array Slot), f_Chart_follow  x2 σ = some out → np_At D np_cl A (nc_wd q cA) s σ H locs → lv_has ls 4 [(0, .ref (q 11)), (1, .ref (q 9)), (2, .int (np_i x2))] → W p l e R s m args below meth c H locs 0 0 Q (F0 m 0 ls []) := by
  intro x2 σ H locs ls hf hat hl
  unfold f_Chart_follow at hf
  refine lv_aload_n C.x C.b dd_Chart_follow_0 rfl (lv_at hl 0 rfl) ?_
  refine lv_iconst (v := np_i 0) C.x C.b dd_Chart_follow_1 rfl ?_
  refine np_callVv (As := [.int (np_i 0)]) (rest := []) C (c_Chart_emptyRow l 0 _) np_allgood tw_749 tw_751 tp_5 tw_5 tw_752 (nA := 1) (by decide +kernel) rfl ⟨rfl, rfl, Nat.le_of_ble_eq_true rfl, Nat.le_of_ble_eq_true rfl⟩ (va_recv C.k hat.1 (ci := 3) (q0 := 11) rfl (nc_o11 _)) hat rfl hl.1 (Nat.le_of_ble_eq_true rfl) dd_Chart_follow_2 hf (fun o6 H locs hf hat => ?_)
  refine lv_aload_n C.x C.b dd_Chart_follow_5 rfl (lv_at hl 0 rfl) ?_
  refine lv_iconst (v := np_i 0) C.x C.b dd_Chart_follow_6 rfl ?_
  refine lv_iconst (v := np_i 0) C.x C.b dd_Chart_follow_7 rfl ?_
  refine np_callVv (As := [.int (np_i 0), .int (np_i 0)]) (rest := []) C (c_Chart_predict l 0 0 _) np_allgood tw_754 tw_756 tp_6 tw_5 tw_757 (nA := 2) (by decide +kernel) rfl ⟨rfl, rfl, Nat.le_of_ble_eq_true rfl, Nat.le_of_ble_eq_true rfl⟩ (va_recv C.k hat.1 (ci := 3) (q0 := 11) rfl (nc_o11 _)) hat rfl hl.1 (Nat.le_of_ble_eq_true rfl) dd_Chart_follow_8 hf (fun o7 H locs hf hat => ?_)
  refine lv_iconst (v := np_i 0) C.x C.b dd_Chart_follow_11 rfl ?_
  refine lv_istore_n (lv' := [(3, .int (np_i 0)), (0, .ref (q 11)), (1, .ref (q 9)), (2, .int (np_i x2))]) C.x C.b dd_Chart_follow_12 rfl hl (by decide) rfl (fun ls hl => ?_)
  exact w_f_Chart_follow_13 C hQ  20000 _ _ _ _ _ _ hf hat (lv_sub hl [1, 2, 3, 0] rfl)
set_option maxHeartbeats 4000000 in
set_option maxRecDepth 100000 in
theorem c_Chart_follow (l : Launch) {gA : Nat → Nat} {D : va_G} {q : Nat → Nat} {cA : Nat → ClassId} (x2 : Int) (σ : np_S) : np_Mi gA l D np_cl (np_ty cA) (nc_wd q cA) yy_Chart_follow (.code yy_Chart_follow prog_2_method_2_code 4 (some .int) :: np_al) { frames := 3, cells := 0, slots := 0, locals := 70 } [.ref (q 11), .ref (q 9), .int (np_i x2)] σ (f_Chart_follow x2 σ) :=
  np_mki (by decide +kernel) (Nat.le_of_ble_eq_true rfl) (fun o p e R s m args below meth c Q A ls hf C hQ hat hl => w_f_Chart_follow C hQ x2 σ _ _ _ hf hat (lv_sub hl [0, 1, 2] rfl))
end NW2
