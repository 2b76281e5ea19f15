section NW2
variable {p : Program} {l : Launch} {e : Env} {R : Room} {s : State} {m : MethodId} {args : Array Value} {below : List Frame} {meth : Method} {c : Code} {Q : State → Prop} {D : va_G} {A : Nat → Prop} {q : Nat → Nat} {cA : Nat → ClassId} {out : np_O} {gA : Nat → Nat}
set_option maxHeartbeats 4000000 in
set_option maxRecDepth 100000 in
theorem w_f_Chart_fillHoles_76 (C : np_Cx gA p R s m args c D np_cl (np_ty cA) A np_al "NotationParse$Chart" prog_2_method_9_code 8 { frames := 1, cells := 0, slots := 0, locals := 20 }) (hQ : ∀ (pc : Nat) (ls : Array Slot) (H : Heap) (locs : List Loc) {σ : np_S}, decode prog_2_method_9_code pc = .ok (.return_, 1) → some ((0 : Int), σ) = some out → np_At D np_cl A (nc_wd q cA) s σ H locs → W p l e R s m args below meth c H locs 0 0 Q (F0 m pc ls [])) {k15 : (Int → Int → Int → Int → np_S → Option np_O)} (h15 : ∀ (x3 x4 x5 x6 : Int) (σ : np_S) (H : Heap) (locs : List Loc) (ls : Array Slot), k15 x3 x4 x5 x6 σ = some out → np_At D np_cl A (nc_wd q cA) s σ H locs → lv_has ls 8 [(0, .ref (q 11)), (3, .int (np_i x3)), (4, .int (np_i x4)), (5, .int (np_i x5)), (6, .int (np_i x6))] → W p l e R s m args below meth c H locs 0 0 Q (F0 m 15 ls [])) : ∀ (x3 x4 x5 x6 : Int) (σ : np_S) (H : Heap) (locs : List Loc) (ls : Array Slot), f_Chart_fillHoles_76 k15 x3 x4 x5 x6 σ = some out → np_At D np_cl A (nc_wd q cA) s σ H locs → lv_has ls 8 [(0, .ref (q 11)), (3, .int (np_i x3)), (4, .int (np_i x4)), (5, .int (np_i x5)), (6, .int (np_i x6))] → W p l e R s m args below meth c H locs 0 0 Q (F0 m 76 ls []) := by
  intro x3 x4 x5 x6 σ H locs ls hf hat hl
  unfold f_Chart_fillHoles_76 at hf
  refine lv_iinc (v := np_i (x6 + 1)) (lv' := [(6, .int (np_i (x6 + 1))), (0, .ref (q 11)), (3, .int (np_i x3)), (4, .int (np_i x4)), (5, .int (np_i x5))]) C.x C.b dd_Chart_fillHoles_76 hl (k := 4) rfl (np_inc _ _) (by decide) rfl (fun ls hl => ?_)
  refine lv_goto (tgt := 15) C.x C.b dd_Chart_fillHoles_79 (by decide) ?_
  exact h15 _ _ _ _ _ _ _ _ hf hat (lv_sub hl [1, 2, 3, 4, 0] rfl)
set_option maxHeartbeats 4000000 in
set_option maxRecDepth 100000 in
theorem w_f_Chart_fillHoles_15 (C : np_Cx gA p R s m args c D np_cl (np_ty cA) A np_al "NotationParse$Chart" prog_2_method_9_code 8 { frames := 1, cells := 0, slots := 0, locals := 20 }) (hQ : ∀ (pc : Nat) (ls : Array Slot) (H : Heap) (locs : List Loc) {σ : np_S}, decode prog_2_method_9_code pc = .ok (.return_, 1) → some ((0 : Int), σ) = some out → np_At D np_cl A (nc_wd q cA) s σ H locs → W p l e R s m args below meth c H locs 0 0 Q (F0 m pc ls []))   : ∀ (n : Nat), ∀ (x3 x4 x5 x6 : Int) (σ : np_S) (H : Heap) (locs : List Loc) (ls : Array Slot), f_Chart_fillHoles_15  n x3 x4 x5 x6 σ = some out → np_At D np_cl A (nc_wd q cA) s σ H locs → lv_has ls 8 [(0, .ref (q 11)), (3, .int (np_i x3)), (4, .int (np_i x4)), (5, .int (np_i x5)), (6, .int (np_i x6))] → W p l e R s m args below meth c H locs 0 0 Q (F0 m 15 ls []) := by
  intro n
  induction n with
  | zero => intro x3 x4 x5 x6 σ H locs ls hf; cases hf
  | succ n ih =>
    intro x3 x4 x5 x6 σ H locs ls hf hat hl
    have h15 := ih
    have hf : f_Chart_fillHoles_15_b  (fun x3 x4 x5 x6 σ => f_Chart_fillHoles_15  n x3 x4 x5 x6 σ) x3 x4 x5 x6 σ = some out := hf
    unfold f_Chart_fillHoles_15_b at hf
    refine lv_iload C.x C.b dd_Chart_fillHoles_15 (lv_at hl 4 rfl) ?_
    refine lv_aload_n C.x C.b dd_Chart_fillHoles_17 rfl (lv_at hl 0 rfl) ?_
    refine np_get (v := .ref (q 1)) C i_Chart hat.1 11 (nc_o11 _) rfl 0 (by decide) tw_121 rfl rfl dd_Chart_fillHoles_18 ?_
    refine np_callVi (As := []) (rest := [.int (np_i x6)]) C (c_Grammar_usedDots l _) np_allgood tw_766 tw_356 tw_357 tw_2 tw_358 (nA := 0) (by decide +kernel) rfl ⟨rfl, rfl, Nat.le_of_ble_eq_true rfl, Nat.le_of_ble_eq_true rfl⟩ (va_recv C.k hat.1 (ci := 1) (q0 := 1) rfl (nc_o1 _)) hat rfl hl.1 (Nat.le_of_ble_eq_true rfl) dd_Chart_fillHoles_21 hf (fun o1 H locs hf hat => ?_)
    refine np_icmp_ge (tgt := 82) C dd_Chart_fillHoles_24 (by decide) hf (fun _ hf => ?_) (fun _ hf => ?_)
    · exact hQ _ _ _ _ dd_Chart_fillHoles_82 hf hat
    · refine lv_aload_n C.x C.b dd_Chart_fillHoles_27 rfl (lv_at hl 0 rfl) ?_
      refine np_get (v := .ref (q 1)) C i_Chart hat.1 11 (nc_o11 _) rfl 0 (by decide) tw_121 rfl rfl dd_Chart_fillHoles_28 ?_
      refine np_get (v := .ref (q 2)) C i_Grammar hat.1 1 (nc_o1 _) rfl 0 (by decide) tw_52 rfl rfl dd_Chart_fillHoles_31 ?_
      refine lv_iload C.x C.b dd_Chart_fillHoles_34 (lv_at hl 4 rfl) ?_
      refine np_iaload C hat.1 2 (nc_a2 _) 0 rfl (by decide) dd_Chart_fillHoles_36 hf (fun hf => ?_)
      refine lv_istore (lv' := [(7, .int (np_i (o1.2 2 x6))), (0, .ref (q 11)), (3, .int (np_i x3)), (4, .int (np_i x4)), (5, .int (np_i x5)), (6, .int (np_i x6))]) C.x C.b dd_Chart_fillHoles_37 hl (by decide) rfl (fun ls hl => ?_)
      refine lv_iload C.x C.b dd_Chart_fillHoles_39 (lv_at hl 0 rfl) ?_
      refine lv_iconst (v := np_i (-1)) C.x C.b dd_Chart_fillHoles_41 rfl ?_
      refine np_icmp_eq (tgt := 76) C dd_Chart_fillHoles_42 (by decide) hf (fun _ hf => ?_) (fun _ hf => ?_)
      · exact w_f_Chart_fillHoles_76 C hQ h15 _ _ _ _ _ _ _ _ hf hat (lv_sub hl [1, 2, 3, 4, 5] rfl)
      · refine lv_iload C.x C.b dd_Chart_fillHoles_45 (lv_at hl 0 rfl) ?_
        refine lv_iload_n C.x C.b dd_Chart_fillHoles_47 rfl (lv_at hl 2 rfl) ?_
        refine np_icmp_gt (tgt := 76) C dd_Chart_fillHoles_48 (by decide) hf (fun _ hf => ?_) (fun _ hf => ?_)
        · exact w_f_Chart_fillHoles_76 C hQ h15 _ _ _ _ _ _ _ _ hf hat (lv_sub hl [1, 2, 3, 4, 5] rfl)
        · refine lv_aload_n C.x C.b dd_Chart_fillHoles_51 rfl (lv_at hl 1 rfl) ?_
          refine np_get (v := .ref (q 12)) C i_Chart hat.1 11 (nc_o11 _) rfl 1 (by decide) tw_122 rfl rfl dd_Chart_fillHoles_52 ?_
          refine lv_iload C.x C.b dd_Chart_fillHoles_55 (lv_at hl 4 rfl) ?_
          refine lv_iload C.x C.b dd_Chart_fillHoles_57 (lv_at hl 5 rfl) ?_
          refine np_iadd C dd_Chart_fillHoles_59 ?_
          refine lv_iconst (v := np_i 1) C.x C.b dd_Chart_fillHoles_60 rfl ?_
          refine np_iadd C dd_Chart_fillHoles_61 ?_
          refine lv_dup2_11 C.x C.b dd_Chart_fillHoles_62 rfl rfl ?_
          refine np_iaload C hat.1 12 (nc_a12 _) 0 rfl (by decide) dd_Chart_fillHoles_63 hf (fun hf => ?_)
          refine lv_aload_n C.x C.b dd_Chart_fillHoles_64 rfl (lv_at hl 1 rfl) ?_
          refine np_get (v := .ref (q 12)) C i_Chart hat.1 11 (nc_o11 _) rfl 1 (by decide) tw_122 rfl rfl dd_Chart_fillHoles_65 ?_
          refine lv_iload C.x C.b dd_Chart_fillHoles_68 (lv_at hl 3 rfl) ?_
          refine lv_iload C.x C.b dd_Chart_fillHoles_70 (lv_at hl 5 rfl) ?_
          refine np_iadd C dd_Chart_fillHoles_72 ?_
          refine np_iaload C hat.1 12 (nc_a12 _) 0 rfl (by decide) dd_Chart_fillHoles_73 hf (fun hf => ?_)
          refine np_ior C dd_Chart_fillHoles_74 ?_
          refine np_iastore C hat 12 (nc_a12 _) 0 rfl (by decide) (nc_s12 _ _ _) dd_Chart_fillHoles_75 hf (fun H locs hat hf => ?_)
          exact w_f_Chart_fillHoles_76 C hQ h15 _ _ _ _ _ _ _ _ hf hat (lv_sub hl [1, 2, 3, 4, 5] rfl)
set_option maxHeartbeats 4000000 in
set_option maxRecDepth 100000 in
theorem w_f_Chart_fillHoles (C : np_Cx gA p R s m args c D np_cl (np_ty cA) A np_al "NotationParse$Chart" prog_2_method_9_code 8 { frames := 1, cells := 0, slots := 0, locals := 20 }) (hQ : ∀ (pc : Nat) (ls : Array Slot) (H : Heap) (locs : List Loc) {σ : np_S}, decode prog_2_method_9_code pc = .ok (.return_, 1) → some ((0 : Int), σ) = some out → np_At D np_cl A (nc_wd q cA) s σ H locs → W p l e R s m args below meth c H locs 0 0 Q (F0 m pc ls []))   : ∀ (x1 x2 x3 : Int) (σ : np_S) (H : Heap) (locs : List Loc) (ls : Array Slot), f_Chart_fillHoles  x1 x2 x3 σ = some out → np_At D np_cl A (nc_wd q cA) s σ H locs → lv_has ls 8 [(0, .ref (q 11)), (1, .int (np_i x1)), (2, .int (np_i x2)), (3, .int (np_i x3))] → W p l e R s m args below meth c H locs 0 0 Q (F0 m 0 ls []) := by
  intro x1 x2 x3 σ H locs ls hf hat hl
  unfold f_Chart_fillHoles at hf
  refine lv_iload_n C.x C.b dd_Chart_fillHoles_0 rfl (lv_at hl 1 rfl) ?_
  refine lv_bipush (v := np_i 98) C.x C.b dd_Chart_fillHoles_1 (by decide +kernel) ?_
  refine np_imul C dd_Chart_fillHoles_3 ?_
  refine lv_istore (lv' := [(4, .int (np_i (x1 * 98))), (0, .ref (q 11)), (1, .int (np_i x1)), (2, .int (np_i x2)), (3, .int (np_i x3))]) C.x C.b dd_Chart_fillHoles_4 hl (by decide) rfl (fun ls hl => ?_)
  refine lv_iload_n C.x C.b dd_Chart_fillHoles_6 rfl (lv_at hl 3 rfl) ?_
  refine lv_bipush (v := np_i 98) C.x C.b dd_Chart_fillHoles_7 (by decide +kernel) ?_
  refine np_imul C dd_Chart_fillHoles_9 ?_
  refine lv_istore (lv' := [(5, .int (np_i (x2 * 98))), (4, .int (np_i (x1 * 98))), (0, .ref (q 11)), (1, .int (np_i x1)), (2, .int (np_i x2)), (3, .int (np_i x3))]) C.x C.b dd_Chart_fillHoles_10 hl (by decide) rfl (fun ls hl => ?_)
  refine lv_iconst (v := np_i 0) C.x C.b dd_Chart_fillHoles_12 rfl ?_
  refine lv_istore (lv' := [(6, .int (np_i 0)), (5, .int (np_i (x2 * 98))), (4, .int (np_i (x1 * 98))), (0, .ref (q 11)), (1, .int (np_i x1)), (2, .int (np_i x2)), (3, .int (np_i x3))]) C.x C.b dd_Chart_fillHoles_13 hl (by decide) rfl (fun ls hl => ?_)
  exact w_f_Chart_fillHoles_15 C hQ  6000 _ _ _ _ _ _ _ _ hf hat (lv_sub hl [3, 6, 2, 1, 0] rfl)
set_option maxHeartbeats 4000000 in
set_option maxRecDepth 100000 in
theorem c_Chart_fillHoles (l : Launch) {gA : Nat → Nat} {D : va_G} {q : Nat → Nat} {cA : Nat → ClassId} (x1 x2 x3 : Int) (σ : np_S) : np_Mv gA l D np_cl (np_ty cA) (nc_wd q cA) yy_Chart_fillHoles (.code yy_Chart_fillHoles prog_2_method_9_code 8 none :: np_al) { frames := 1, cells := 0, slots := 0, locals := 20 } [.ref (q 11), .int (np_i x1), .int (np_i x2), .int (np_i x3)] σ (f_Chart_fillHoles x1 x2 x3 σ) :=
  np_mkv (by decide +kernel) (Nat.le_of_ble_eq_true rfl) (fun o p e R s m args below meth c Q A ls hf C hQ hat hl => w_f_Chart_fillHoles C hQ x1 x2 x3 σ _ _ _ hf hat (lv_sub hl [0, 1, 2, 3] rfl))
set_option maxHeartbeats 4000000 in
set_option maxRecDepth 100000 in
theorem w_f_Chart_complete_27 (C : np_Cx gA p R s m args c D np_cl (np_ty cA) A np_al "NotationParse$Chart" prog_2_method_7_code 4 { frames := 2, cells := 0, slots := 0, locals := 47 }) (hQ : ∀ (pc : Nat) (ls : Array Slot) (H : Heap) (locs : List Loc) {σ : np_S}, decode prog_2_method_7_code pc = .ok (.return_, 1) → some ((0 : Int), σ) = some out → np_At D np_cl A (nc_wd q cA) s σ H locs → W p l e R s m args below meth c H locs 0 0 Q (F0 m pc ls [])) {k4 : (Int → Int → np_S → Option np_O)} (h4 : ∀ (x1 x2 : Int) (σ : np_S) (H : Heap) (locs : List Loc) (ls : Array Slot), k4 x1 x2 σ = some out → np_At D np_cl A (nc_wd q cA) s σ H locs → lv_has ls 4 [(0, .ref (q 11)), (1, .int (np_i x1)), (2, .int (np_i x2))] → W p l e R s m args below meth c H locs 0 0 Q (F0 m 4 ls [])) : ∀ (x1 x2 : Int) (σ : np_S) (H : Heap) (locs : List Loc) (ls : Array Slot), f_Chart_complete_27 k4 x1 x2 σ = some out → np_At D np_cl A (nc_wd q cA) s σ H locs → lv_has ls 4 [(0, .ref (q 11)), (1, .int (np_i x1)), (2, .int (np_i x2))] → W p l e R s m args below meth c H locs 0 0 Q (F0 m 27 ls []) := by
  intro x1 x2 σ H locs ls hf hat hl
  unfold f_Chart_complete_27 at hf
  refine lv_iinc (v := np_i (x2 + (-1))) (lv' := [(2, .int (np_i (x2 + (-1)))), (0, .ref (q 11)), (1, .int (np_i x1))]) C.x C.b dd_Chart_complete_27 hl (k := 2) rfl (np_inc _ _) (by decide) rfl (fun ls hl => ?_)
  refine lv_goto (tgt := 4) C.x C.b dd_Chart_complete_30 (by decide) ?_
  exact h4 _ _ _ _ _ _ hf hat (lv_sub hl [1, 2, 0] rfl)
set_option maxHeartbeats 4000000 in
set_option maxRecDepth 100000 in
theorem w_f_Chart_complete_4 (C : np_Cx gA p R s m args c D np_cl (np_ty cA) A np_al "NotationParse$Chart" prog_2_method_7_code 4 { frames := 2, cells := 0, slots := 0, locals := 47 }) (hQ : ∀ (pc : Nat) (ls : Array Slot) (H : Heap) (locs : List Loc) {σ : np_S}, decode prog_2_method_7_code pc = .ok (.return_, 1) → some ((0 : Int), σ) = some out → np_At D np_cl A (nc_wd q cA) s σ H locs → W p l e R s m args below meth c H locs 0 0 Q (F0 m pc ls []))   : ∀ (n : Nat), ∀ (x1 x2 : Int) (σ : np_S) (H : Heap) (locs : List Loc) (ls : Array Slot), f_Chart_complete_4  n x1 x2 σ = some out → np_At D np_cl A (nc_wd q cA) s σ H locs → lv_has ls 4 [(0, .ref (q 11)), (1, .int (np_i x1)), (2, .int (np_i x2))] → W p l e R s m args below meth c H locs 0 0 Q (F0 m 4 ls []) := by
  intro n
  induction n with
  | zero => intro x1 x2 σ H locs ls hf; cases hf
  | succ n ih =>
    intro x1 x2 σ H locs ls hf hat hl
    have h4 := ih
    have hf : f_Chart_complete_4_b  (fun x1 x2 σ => f_Chart_complete_4  n x1 x2 σ) x1 x2 σ = some out := hf
    unfold f_Chart_complete_4_b at hf
    refine lv_iload_n C.x C.b dd_Chart_complete_4 rfl (lv_at hl 2 rfl) ?_
    refine np_if_lt (tgt := 33) C dd_Chart_complete_5 (by decide) hf (fun _ hf => ?_) (fun _ hf => ?_)
    · exact hQ _ _ _ _ dd_Chart_complete_33 hf hat
    · refine lv_aload_n C.x C.b dd_Chart_complete_8 rfl (lv_at hl 0 rfl) ?_
      refine lv_iload_n C.x C.b dd_Chart_complete_9 rfl (lv_at hl 2 rfl) ?_
      refine lv_iload_n C.x C.b dd_Chart_complete_10 rfl (lv_at hl 1 rfl) ?_
      refine np_callVi (As := [.int (np_i x2), .int (np_i x1)]) (rest := []) C (c_Chart_highestTerm l x2 x1 _) np_allgood tw_771 tw_773 tp_10 tw_5 tw_774 (nA := 2) (by decide +kernel) rfl ⟨rfl, rfl, Nat.le_of_ble_eq_true rfl, Nat.le_of_ble_eq_true rfl⟩ (va_recv C.k hat.1 (ci := 3) (q0 := 11) rfl (nc_o11 _)) hat rfl hl.1 (Nat.le_of_ble_eq_true rfl) dd_Chart_complete_11 hf (fun o1 H locs hf hat => ?_)
      refine lv_istore_n (lv' := [(3, .int (np_i o1.1)), (0, .ref (q 11)), (1, .int (np_i x1)), (2, .int (np_i x2))]) C.x C.b dd_Chart_complete_14 rfl hl (by decide) rfl (fun ls hl => ?_)
      refine lv_iload_n C.x C.b dd_Chart_complete_15 rfl (lv_at hl 0 rfl) ?_
      refine lv_iconst (v := np_i (-1)) C.x C.b dd_Chart_complete_16 rfl ?_
      refine np_icmp_eq (tgt := 27) C dd_Chart_complete_17 (by decide) hf (fun _ hf => ?_) (fun _ hf => ?_)
      · exact w_f_Chart_complete_27 C hQ h4 _ _ _ _ _ _ hf hat (lv_sub hl [1, 2, 3] rfl)
      · refine lv_aload_n C.x C.b dd_Chart_complete_20 rfl (lv_at hl 1 rfl) ?_
        refine lv_iload_n C.x C.b dd_Chart_complete_21 rfl (lv_at hl 3 rfl) ?_
        refine lv_iload_n C.x C.b dd_Chart_complete_22 rfl (lv_at hl 2 rfl) ?_
        refine lv_iload_n C.x C.b dd_Chart_complete_23 rfl (lv_at hl 0 rfl) ?_
        refine np_callVv (As := [.int (np_i x2), .int (np_i x1), .int (np_i o1.1)]) (rest := []) C (c_Chart_fillHoles l x2 x1 o1.1 _) np_allgood tw_783 tw_785 tp_12 tw_5 tw_786 (nA := 3) (by decide +kernel) rfl ⟨rfl, rfl, Nat.le_of_ble_eq_true rfl, Nat.le_of_ble_eq_true rfl⟩ (va_recv C.k hat.1 (ci := 3) (q0 := 11) rfl (nc_o11 _)) hat rfl hl.1 (Nat.le_of_ble_eq_true rfl) dd_Chart_complete_24 hf (fun o2 H locs hf hat => ?_)
        exact w_f_Chart_complete_27 C hQ h4 _ _ _ _ _ _ hf hat (lv_sub hl [1, 2, 3] rfl)
set_option maxHeartbeats 4000000 in
set_option maxRecDepth 100000 in
theorem w_f_Chart_complete (C : np_Cx gA p R s m args c D np_cl (np_ty cA) A np_al "NotationParse$Chart" prog_2_method_7_code 4 { frames := 2, cells := 0, slots := 0, locals := 47 }) (hQ : ∀ (pc : Nat) (ls : Array Slot) (H : Heap) (locs : List Loc) {σ : np_S}, decode prog_2_method_7_code pc = .ok (.return_, 1) → some ((0 : Int), σ) = some out → np_At D np_cl A (nc_wd q cA) s σ H locs → W p l e R s m args below meth c H locs 0 0 Q (F0 m pc ls []))   : ∀ (x1 : Int) (σ : np_S) (H : Heap) (locs : List Loc) (ls : Array Slot), f_Chart_complete  x1 σ = some out → np_At D np_cl A (nc_wd q cA) s σ H locs → lv_has ls 4 [(0, .ref (q 11)), (1, .int (np_i x1))] → W p l e R s m args below meth c H locs 0 0 Q (F0 m 0 ls []) := by
  intro x1 σ H locs ls hf hat hl
  unfold f_Chart_complete at hf
  refine lv_iload_n C.x C.b dd_Chart_complete_0 rfl (lv_at hl 1 rfl) ?_
  refine lv_iconst (v := np_i 1) C.x C.b dd_Chart_complete_1 rfl ?_
  refine np_isub C dd_Chart_complete_2 ?_
  refine lv_istore_n (lv' := [(2, .int (np_i (x1 - 1))), (0, .ref (q 11)), (1, .int (np_i x1))]) C.x C.b dd_Chart_complete_3 rfl hl (by decide) rfl (fun ls hl => ?_)
  exact w_f_Chart_complete_4 C hQ  6000 _ _ _ _ _ _ hf hat (lv_sub hl [1, 2, 0] rfl)
set_option maxHeartbeats 4000000 in
set_option maxRecDepth 100000 in
theorem c_Chart_complete (l : Launch) {gA : Nat → Nat} {D : va_G} {q : Nat → Nat} {cA : Nat → ClassId} (x1 : Int) (σ : np_S) : np_Mv gA l D np_cl (np_ty cA) (nc_wd q cA) yy_Chart_complete (.code yy_Chart_complete prog_2_method_7_code 4 none :: np_al) { frames := 2, cells := 0, slots := 0, locals := 47 } [.ref (q 11), .int (np_i x1)] σ (f_Chart_complete x1 σ) :=
  np_mkv (by decide +kernel) (Nat.le_of_ble_eq_true rfl) (fun o p e R s m args below meth c Q A ls hf C hQ hat hl => w_f_Chart_complete C hQ x1 σ _ _ _ hf hat (lv_sub hl [0, 1] rfl))
set_option maxHeartbeats 4000000 in
set_option maxRecDepth 100000 in
theorem w_f_Chart_leastWanted_56 (C : np_Cx gA p R s m args c D np_cl (np_ty cA) A np_al "NotationParse$Chart" prog_2_method_10_code 5 { frames := 1, cells := 0, slots := 0, locals := 20 }) (hQ : ∀ (pc : Nat) (ls : Array Slot) (H : Heap) (locs : List Loc) (v : Int) {σ : np_S}, decode prog_2_method_10_code pc = .ok (.ireturn, 1) → some (v, σ) = some out → np_At D np_cl A (nc_wd q cA) s σ H locs → W p l e R s m args below meth c H locs 0 0 Q (F0 m pc ls [.int (np_i v)])) {k5 : (Int → Int → Int → np_S → Option np_O)} (h5 : ∀ (x1 x2 x3 : Int) (σ : np_S) (H : Heap) (locs : List Loc) (ls : Array Slot), k5 x1 x2 x3 σ = some out → np_At D np_cl A (nc_wd q cA) s σ H locs → lv_has ls 5 [(0, .ref (q 11)), (1, .int (np_i x1)), (2, .int (np_i x2)), (3, .int (np_i x3))] → W p l e R s m args below meth c H locs 0 0 Q (F0 m 5 ls [])) : ∀ (x1 x2 x3 : Int) (σ : np_S) (H : Heap) (locs : List Loc) (ls : Array Slot), f_Chart_leastWanted_56 k5 x1 x2 x3 σ = some out → np_At D np_cl A (nc_wd q cA) s σ H locs → lv_has ls 5 [(0, .ref (q 11)), (1, .int (np_i x1)), (2, .int (np_i x2)), (3, .int (np_i x3))] → W p l e R s m args below meth c H locs 0 0 Q (F0 m 56 ls []) := by
  intro x1 x2 x3 σ H locs ls hf hat hl
  unfold f_Chart_leastWanted_56 at hf
  refine lv_iinc (v := np_i (x3 + 1)) (lv' := [(3, .int (np_i (x3 + 1))), (0, .ref (q 11)), (1, .int (np_i x1)), (2, .int (np_i x2))]) C.x C.b dd_Chart_leastWanted_56 hl (k := 3) rfl (np_inc _ _) (by decide) rfl (fun ls hl => ?_)
  refine lv_goto (tgt := 5) C.x C.b dd_Chart_leastWanted_59 (by decide) ?_
  exact h5 _ _ _ _ _ _ _ hf hat (lv_sub hl [1, 2, 3, 0] rfl)
set_option maxHeartbeats 4000000 in
set_option maxRecDepth 100000 in
theorem w_f_Chart_leastWanted_5 (C : np_Cx gA p R s m args c D np_cl (np_ty cA) A np_al "NotationParse$Chart" prog_2_method_10_code 5 { frames := 1, cells := 0, slots := 0, locals := 20 }) (hQ : ∀ (pc : Nat) (ls : Array Slot) (H : Heap) (locs : List Loc) (v : Int) {σ : np_S}, decode prog_2_method_10_code pc = .ok (.ireturn, 1) → some (v, σ) = some out → np_At D np_cl A (nc_wd q cA) s σ H locs → W p l e R s m args below meth c H locs 0 0 Q (F0 m pc ls [.int (np_i v)]))   : ∀ (n : Nat), ∀ (x1 x2 x3 : Int) (σ : np_S) (H : Heap) (locs : List Loc) (ls : Array Slot), f_Chart_leastWanted_5  n x1 x2 x3 σ = some out → np_At D np_cl A (nc_wd q cA) s σ H locs → lv_has ls 5 [(0, .ref (q 11)), (1, .int (np_i x1)), (2, .int (np_i x2)), (3, .int (np_i x3))] → W p l e R s m args below meth c H locs 0 0 Q (F0 m 5 ls []) := by
  intro n
  induction n with
  | zero => intro x1 x2 x3 σ H locs ls hf; cases hf
  | succ n ih =>
    intro x1 x2 x3 σ H locs ls hf hat hl
    have h5 := ih
    have hf : f_Chart_leastWanted_5_b  (fun x1 x2 x3 σ => f_Chart_leastWanted_5  n x1 x2 x3 σ) x1 x2 x3 σ = some out := hf
    unfold f_Chart_leastWanted_5_b at hf
    refine lv_iload_n C.x C.b dd_Chart_leastWanted_5 rfl (lv_at hl 3 rfl) ?_
    refine lv_aload_n C.x C.b dd_Chart_leastWanted_6 rfl (lv_at hl 0 rfl) ?_
    refine np_get (v := .ref (q 1)) C i_Chart hat.1 11 (nc_o11 _) rfl 0 (by decide) tw_121 rfl rfl dd_Chart_leastWanted_7 ?_
    refine np_callVi (As := []) (rest := [.int (np_i x3)]) C (c_Grammar_usedDots l _) np_allgood tw_766 tw_356 tw_357 tw_2 tw_358 (nA := 0) (by decide +kernel) rfl ⟨rfl, rfl, Nat.le_of_ble_eq_true rfl, Nat.le_of_ble_eq_true rfl⟩ (va_recv C.k hat.1 (ci := 1) (q0 := 1) rfl (nc_o1 _)) hat rfl hl.1 (Nat.le_of_ble_eq_true rfl) dd_Chart_leastWanted_10 hf (fun o1 H locs hf hat => ?_)
    refine np_icmp_ge (tgt := 62) C dd_Chart_leastWanted_13 (by decide) hf (fun _ hf => ?_) (fun _ hf => ?_)
    · refine lv_iload_n C.x C.b dd_Chart_leastWanted_62 rfl (lv_at hl 2 rfl) ?_
      exact hQ _ _ _ _ _ dd_Chart_leastWanted_63 hf hat
    · refine lv_aload_n C.x C.b dd_Chart_leastWanted_16 rfl (lv_at hl 0 rfl) ?_
      refine np_get (v := .ref (q 1)) C i_Chart hat.1 11 (nc_o11 _) rfl 0 (by decide) tw_121 rfl rfl dd_Chart_leastWanted_17 ?_
      refine np_get (v := .ref (q 2)) C i_Grammar hat.1 1 (nc_o1 _) rfl 0 (by decide) tw_52 rfl rfl dd_Chart_leastWanted_20 ?_
      refine lv_iload_n C.x C.b dd_Chart_leastWanted_23 rfl (lv_at hl 3 rfl) ?_
      refine np_iaload C hat.1 2 (nc_a2 _) 0 rfl (by decide) dd_Chart_leastWanted_24 hf (fun hf => ?_)
      refine lv_istore (lv' := [(4, .int (np_i (o1.2 2 x3))), (0, .ref (q 11)), (1, .int (np_i x1)), (2, .int (np_i x2)), (3, .int (np_i x3))]) C.x C.b dd_Chart_leastWanted_25 hl (by decide) rfl (fun ls hl => ?_)
      refine lv_iload C.x C.b dd_Chart_leastWanted_27 (lv_at hl 0 rfl) ?_
      refine lv_iconst (v := np_i (-1)) C.x C.b dd_Chart_leastWanted_29 rfl ?_
      refine np_icmp_eq (tgt := 56) C dd_Chart_leastWanted_30 (by decide) hf (fun _ hf => ?_) (fun _ hf => ?_)
      · exact w_f_Chart_leastWanted_56 C hQ h5 _ _ _ _ _ _ _ hf hat (lv_sub hl [1, 2, 3, 4] rfl)
      · refine lv_iload C.x C.b dd_Chart_leastWanted_33 (lv_at hl 0 rfl) ?_
        refine lv_iload_n C.x C.b dd_Chart_leastWanted_35 rfl (lv_at hl 3 rfl) ?_
        refine np_icmp_ge (tgt := 56) C dd_Chart_leastWanted_36 (by decide) hf (fun _ hf => ?_) (fun _ hf => ?_)
        · exact w_f_Chart_leastWanted_56 C hQ h5 _ _ _ _ _ _ _ hf hat (lv_sub hl [1, 2, 3, 4] rfl)
        · refine lv_aload_n C.x C.b dd_Chart_leastWanted_39 rfl (lv_at hl 1 rfl) ?_
          refine np_get (v := .ref (q 12)) C i_Chart hat.1 11 (nc_o11 _) rfl 1 (by decide) tw_122 rfl rfl dd_Chart_leastWanted_40 ?_
          refine lv_iload_n C.x C.b dd_Chart_leastWanted_43 rfl (lv_at hl 2 rfl) ?_
          refine lv_bipush (v := np_i 98) C.x C.b dd_Chart_leastWanted_44 (by decide +kernel) ?_
          refine np_imul C dd_Chart_leastWanted_46 ?_
          refine lv_iload_n C.x C.b dd_Chart_leastWanted_47 rfl (lv_at hl 4 rfl) ?_
          refine np_iadd C dd_Chart_leastWanted_48 ?_
          refine np_iaload C hat.1 12 (nc_a12 _) 0 rfl (by decide) dd_Chart_leastWanted_49 hf (fun hf => ?_)
          refine np_if_eq (tgt := 56) C dd_Chart_leastWanted_50 (by decide) hf (fun _ hf => ?_) (fun _ hf => ?_)
          · exact w_f_Chart_leastWanted_56 C hQ h5 _ _ _ _ _ _ _ hf hat (lv_sub hl [1, 2, 3, 4] rfl)
          · refine lv_iload C.x C.b dd_Chart_leastWanted_53 (lv_at hl 0 rfl) ?_
            refine lv_istore_n (lv' := [(2, .int (np_i (o1.2 2 x3))), (4, .int (np_i (o1.2 2 x3))), (0, .ref (q 11)), (1, .int (np_i x1)), (3, .int (np_i x3))]) C.x C.b dd_Chart_leastWanted_55 rfl hl (by decide) rfl (fun ls hl => ?_)
            exact w_f_Chart_leastWanted_56 C hQ h5 _ _ _ _ _ _ _ hf hat (lv_sub hl [2, 3, 0, 4] rfl)
set_option maxHeartbeats 4000000 in
set_option maxRecDepth 100000 in
theorem w_f_Chart_leastWanted (C : np_Cx gA p R s m args c D np_cl (np_ty cA) A np_al "NotationParse$Chart" prog_2_method_10_code 5 { frames := 1, cells := 0, slots := 0, locals := 20 }) (hQ : ∀ (pc : Nat) (ls : Array Slot) (H : Heap) (locs : List Loc) (v : Int) {σ : np_S}, decode prog_2_method_10_code pc = .ok (.ireturn, 1) → some (v, σ) = some out → np_At D np_cl A (nc_wd q cA) s σ H locs → W p l e R s m args below meth c H locs 0 0 Q (F0 m pc ls [.int (np_i v)]))   : ∀ (x1 : Int) (σ : np_S) (H : Heap) (locs : List Loc) (ls : Array Slot), f_Chart_leastWanted  x1 σ = some out → np_At D np_cl A (nc_wd q cA) s σ H locs → lv_has ls 5 [(0, .ref (q 11)), (1, .int (np_i x1))] → W p l e R s m args below meth c H locs 0 0 Q (F0 m 0 ls []) := by
  intro x1 σ H locs ls hf hat hl
  unfold f_Chart_leastWanted at hf
  refine lv_bipush (v := np_i 11) C.x C.b dd_Chart_leastWanted_0 (by decide +kernel) ?_
  refine lv_istore_n (lv' := [(2, .int (np_i 11)), (0, .ref (q 11)), (1, .int (np_i x1))]) C.x C.b dd_Chart_leastWanted_2 rfl hl (by decide) rfl (fun ls hl => ?_)
  refine lv_iconst (v := np_i 0) C.x C.b dd_Chart_leastWanted_3 rfl ?_
  refine lv_istore_n (lv' := [(3, .int (np_i 0)), (2, .int (np_i 11)), (0, .ref (q 11)), (1, .int (np_i x1))]) C.x C.b dd_Chart_leastWanted_4 rfl hl (by decide) rfl (fun ls hl => ?_)
  exact w_f_Chart_leastWanted_5 C hQ  6000 _ _ _ _ _ _ _ hf hat (lv_sub hl [2, 3, 1, 0] rfl)
set_option maxHeartbeats 4000000 in
set_option maxRecDepth 100000 in
theorem c_Chart_leastWanted (l : Launch) {gA : Nat → Nat} {D : va_G} {q : Nat → Nat} {cA : Nat → ClassId} (x1 : Int) (σ : np_S) : np_Mi gA l D np_cl (np_ty cA) (nc_wd q cA) yy_Chart_leastWanted (.code yy_Chart_leastWanted prog_2_method_10_code 5 (some .int) :: np_al) { frames := 1, cells := 0, slots := 0, locals := 20 } [.ref (q 11), .int (np_i x1)] σ (f_Chart_leastWanted x1 σ) :=
  np_mki (by decide +kernel) (Nat.le_of_ble_eq_true rfl) (fun o p e R s m args below meth c Q A ls hf C hQ hat hl => w_f_Chart_leastWanted C hQ x1 σ _ _ _ hf hat (lv_sub hl [0, 1] rfl))
set_option maxHeartbeats 4000000 in
set_option maxRecDepth 100000 in
theorem w_f_Chart_leastFirstHole_57 (C : np_Cx gA p R s m args c D np_cl (np_ty cA) A np_al "NotationParse$Chart" prog_2_method_12_code 5 { frames := 0, cells := 0, slots := 0, locals := 0 }) (hQ : ∀ (pc : Nat) (ls : Array Slot) (H : Heap) (locs : List Loc) (v : Int) {σ : np_S}, decode prog_2_method_12_code pc = .ok (.ireturn, 1) → some (v, σ) = some out → np_At D np_cl A (nc_wd q cA) s σ H locs → W p l e R s m args below meth c H locs 0 0 Q (F0 m pc ls [.int (np_i v)])) {k4 : (Int → Int → Int → np_S → Option np_O)} (h4 : ∀ (x1 x2 x3 : Int) (σ : np_S) (H : Heap) (locs : List Loc) (ls : Array Slot), k4 x1 x2 x3 σ = some out → np_At D np_cl A (nc_wd q cA) s σ H locs → lv_has ls 5 [(0, .ref (q 11)), (1, .int (np_i x1)), (2, .int (np_i x2)), (3, .int (np_i x3))] → W p l e R s m args below meth c H locs 0 0 Q (F0 m 4 ls [])) : ∀ (x1 x2 x3 : Int) (σ : np_S) (H : Heap) (locs : List Loc) (ls : Array Slot), f_Chart_leastFirstHole_57 k4 x1 x2 x3 σ = some out → np_At D np_cl A (nc_wd q cA) s σ H locs → lv_has ls 5 [(0, .ref (q 11)), (1, .int (np_i x1)), (2, .int (np_i x2)), (3, .int (np_i x3))] → W p l e R s m args below meth c H locs 0 0 Q (F0 m 57 ls []) := by
  intro x1 x2 x3 σ H locs ls hf hat hl
  unfold f_Chart_leastFirstHole_57 at hf
  refine lv_iinc (v := np_i (x3 + 1)) (lv' := [(3, .int (np_i (x3 + 1))), (0, .ref (q 11)), (1, .int (np_i x1)), (2, .int (np_i x2))]) C.x C.b dd_Chart_leastFirstHole_57 hl (k := 3) rfl (np_inc _ _) (by decide) rfl (fun ls hl => ?_)
  refine lv_goto (tgt := 4) C.x C.b dd_Chart_leastFirstHole_60 (by decide) ?_
  exact h4 _ _ _ _ _ _ _ hf hat (lv_sub hl [1, 2, 3, 0] rfl)
set_option maxHeartbeats 4000000 in
set_option maxRecDepth 100000 in
theorem w_f_Chart_leastFirstHole_4 (C : np_Cx gA p R s m args c D np_cl (np_ty cA) A np_al "NotationParse$Chart" prog_2_method_12_code 5 { frames := 0, cells := 0, slots := 0, locals := 0 }) (hQ : ∀ (pc : Nat) (ls : Array Slot) (H : Heap) (locs : List Loc) (v : Int) {σ : np_S}, decode prog_2_method_12_code pc = .ok (.ireturn, 1) → some (v, σ) = some out → np_At D np_cl A (nc_wd q cA) s σ H locs → W p l e R s m args below meth c H locs 0 0 Q (F0 m pc ls [.int (np_i v)]))   : ∀ (n : Nat), ∀ (x1 x2 x3 : Int) (σ : np_S) (H : Heap) (locs : List Loc) (ls : Array Slot), f_Chart_leastFirstHole_4  n x1 x2 x3 σ = some out → np_At D np_cl A (nc_wd q cA) s σ H locs → lv_has ls 5 [(0, .ref (q 11)), (1, .int (np_i x1)), (2, .int (np_i x2)), (3, .int (np_i x3))] → W p l e R s m args below meth c H locs 0 0 Q (F0 m 4 ls []) := by
  intro n
  induction n with
  | zero => intro x1 x2 x3 σ H locs ls hf; cases hf
  | succ n ih =>
    intro x1 x2 x3 σ H locs ls hf hat hl
    have h4 := ih
    have hf : f_Chart_leastFirstHole_4_b  (fun x1 x2 x3 σ => f_Chart_leastFirstHole_4  n x1 x2 x3 σ) x1 x2 x3 σ = some out := hf
    unfold f_Chart_leastFirstHole_4_b at hf
    refine lv_iload_n C.x C.b dd_Chart_leastFirstHole_4 rfl (lv_at hl 3 rfl) ?_
    refine lv_aload_n C.x C.b dd_Chart_leastFirstHole_5 rfl (lv_at hl 0 rfl) ?_
    refine np_get (v := .ref (q 1)) C i_Chart hat.1 11 (nc_o11 _) rfl 0 (by decide) tw_121 rfl rfl dd_Chart_leastFirstHole_6 ?_
    refine np_get (v := .int (np_i (σ 1 4))) C i_Grammar hat.1 1 (nc_o1 _) rfl 4 (by decide) tw_61 rfl rfl dd_Chart_leastFirstHole_9 ?_
    refine np_icmp_ge (tgt := 63) C dd_Chart_leastFirstHole_12 (by decide) hf (fun _ hf => ?_) (fun _ hf => ?_)
    · refine lv_iload_n C.x C.b dd_Chart_leastFirstHole_63 rfl (lv_at hl 2 rfl) ?_
      exact hQ _ _ _ _ _ dd_Chart_leastFirstHole_64 hf hat
    · refine lv_aload_n C.x C.b dd_Chart_leastFirstHole_15 rfl (lv_at hl 0 rfl) ?_
      refine np_get (v := .ref (q 1)) C i_Chart hat.1 11 (nc_o11 _) rfl 0 (by decide) tw_121 rfl rfl dd_Chart_leastFirstHole_16 ?_
      refine np_get (v := .ref (q 2)) C i_Grammar hat.1 1 (nc_o1 _) rfl 0 (by decide) tw_52 rfl rfl dd_Chart_leastFirstHole_19 ?_
      refine lv_iload_n C.x C.b dd_Chart_leastFirstHole_22 rfl (lv_at hl 3 rfl) ?_
      refine lv_bipush (v := np_i 7) C.x C.b dd_Chart_leastFirstHole_23 (by decide +kernel) ?_
      refine np_imul C dd_Chart_leastFirstHole_25 ?_
      refine np_iaload C hat.1 2 (nc_a2 _) 0 rfl (by decide) dd_Chart_leastFirstHole_26 hf (fun hf => ?_)
      refine lv_istore (lv' := [(4, .int (np_i (σ 2 (x3 * 7)))), (0, .ref (q 11)), (1, .int (np_i x1)), (2, .int (np_i x2)), (3, .int (np_i x3))]) C.x C.b dd_Chart_leastFirstHole_27 hl (by decide) rfl (fun ls hl => ?_)
      refine lv_aload_n C.x C.b dd_Chart_leastFirstHole_29 rfl (lv_at hl 1 rfl) ?_
      refine np_get (v := .ref (q 1)) C i_Chart hat.1 11 (nc_o11 _) rfl 0 (by decide) tw_121 rfl rfl dd_Chart_leastFirstHole_30 ?_
      refine np_get (v := .ref (q 4)) C i_Grammar hat.1 1 (nc_o1 _) rfl 2 (by decide) tw_56 rfl rfl dd_Chart_leastFirstHole_33 ?_
      refine lv_iload_n C.x C.b dd_Chart_leastFirstHole_36 rfl (lv_at hl 4 rfl) ?_
      refine np_iaload C hat.1 4 (nc_a4 _) 0 rfl (by decide) dd_Chart_leastFirstHole_37 hf (fun hf => ?_)
      refine lv_iload_n C.x C.b dd_Chart_leastFirstHole_38 rfl (lv_at hl 2 rfl) ?_
      refine np_icmp_lt (tgt := 57) C dd_Chart_leastFirstHole_39 (by decide) hf (fun _ hf => ?_) (fun _ hf => ?_)
      · exact w_f_Chart_leastFirstHole_57 C hQ h4 _ _ _ _ _ _ _ hf hat (lv_sub hl [1, 2, 3, 4] rfl)
      · refine lv_iload C.x C.b dd_Chart_leastFirstHole_42 (lv_at hl 0 rfl) ?_
        refine lv_iconst (v := np_i (-1)) C.x C.b dd_Chart_leastFirstHole_44 rfl ?_
        refine np_icmp_eq (tgt := 57) C dd_Chart_leastFirstHole_45 (by decide) hf (fun _ hf => ?_) (fun _ hf => ?_)
        · exact w_f_Chart_leastFirstHole_57 C hQ h4 _ _ _ _ _ _ _ hf hat (lv_sub hl [1, 2, 3, 4] rfl)
        · refine lv_iload C.x C.b dd_Chart_leastFirstHole_48 (lv_at hl 0 rfl) ?_
          refine lv_iload_n C.x C.b dd_Chart_leastFirstHole_50 rfl (lv_at hl 3 rfl) ?_
          refine np_icmp_ge (tgt := 57) C dd_Chart_leastFirstHole_51 (by decide) hf (fun _ hf => ?_) (fun _ hf => ?_)
          · exact w_f_Chart_leastFirstHole_57 C hQ h4 _ _ _ _ _ _ _ hf hat (lv_sub hl [1, 2, 3, 4] rfl)
          · refine lv_iload C.x C.b dd_Chart_leastFirstHole_54 (lv_at hl 0 rfl) ?_
            refine lv_istore_n (lv' := [(2, .int (np_i (σ 2 (x3 * 7)))), (4, .int (np_i (σ 2 (x3 * 7)))), (0, .ref (q 11)), (1, .int (np_i x1)), (3, .int (np_i x3))]) C.x C.b dd_Chart_leastFirstHole_56 rfl hl (by decide) rfl (fun ls hl => ?_)
            exact w_f_Chart_leastFirstHole_57 C hQ h4 _ _ _ _ _ _ _ hf hat (lv_sub hl [2, 3, 0, 4] rfl)
set_option maxHeartbeats 4000000 in
set_option maxRecDepth 100000 in
theorem w_f_Chart_leastFirstHole (C : np_Cx gA p R s m args c D np_cl (np_ty cA) A np_al "NotationParse$Chart" prog_2_method_12_code 5 { frames := 0, cells := 0, slots := 0, locals := 0 }) (hQ : ∀ (pc : Nat) (ls : Array Slot) (H : Heap) (locs : List Loc) (v : Int) {σ : np_S}, decode prog_2_method_12_code pc = .ok (.ireturn, 1) → some (v, σ) = some out → np_At D np_cl A (nc_wd q cA) s σ H locs → W p l e R s m args below meth c H locs 0 0 Q (F0 m pc ls [.int (np_i v)]))   : ∀ (x1 : Int) (σ : np_S) (H : Heap) (locs : List Loc) (ls : Array Slot), f_Chart_leastFirstHole  x1 σ = some out → np_At D np_cl A (nc_wd q cA) s σ H locs → lv_has ls 5 [(0, .ref (q 11)), (1, .int (np_i x1))] → W p l e R s m args below meth c H locs 0 0 Q (F0 m 0 ls []) := by
  intro x1 σ H locs ls hf hat hl
  unfold f_Chart_leastFirstHole at hf
  refine lv_iload_n C.x C.b dd_Chart_leastFirstHole_0 rfl (lv_at hl 1 rfl) ?_
  refine lv_istore_n (lv' := [(2, .int (np_i x1)), (0, .ref (q 11)), (1, .int (np_i x1))]) C.x C.b dd_Chart_leastFirstHole_1 rfl hl (by decide) rfl (fun ls hl => ?_)
  refine lv_iconst (v := np_i 2) C.x C.b dd_Chart_leastFirstHole_2 rfl ?_
  refine lv_istore_n (lv' := [(3, .int (np_i 2)), (2, .int (np_i x1)), (0, .ref (q 11)), (1, .int (np_i x1))]) C.x C.b dd_Chart_leastFirstHole_3 rfl hl (by decide) rfl (fun ls hl => ?_)
  exact w_f_Chart_leastFirstHole_4 C hQ  6000 _ _ _ _ _ _ _ hf hat (lv_sub hl [2, 3, 1, 0] rfl)
set_option maxHeartbeats 4000000 in
set_option maxRecDepth 100000 in
theorem c_Chart_leastFirstHole (l : Launch) {gA : Nat → Nat} {D : va_G} {q : Nat → Nat} {cA : Nat → ClassId} (x1 : Int) (σ : np_S) : np_Mi gA l D np_cl (np_ty cA) (nc_wd q cA) yy_Chart_leastFirstHole (.code yy_Chart_leastFirstHole prog_2_method_12_code 5 (some .int) :: np_al) { frames := 0, cells := 0, slots := 0, locals := 0 } [.ref (q 11), .int (np_i x1)] σ (f_Chart_leastFirstHole x1 σ) :=
  np_mki (by decide +kernel) (Nat.le_of_ble_eq_true rfl) (fun o p e R s m args below meth c Q A ls hf C hQ hat hl => w_f_Chart_leastFirstHole C hQ x1 σ _ _ _ hf hat (lv_sub hl [0, 1] rfl))
set_option maxHeartbeats 4000000 in
set_option maxRecDepth 100000 in
theorem w_f_Chart_predict_96 (C : np_Cx gA p R s m args c D np_cl (np_ty cA) A np_al "NotationParse$Chart" prog_2_method_11_code 7 { frames := 1, cells := 0, slots := 0, locals := 24 }) (hQ : ∀ (pc : Nat) (ls : Array Slot) (H : Heap) (locs : List Loc) {σ : np_S}, decode prog_2_method_11_code pc = .ok (.return_, 1) → some ((0 : Int), σ) = some out → np_At D np_cl A (nc_wd q cA) s σ H locs → W p l e R s m args below meth c H locs 0 0 Q (F0 m pc ls [])) {k52 : (Int → Int → Int → np_S → Option np_O)} (h52 : ∀ (x1 x3 x5 : Int) (σ : np_S) (H : Heap) (locs : List Loc) (ls : Array Slot), k52 x1 x3 x5 σ = some out → np_At D np_cl A (nc_wd q cA) s σ H locs → lv_has ls 7 [(0, .ref (q 11)), (1, .int (np_i x1)), (3, .int (np_i x3)), (5, .int (np_i x5))] → W p l e R s m args below meth c H locs 0 0 Q (F0 m 52 ls [])) : ∀ (x1 x3 x5 : Int) (σ : np_S) (H : Heap) (locs : List Loc) (ls : Array Slot), f_Chart_predict_96 k52 x1 x3 x5 σ = some out → np_At D np_cl A (nc_wd q cA) s σ H locs → lv_has ls 7 [(0, .ref (q 11)), (1, .int (np_i x1)), (3, .int (np_i x3)), (5, .int (np_i x5))] → W p l e R s m args below meth c H locs 0 0 Q (F0 m 96 ls []) := by
  intro x1 x3 x5 σ H locs ls hf hat hl
  unfold f_Chart_predict_96 at hf
  refine lv_iinc (v := np_i (x5 + 1)) (lv' := [(5, .int (np_i (x5 + 1))), (0, .ref (q 11)), (1, .int (np_i x1)), (3, .int (np_i x3))]) C.x C.b dd_Chart_predict_96 hl (k := 3) rfl (np_inc _ _) (by decide) rfl (fun ls hl => ?_)
  refine lv_goto (tgt := 52) C.x C.b dd_Chart_predict_99 (by decide) ?_
  exact h52 _ _ _ _ _ _ _ hf hat (lv_sub hl [1, 2, 3, 0] rfl)
set_option maxHeartbeats 4000000 in
set_option maxRecDepth 100000 in
theorem w_f_Chart_predict_52 (C : np_Cx gA p R s m args c D np_cl (np_ty cA) A np_al "NotationParse$Chart" prog_2_method_11_code 7 { frames := 1, cells := 0, slots := 0, locals := 24 }) (hQ : ∀ (pc : Nat) (ls : Array Slot) (H : Heap) (locs : List Loc) {σ : np_S}, decode prog_2_method_11_code pc = .ok (.return_, 1) → some ((0 : Int), σ) = some out → np_At D np_cl A (nc_wd q cA) s σ H locs → W p l e R s m args below meth c H locs 0 0 Q (F0 m pc ls []))   : ∀ (n : Nat), ∀ (x1 x3 x5 : Int) (σ : np_S) (H : Heap) (locs : List Loc) (ls : Array Slot), f_Chart_predict_52  n x1 x3 x5 σ = some out → np_At D np_cl A (nc_wd q cA) s σ H locs → lv_has ls 7 [(0, .ref (q 11)), (1, .int (np_i x1)), (3, .int (np_i x3)), (5, .int (np_i x5))] → W p l e R s m args below meth c H locs 0 0 Q (F0 m 52 ls []) := by
  intro n
  induction n with
  | zero => intro x1 x3 x5 σ H locs ls hf; cases hf
  | succ n ih =>
    intro x1 x3 x5 σ H locs ls hf hat hl
    have h52 := ih
    have hf : f_Chart_predict_52_b  (fun x1 x3 x5 σ => f_Chart_predict_52  n x1 x3 x5 σ) x1 x3 x5 σ = some out := hf
    unfold f_Chart_predict_52_b at hf
    refine lv_iload C.x C.b dd_Chart_predict_52 (lv_at hl 3 rfl) ?_
    refine lv_aload_n C.x C.b dd_Chart_predict_54 rfl (lv_at hl 0 rfl) ?_
    refine np_get (v := .ref (q 1)) C i_Chart hat.1 11 (nc_o11 _) rfl 0 (by decide) tw_121 rfl rfl dd_Chart_predict_55 ?_
    refine np_get (v := .int (np_i (σ 1 4))) C i_Grammar hat.1 1 (nc_o1 _) rfl 4 (by decide) tw_61 rfl rfl dd_Chart_predict_58 ?_
    refine np_icmp_ge (tgt := 102) C dd_Chart_predict_61 (by decide) hf (fun _ hf => ?_) (fun _ hf => ?_)
    · exact hQ _ _ _ _ dd_Chart_predict_102 hf hat
    · refine lv_aload_n C.x C.b dd_Chart_predict_64 rfl (lv_at hl 0 rfl) ?_
      refine np_get (v := .ref (q 1)) C i_Chart hat.1 11 (nc_o11 _) rfl 0 (by decide) tw_121 rfl rfl dd_Chart_predict_65 ?_
      refine np_get (v := .ref (q 4)) C i_Grammar hat.1 1 (nc_o1 _) rfl 2 (by decide) tw_56 rfl rfl dd_Chart_predict_68 ?_
      refine lv_iload C.x C.b dd_Chart_predict_71 (lv_at hl 3 rfl) ?_
      refine np_iaload C hat.1 4 (nc_a4 _) 0 rfl (by decide) dd_Chart_predict_73 hf (fun hf => ?_)
      refine lv_iload_n C.x C.b dd_Chart_predict_74 rfl (lv_at hl 2 rfl) ?_
      refine np_icmp_lt (tgt := 96) C dd_Chart_predict_75 (by decide) hf (fun _ hf => ?_) (fun _ hf => ?_)
      · exact w_f_Chart_predict_96 C hQ h52 _ _ _ _ _ _ _ hf hat (lv_sub hl [0, 1, 2, 3] rfl)
      · refine lv_aload_n C.x C.b dd_Chart_predict_78 rfl (lv_at hl 0 rfl) ?_
        refine np_get (v := .ref (q 12)) C i_Chart hat.1 11 (nc_o11 _) rfl 1 (by decide) tw_122 rfl rfl dd_Chart_predict_79 ?_
        refine lv_iload_n C.x C.b dd_Chart_predict_82 rfl (lv_at hl 1 rfl) ?_
        refine lv_bipush (v := np_i 98) C.x C.b dd_Chart_predict_83 (by decide +kernel) ?_
        refine np_imul C dd_Chart_predict_85 ?_
        refine lv_iload C.x C.b dd_Chart_predict_86 (lv_at hl 3 rfl) ?_
        refine lv_bipush (v := np_i 7) C.x C.b dd_Chart_predict_88 (by decide +kernel) ?_
        refine np_imul C dd_Chart_predict_90 ?_
        refine np_iadd C dd_Chart_predict_91 ?_
        refine lv_iconst (v := np_i 1) C.x C.b dd_Chart_predict_92 rfl ?_
        refine lv_iload_n C.x C.b dd_Chart_predict_93 rfl (lv_at hl 1 rfl) ?_
        refine np_ishl C dd_Chart_predict_94 ?_
        refine np_iastore C hat 12 (nc_a12 _) 0 rfl (by decide) (nc_s12 _ _ _) dd_Chart_predict_95 hf (fun H locs hat hf => ?_)
        exact w_f_Chart_predict_96 C hQ h52 _ _ _ _ _ _ _ hf hat (lv_sub hl [0, 1, 2, 3] rfl)
set_option maxHeartbeats 4000000 in
set_option maxRecDepth 100000 in
theorem w_f_Chart_predict_49 (C : np_Cx gA p R s m args c D np_cl (np_ty cA) A np_al "NotationParse$Chart" prog_2_method_11_code 7 { frames := 1, cells := 0, slots := 0, locals := 24 }) (hQ : ∀ (pc : Nat) (ls : Array Slot) (H : Heap) (locs : List Loc) {σ : np_S}, decode prog_2_method_11_code pc = .ok (.return_, 1) → some ((0 : Int), σ) = some out → np_At D np_cl A (nc_wd q cA) s σ H locs → W p l e R s m args below meth c H locs 0 0 Q (F0 m pc ls []))   : ∀ (x1 x3 : Int) (σ : np_S) (H : Heap) (locs : List Loc) (ls : Array Slot), f_Chart_predict_49  x1 x3 σ = some out → np_At D np_cl A (nc_wd q cA) s σ H locs → lv_has ls 7 [(0, .ref (q 11)), (1, .int (np_i x1)), (3, .int (np_i x3))] → W p l e R s m args below meth c H locs 0 0 Q (F0 m 49 ls []) := by
  intro x1 x3 σ H locs ls hf hat hl
  unfold f_Chart_predict_49 at hf
  refine lv_iconst (v := np_i 0) C.x C.b dd_Chart_predict_49 rfl ?_
  refine lv_istore (lv' := [(5, .int (np_i 0)), (0, .ref (q 11)), (1, .int (np_i x1)), (3, .int (np_i x3))]) C.x C.b dd_Chart_predict_50 hl (by decide) rfl (fun ls hl => ?_)
  exact w_f_Chart_predict_52 C hQ  6000 _ _ _ _ _ _ _ hf hat (lv_sub hl [1, 2, 3, 0] rfl)
set_option maxHeartbeats 4000000 in
set_option maxRecDepth 100000 in
theorem w_f_Chart_predict_41 (C : np_Cx gA p R s m args c D np_cl (np_ty cA) A np_al "NotationParse$Chart" prog_2_method_11_code 7 { frames := 1, cells := 0, slots := 0, locals := 24 }) (hQ : ∀ (pc : Nat) (ls : Array Slot) (H : Heap) (locs : List Loc) {σ : np_S}, decode prog_2_method_11_code pc = .ok (.return_, 1) → some ((0 : Int), σ) = some out → np_At D np_cl A (nc_wd q cA) s σ H locs → W p l e R s m args below meth c H locs 0 0 Q (F0 m pc ls [])) {k8 : (Int → Int → Int → Int → np_S → Option np_O)} (h8 : ∀ (x1 x3 x4 x5 : Int) (σ : np_S) (H : Heap) (locs : List Loc) (ls : Array Slot), k8 x1 x3 x4 x5 σ = some out → np_At D np_cl A (nc_wd q cA) s σ H locs → lv_has ls 7 [(0, .ref (q 11)), (1, .int (np_i x1)), (3, .int (np_i x3)), (4, .int (np_i x4)), (5, .int (np_i x5))] → W p l e R s m args below meth c H locs 0 0 Q (F0 m 8 ls [])) : ∀ (x1 x3 x5 t0 : Int) (σ : np_S) (H : Heap) (locs : List Loc) (ls : Array Slot), f_Chart_predict_41 k8 x1 x3 x5 t0 σ = some out → np_At D np_cl A (nc_wd q cA) s σ H locs → lv_has ls 7 [(0, .ref (q 11)), (1, .int (np_i x1)), (3, .int (np_i x3)), (5, .int (np_i x5))] → W p l e R s m args below meth c H locs 0 0 Q (F0 m 41 ls [.int (np_i t0)]) := by
  intro x1 x3 x5 t0 σ H locs ls hf hat hl
  unfold f_Chart_predict_41 at hf
  refine lv_istore (lv' := [(4, .int (np_i t0)), (0, .ref (q 11)), (1, .int (np_i x1)), (3, .int (np_i x3)), (5, .int (np_i x5))]) C.x C.b dd_Chart_predict_41 hl (by decide) rfl (fun ls hl => ?_)
  refine lv_iinc (v := np_i (x5 + 1)) (lv' := [(5, .int (np_i (x5 + 1))), (4, .int (np_i t0)), (0, .ref (q 11)), (1, .int (np_i x1)), (3, .int (np_i x3))]) C.x C.b dd_Chart_predict_43 hl (k := 4) rfl (np_inc _ _) (by decide) rfl (fun ls hl => ?_)
  refine lv_goto (tgt := 8) C.x C.b dd_Chart_predict_46 (by decide) ?_
  exact h8 _ _ _ _ _ _ _ _ hf hat (lv_sub hl [2, 3, 4, 1, 0] rfl)
set_option maxHeartbeats 4000000 in
set_option maxRecDepth 100000 in
theorem w_f_Chart_predict_8 (C : np_Cx gA p R s m args c D np_cl (np_ty cA) A np_al "NotationParse$Chart" prog_2_method_11_code 7 { frames := 1, cells := 0, slots := 0, locals := 24 }) (hQ : ∀ (pc : Nat) (ls : Array Slot) (H : Heap) (locs : List Loc) {σ : np_S}, decode prog_2_method_11_code pc = .ok (.return_, 1) → some ((0 : Int), σ) = some out → np_At D np_cl A (nc_wd q cA) s σ H locs → W p l e R s m args below meth c H locs 0 0 Q (F0 m pc ls []))   : ∀ (n : Nat), ∀ (x1 x3 x4 x5 : Int) (σ : np_S) (H : Heap) (locs : List Loc) (ls : Array Slot), f_Chart_predict_8  n x1 x3 x4 x5 σ = some out → np_At D np_cl A (nc_wd q cA) s σ H locs → lv_has ls 7 [(0, .ref (q 11)), (1, .int (np_i x1)), (3, .int (np_i x3)), (4, .int (np_i x4)), (5, .int (np_i x5))] → W p l e R s m args below meth c H locs 0 0 Q (F0 m 8 ls []) := by
  intro n
  induction n with
  | zero => intro x1 x3 x4 x5 σ H locs ls hf; cases hf
  | succ n ih =>
    intro x1 x3 x4 x5 σ H locs ls hf hat hl
    have h8 := ih
    have hf : f_Chart_predict_8_b  (fun x1 x3 x4 x5 σ => f_Chart_predict_8  n x1 x3 x4 x5 σ) x1 x3 x4 x5 σ = some out := hf
    unfold f_Chart_predict_8_b at hf
    refine lv_iload C.x C.b dd_Chart_predict_8 (lv_at hl 4 rfl) ?_
    refine lv_bipush (v := np_i 10) C.x C.b dd_Chart_predict_10 (by decide +kernel) ?_
    refine np_icmp_gt (tgt := 49) C dd_Chart_predict_12 (by decide) hf (fun _ hf => ?_) (fun _ hf => ?_)
    · exact w_f_Chart_predict_49 C hQ  _ _ _ _ _ _ hf hat (lv_sub hl [0, 1, 2] rfl)
    · refine lv_iload C.x C.b dd_Chart_predict_15 (lv_at hl 3 rfl) ?_
      refine np_if_eq (tgt := 49) C dd_Chart_predict_17 (by decide) hf (fun _ hf => ?_) (fun _ hf => ?_)
      · exact w_f_Chart_predict_49 C hQ  _ _ _ _ _ _ hf hat (lv_sub hl [0, 1, 2] rfl)
      · refine lv_iload_n C.x C.b dd_Chart_predict_20 rfl (lv_at hl 2 rfl) ?_
        refine lv_istore (lv' := [(6, .int (np_i x3)), (0, .ref (q 11)), (1, .int (np_i x1)), (3, .int (np_i x3)), (4, .int (np_i x4)), (5, .int (np_i x5))]) C.x C.b dd_Chart_predict_21 hl (by decide) rfl (fun ls hl => ?_)
        refine lv_aload_n C.x C.b dd_Chart_predict_23 rfl (lv_at hl 1 rfl) ?_
        refine lv_iload C.x C.b dd_Chart_predict_24 (lv_at hl 0 rfl) ?_
        refine np_callVi (As := [.int (np_i x3)]) (rest := []) C (c_Chart_leastFirstHole l x3 _) np_allgood tw_758 tw_760 tp_7 tw_5 tw_761 (nA := 1) (by decide +kernel) rfl ⟨rfl, rfl, Nat.le_of_ble_eq_true rfl, Nat.le_of_ble_eq_true rfl⟩ (va_recv C.k hat.1 (ci := 3) (q0 := 11) rfl (nc_o11 _)) hat rfl hl.1 (Nat.le_of_ble_eq_true rfl) dd_Chart_predict_26 hf (fun o1 H locs hf hat => ?_)
        refine lv_istore_n (lv' := [(3, .int (np_i o1.1)), (6, .int (np_i x3)), (0, .ref (q 11)), (1, .int (np_i x1)), (4, .int (np_i x4)), (5, .int (np_i x5))]) C.x C.b dd_Chart_predict_29 rfl hl (by decide) rfl (fun ls hl => ?_)
        refine lv_iload_n C.x C.b dd_Chart_predict_30 rfl (lv_at hl 0 rfl) ?_
        refine lv_iload C.x C.b dd_Chart_predict_31 (lv_at hl 1 rfl) ?_
        refine np_icmp_ge (tgt := 40) C dd_Chart_predict_33 (by decide) hf (fun _ hf => ?_) (fun _ hf => ?_)
        · refine lv_iconst (v := np_i 0) C.x C.b dd_Chart_predict_40 rfl ?_
          exact w_f_Chart_predict_41 C hQ h8 _ _ _ _ _ _ _ _ hf hat (lv_sub hl [2, 3, 0, 5] rfl)
        · refine lv_iconst (v := np_i 1) C.x C.b dd_Chart_predict_36 rfl ?_
          refine lv_goto (tgt := 41) C.x C.b dd_Chart_predict_37 (by decide) ?_
          exact w_f_Chart_predict_41 C hQ h8 _ _ _ _ _ _ _ _ hf hat (lv_sub hl [2, 3, 0, 5] rfl)
set_option maxHeartbeats 4000000 in
set_option maxRecDepth 100000 in
theorem w_f_Chart_predict (C : np_Cx gA p R s m args c D np_cl (np_ty cA) A np_al "NotationParse$Chart" prog_2_method_11_code 7 { frames := 1, cells := 0, slots := 0, locals := 24 }) (hQ : ∀ (pc : Nat) (ls : Array Slot) (H : Heap) (locs : List Loc) {σ : np_S}, decode prog_2_method_11_code pc = .ok (.return_, 1) → some ((0 : Int), σ) = some out → np_At D np_cl A (nc_wd q cA) s σ H locs → W p l e R s m args below meth c H locs 0 0 Q (F0 m pc ls []))   : ∀ (x1 x2 : Int) (σ : np_S) (H : Heap) (locs : List Loc) (ls : Array Slot), f_Chart_predict  x1 x2 σ = some out → np_At D np_cl A (nc_wd q cA) s σ H locs → lv_has ls 7 [(0, .ref (q 11)), (1, .int (np_i x1)), (2, .int (np_i x2))] → W p l e R s m args below meth c H locs 0 0 Q (F0 m 0 ls []) := by
  intro x1 x2 σ H locs ls hf hat hl
  unfold f_Chart_predict at hf
  refine lv_iload_n C.x C.b dd_Chart_predict_0 rfl (lv_at hl 2 rfl) ?_
  refine lv_istore_n (lv' := [(3, .int (np_i x2)), (0, .ref (q 11)), (1, .int (np_i x1)), (2, .int (np_i x2))]) C.x C.b dd_Chart_predict_1 rfl hl (by decide) rfl (fun ls hl => ?_)
  refine lv_iconst (v := np_i 1) C.x C.b dd_Chart_predict_2 rfl ?_
  refine lv_istore (lv' := [(4, .int (np_i 1)), (3, .int (np_i x2)), (0, .ref (q 11)), (1, .int (np_i x1)), (2, .int (np_i x2))]) C.x C.b dd_Chart_predict_3 hl (by decide) rfl (fun ls hl => ?_)
  refine lv_iconst (v := np_i 0) C.x C.b dd_Chart_predict_5 rfl ?_
  refine lv_istore (lv' := [(5, .int (np_i 0)), (4, .int (np_i 1)), (3, .int (np_i x2)), (0, .ref (q 11)), (1, .int (np_i x1)), (2, .int (np_i x2))]) C.x C.b dd_Chart_predict_6 hl (by decide) rfl (fun ls hl => ?_)
  exact w_f_Chart_predict_8 C hQ  6000 _ _ _ _ _ _ _ _ hf hat (lv_sub hl [3, 4, 2, 1, 0] rfl)
set_option maxHeartbeats 4000000 in
set_option maxRecDepth 100000 in
theorem c_Chart_predict (l : Launch) {gA : Nat → Nat} {D : va_G} {q : Nat → Nat} {cA : Nat → ClassId} (x1 x2 : Int) (σ : np_S) : np_Mv gA l D np_cl (np_ty cA) (nc_wd q cA) yy_Chart_predict (.code yy_Chart_predict prog_2_method_11_code 7 none :: np_al) { frames := 1, cells := 0, slots := 0, locals := 24 } [.ref (q 11), .int (np_i x1), .int (np_i x2)] σ (f_Chart_predict x1 x2 σ) :=
  np_mkv (by decide +kernel) (Nat.le_of_ble_eq_true rfl) (fun o p e R s m args below meth c Q A ls hf C hQ hat hl => w_f_Chart_predict C hQ x1 x2 σ _ _ _ hf hat (lv_sub hl [0, 1, 2] rfl))
set_option maxHeartbeats 4000000 in
set_option maxRecDepth 100000 in
theorem w_f_Chart_follow_13 (C : np_Cx gA p R s m args c D np_cl (np_ty cA) A np_al "NotationParse$Chart" prog_2_method_2_code 4 { frames := 3, cells := 0, slots := 0, locals := 70 }) (hQ : ∀ (pc : Nat) (ls : Array Slot) (H : Heap) (locs : List Loc) (v : Int) {σ : np_S}, decode prog_2_method_2_code pc = .ok (.ireturn, 1) → some (v, σ) = some out → np_At D np_cl A (nc_wd q cA) s σ H locs → W p l e R s m args below meth c H locs 0 0 Q (F0 m pc ls [.int (np_i v)]))   : ∀ (n : Nat), ∀ (x2 x3 : Int) (σ : np_S) (H : Heap) (locs : List Loc) (ls : Array Slot), f_Chart_follow_13  n x2 x3 σ = some out → np_At D np_cl A (nc_wd q cA) s σ H locs → lv_has ls 4 [(0, .ref (q 11)), (1, .ref (q 9)), (2, .int (np_i x2)), (3, .int (np_i x3))] → W p l e R s m args below meth c H locs 0 0 Q (F0 m 13 ls []) := by
  intro n
  induction n with
  | zero => intro x2 x3 σ H locs ls hf; cases hf
  | succ n ih =>
    intro x2 x3 σ H locs ls hf hat hl
    have h13 := ih
    have hf : f_Chart_follow_13_b  (fun x2 x3 σ => f_Chart_follow_13  n x2 x3 σ) x2 x3 σ = some out := hf
    unfold f_Chart_follow_13_b at hf
    refine lv_iload_n C.x C.b dd_Chart_follow_13 rfl (lv_at hl 3 rfl) ?_
    refine lv_iload_n C.x C.b dd_Chart_follow_14 rfl (lv_at hl 2 rfl) ?_
    refine np_icmp_ge (tgt := 65) C dd_Chart_follow_15 (by decide) hf (fun _ hf => ?_) (fun _ hf => ?_)
    · refine lv_iload_n C.x C.b dd_Chart_follow_65 rfl (lv_at hl 2 rfl) ?_
      exact hQ _ _ _ _ _ dd_Chart_follow_66 hf hat
    · refine lv_aload_n C.x C.b dd_Chart_follow_18 rfl (lv_at hl 0 rfl) ?_
      refine lv_iload_n C.x C.b dd_Chart_follow_19 rfl (lv_at hl 3 rfl) ?_
      refine lv_iconst (v := np_i 1) C.x C.b dd_Chart_follow_20 rfl ?_
      refine np_iadd C dd_Chart_follow_21 ?_
      refine np_callVv (As := [.int (np_i (x3 + 1))]) (rest := []) C (c_Chart_emptyRow l (x3 + 1) _) np_allgood tw_749 tw_751 tp_5 tw_5 tw_752 (nA := 1) (by decide +kernel) rfl ⟨rfl, rfl, Nat.le_of_ble_eq_true rfl, Nat.le_of_ble_eq_true rfl⟩ (va_recv C.k hat.1 (ci := 3) (q0 := 11) rfl (nc_o11 _)) hat rfl hl.1 (Nat.le_of_ble_eq_true rfl) dd_Chart_follow_22 hf (fun o1 H locs hf hat => ?_)
      refine lv_aload_n C.x C.b dd_Chart_follow_25 rfl (lv_at hl 0 rfl) ?_
      refine lv_iload_n C.x C.b dd_Chart_follow_26 rfl (lv_at hl 3 rfl) ?_
      refine lv_aload_n C.x C.b dd_Chart_follow_27 rfl (lv_at hl 1 rfl) ?_
      refine lv_iload_n C.x C.b dd_Chart_follow_28 rfl (lv_at hl 3 rfl) ?_
      refine np_laload C hat.1 9 (nc_a9 _) 1 rfl (by decide) dd_Chart_follow_29 hf (fun hf => ?_)
      refine np_callVi (As := [.int (np_i x3), .long (np_l (o1.2 9 x3))]) (rest := []) C (c_Chart_scan l x3 (o1.2 9 x3) _) np_allgood tw_762 tw_764 tp_8 tw_5 tw_765 (nA := 2) (by decide +kernel) rfl ⟨rfl, rfl, Nat.le_of_ble_eq_true rfl, Nat.le_of_ble_eq_true rfl⟩ (va_recv C.k hat.1 (ci := 3) (q0 := 11) rfl (nc_o11 _)) hat rfl hl.1 (Nat.le_of_ble_eq_true rfl) dd_Chart_follow_30 hf (fun o2 H locs hf hat => ?_)
      refine np_if_ne (tgt := 38) C dd_Chart_follow_33 (by decide) hf (fun _ hf => ?_) (fun _ hf => ?_)
      · refine lv_aload_n C.x C.b dd_Chart_follow_38 rfl (lv_at hl 0 rfl) ?_
        refine lv_iload_n C.x C.b dd_Chart_follow_39 rfl (lv_at hl 3 rfl) ?_
        refine lv_iconst (v := np_i 1) C.x C.b dd_Chart_follow_40 rfl ?_
        refine np_iadd C dd_Chart_follow_41 ?_
        refine np_callVv (As := [.int (np_i (x3 + 1))]) (rest := []) C (c_Chart_complete l (x3 + 1) _) np_allgood tw_767 tw_769 tp_9 tw_5 tw_770 (nA := 1) (by decide +kernel) rfl ⟨rfl, rfl, Nat.le_of_ble_eq_true rfl, Nat.le_of_ble_eq_true rfl⟩ (va_recv C.k hat.1 (ci := 3) (q0 := 11) rfl (nc_o11 _)) hat rfl hl.1 (Nat.le_of_ble_eq_true rfl) dd_Chart_follow_42 hf (fun o3 H locs hf hat => ?_)
        refine lv_aload_n C.x C.b dd_Chart_follow_45 rfl (lv_at hl 0 rfl) ?_
        refine lv_iload_n C.x C.b dd_Chart_follow_46 rfl (lv_at hl 3 rfl) ?_
        refine lv_iconst (v := np_i 1) C.x C.b dd_Chart_follow_47 rfl ?_
        refine np_iadd C dd_Chart_follow_48 ?_
        refine lv_aload_n C.x C.b dd_Chart_follow_49 rfl (lv_at hl 0 rfl) ?_
        refine lv_iload_n C.x C.b dd_Chart_follow_50 rfl (lv_at hl 3 rfl) ?_
        refine lv_iconst (v := np_i 1) C.x C.b dd_Chart_follow_51 rfl ?_
        refine np_iadd C dd_Chart_follow_52 ?_
        refine np_callVi (As := [.int (np_i (x3 + 1))]) (rest := [.int (np_i (x3 + 1)), .ref (q 11)]) C (c_Chart_leastWanted l (x3 + 1) _) np_allgood tw_787 tw_789 tp_13 tw_5 tw_790 (nA := 1) (by decide +kernel) rfl ⟨rfl, rfl, Nat.le_of_ble_eq_true rfl, Nat.le_of_ble_eq_true rfl⟩ (va_recv C.k hat.1 (ci := 3) (q0 := 11) rfl (nc_o11 _)) hat rfl hl.1 (Nat.le_of_ble_eq_true rfl) dd_Chart_follow_53 hf (fun o4 H locs hf hat => ?_)
        refine np_callVv (As := [.int (np_i (x3 + 1)), .int (np_i o4.1)]) (rest := []) C (c_Chart_predict l (x3 + 1) o4.1 _) np_allgood tw_754 tw_756 tp_6 tw_5 tw_757 (nA := 2) (by decide +kernel) rfl ⟨rfl, rfl, Nat.le_of_ble_eq_true rfl, Nat.le_of_ble_eq_true rfl⟩ (va_recv C.k hat.1 (ci := 3) (q0 := 11) rfl (nc_o11 _)) hat rfl hl.1 (Nat.le_of_ble_eq_true rfl) dd_Chart_follow_56 hf (fun o5 H locs hf hat => ?_)
        refine lv_iinc (v := np_i (x3 + 1)) (lv' := [(3, .int (np_i (x3 + 1))), (0, .ref (q 11)), (1, .ref (q 9)), (2, .int (np_i x2))]) C.x C.b dd_Chart_follow_59 hl (k := 3) rfl (np_inc _ _) (by decide) rfl (fun ls hl => ?_)
        refine lv_goto (tgt := 13) C.x C.b dd_Chart_follow_62 (by decide) ?_
        exact h13 _ _ _ _ _ _ hf hat (lv_sub hl [1, 2, 3, 0] rfl)
      · refine lv_iload_n C.x C.b dd_Chart_follow_36 rfl (lv_at hl 3 rfl) ?_
        exact hQ _ _ _ _ _ dd_Chart_follow_37 hf hat
set_option maxHeartbeats 4000000 in
set_option maxRecDepth 100000 in
theorem w_f_Chart_follow (C : np_Cx gA p R s m args c D np_cl (np_ty cA) A np_al "NotationParse$Chart" prog_2_method_2_code 4 { frames := 3, cells := 0, slots := 0, locals := 70 }) (hQ : ∀ (pc : Nat) (ls : Array Slot) (H : Heap) (locs : List Loc) (v : Int) {σ : np_S}, decode prog_2_method_2_code pc = .ok (.ireturn, 1) → some (v, σ) = some out → np_At D np_cl A (nc_wd q cA) s σ H locs → W p l e R s m args below meth c H locs 0 0 Q (F0 m pc ls [.int (np_i v)]))   : ∀ (x2 : Int) (σ : np_S) (H : Heap) (locs : List Loc) (ls : Array Slot), f_Chart_follow  x2 σ = some out → np_At D np_cl A (nc_wd q cA) s σ H locs → lv_has ls 4 [(0, .ref (q 11)), (1, .ref (q 9)), (2, .int (np_i x2))] → W p l e R s m args below meth c H locs 0 0 Q (F0 m 0 ls []) := by
  intro x2 σ H locs ls hf hat hl
  unfold f_Chart_follow at hf
  refine lv_aload_n C.x C.b dd_Chart_follow_0 rfl (lv_at hl 0 rfl) ?_
  refine lv_iconst (v := np_i 0) C.x C.b dd_Chart_follow_1 rfl ?_
  refine np_callVv (As := [.int (np_i 0)]) (rest := []) C (c_Chart_emptyRow l 0 _) np_allgood tw_749 tw_751 tp_5 tw_5 tw_752 (nA := 1) (by decide +kernel) rfl ⟨rfl, rfl, Nat.le_of_ble_eq_true rfl, Nat.le_of_ble_eq_true rfl⟩ (va_recv C.k hat.1 (ci := 3) (q0 := 11) rfl (nc_o11 _)) hat rfl hl.1 (Nat.le_of_ble_eq_true rfl) dd_Chart_follow_2 hf (fun o6 H locs hf hat => ?_)
  refine lv_aload_n C.x C.b dd_Chart_follow_5 rfl (lv_at hl 0 rfl) ?_
  refine lv_iconst (v := np_i 0) C.x C.b dd_Chart_follow_6 rfl ?_
  refine lv_iconst (v := np_i 0) C.x C.b dd_Chart_follow_7 rfl ?_
  refine np_callVv (As := [.int (np_i 0), .int (np_i 0)]) (rest := []) C (c_Chart_predict l 0 0 _) np_allgood tw_754 tw_756 tp_6 tw_5 tw_757 (nA := 2) (by decide +kernel) rfl ⟨rfl, rfl, Nat.le_of_ble_eq_true rfl, Nat.le_of_ble_eq_true rfl⟩ (va_recv C.k hat.1 (ci := 3) (q0 := 11) rfl (nc_o11 _)) hat rfl hl.1 (Nat.le_of_ble_eq_true rfl) dd_Chart_follow_8 hf (fun o7 H locs hf hat => ?_)
  refine lv_iconst (v := np_i 0) C.x C.b dd_Chart_follow_11 rfl ?_
  refine lv_istore_n (lv' := [(3, .int (np_i 0)), (0, .ref (q 11)), (1, .ref (q 9)), (2, .int (np_i x2))]) C.x C.b dd_Chart_follow_12 rfl hl (by decide) rfl (fun ls hl => ?_)
  exact w_f_Chart_follow_13 C hQ  6000 _ _ _ _ _ _ hf hat (lv_sub hl [1, 2, 3, 0] rfl)
set_option maxHeartbeats 4000000 in
set_option maxRecDepth 100000 in
theorem c_Chart_follow (l : Launch) {gA : Nat → Nat} {D : va_G} {q : Nat → Nat} {cA : Nat → ClassId} (x2 : Int) (σ : np_S) : np_Mi gA l D np_cl (np_ty cA) (nc_wd q cA) yy_Chart_follow (.code yy_Chart_follow prog_2_method_2_code 4 (some .int) :: np_al) { frames := 3, cells := 0, slots := 0, locals := 70 } [.ref (q 11), .ref (q 9), .int (np_i x2)] σ (f_Chart_follow x2 σ) :=
  np_mki (by decide +kernel) (Nat.le_of_ble_eq_true rfl) (fun o p e R s m args below meth c Q A ls hf C hQ hat hl => w_f_Chart_follow C hQ x2 σ _ _ _ hf hat (lv_sub hl [0, 1, 2] rfl))
set_option maxHeartbeats 4000000 in
set_option maxRecDepth 100000 in
theorem w_f_Chart_isWhole_15 (C : np_Cx gA p R s m args c D np_cl (np_ty cA) A np_al "NotationParse$Chart" prog_2_method_3_code 2 { frames := 2, cells := 0, slots := 0, locals := 47 }) (hQ : ∀ (pc : Nat) (ls : Array Slot) (H : Heap) (locs : List Loc) (v : Int) {σ : np_S}, decode prog_2_method_3_code pc = .ok (.ireturn, 1) → np_ck (v = 0 ∨ v = 1) (some (v, σ)) = some out → np_At D np_cl A (nc_wd q cA) s σ H locs → W p l e R s m args below meth c H locs 0 0 Q (F0 m pc ls [.int (np_i v)]))   : ∀ (t0 : Int) (σ : np_S) (H : Heap) (locs : List Loc) (ls : Array Slot), f_Chart_isWhole_15  t0 σ = some out → np_At D np_cl A (nc_wd q cA) s σ H locs → lv_has ls 2 [] → W p l e R s m args below meth c H locs 0 0 Q (F0 m 15 ls [.int (np_i t0)]) := by
  intro t0 σ H locs ls hf hat hl
  unfold f_Chart_isWhole_15 at hf
  exact hQ _ _ _ _ _ dd_Chart_isWhole_15 hf hat
set_option maxHeartbeats 4000000 in
set_option maxRecDepth 100000 in
theorem w_f_Chart_isWhole (C : np_Cx gA p R s m args c D np_cl (np_ty cA) A np_al "NotationParse$Chart" prog_2_method_3_code 2 { frames := 2, cells := 0, slots := 0, locals := 47 }) (hQ : ∀ (pc : Nat) (ls : Array Slot) (H : Heap) (locs : List Loc) (v : Int) {σ : np_S}, decode prog_2_method_3_code pc = .ok (.ireturn, 1) → np_ck (v = 0 ∨ v = 1) (some (v, σ)) = some out → np_At D np_cl A (nc_wd q cA) s σ H locs → W p l e R s m args below meth c H locs 0 0 Q (F0 m pc ls [.int (np_i v)]))   : ∀ (x1 : Int) (σ : np_S) (H : Heap) (locs : List Loc) (ls : Array Slot), f_Chart_isWhole  x1 σ = some out → np_At D np_cl A (nc_wd q cA) s σ H locs → lv_has ls 2 [(0, .ref (q 11)), (1, .int (np_i x1))] → W p l e R s m args below meth c H locs 0 0 Q (F0 m 0 ls []) := by
  intro x1 σ H locs ls hf hat hl
  unfold f_Chart_isWhole at hf
  refine lv_aload_n C.x C.b dd_Chart_isWhole_0 rfl (lv_at hl 0 rfl) ?_
  refine lv_iconst (v := np_i 0) C.x C.b dd_Chart_isWhole_1 rfl ?_
  refine lv_iload_n C.x C.b dd_Chart_isWhole_2 rfl (lv_at hl 1 rfl) ?_
  refine np_callVi (As := [.int (np_i 0), .int (np_i x1)]) (rest := []) C (c_Chart_highestTerm l 0 x1 _) np_allgood tw_771 tw_773 tp_10 tw_5 tw_774 (nA := 2) (by decide +kernel) rfl ⟨rfl, rfl, Nat.le_of_ble_eq_true rfl, Nat.le_of_ble_eq_true rfl⟩ (va_recv C.k hat.1 (ci := 3) (q0 := 11) rfl (nc_o11 _)) hat rfl hl.1 (Nat.le_of_ble_eq_true rfl) dd_Chart_isWhole_3 hf (fun o1 H locs hf hat => ?_)
  refine lv_iconst (v := np_i (-1)) C.x C.b dd_Chart_isWhole_6 rfl ?_
  refine np_icmp_eq (tgt := 14) C dd_Chart_isWhole_7 (by decide) hf (fun _ hf => ?_) (fun _ hf => ?_)
  · refine lv_iconst (v := np_i 0) C.x C.b dd_Chart_isWhole_14 rfl ?_
    exact w_f_Chart_isWhole_15 C hQ  _ _ _ _ _ hf hat (lv_sub hl [] rfl)
  · refine lv_iconst (v := np_i 1) C.x C.b dd_Chart_isWhole_10 rfl ?_
    refine lv_goto (tgt := 15) C.x C.b dd_Chart_isWhole_11 (by decide) ?_
    exact w_f_Chart_isWhole_15 C hQ  _ _ _ _ _ hf hat (lv_sub hl [] rfl)
set_option maxHeartbeats 4000000 in
set_option maxRecDepth 100000 in
theorem c_Chart_isWhole (l : Launch) {gA : Nat → Nat} {D : va_G} {q : Nat → Nat} {cA : Nat → ClassId} (x1 : Int) (σ : np_S) : np_Mi gA l D np_cl (np_ty cA) (nc_wd q cA) yy_Chart_isWhole (.code yy_Chart_isWhole prog_2_method_3_code 2 (some .boolean) :: np_al) { frames := 2, cells := 0, slots := 0, locals := 47 } [.ref (q 11), .int (np_i x1)] σ (f_Chart_isWhole x1 σ) :=
  np_mkz (by decide +kernel) (Nat.le_of_ble_eq_true rfl) (fun o p e R s m args below meth c Q A ls hf C hQ hat hl => w_f_Chart_isWhole C hQ x1 σ _ _ _ hf hat (lv_sub hl [0, 1] rfl))
set_option maxHeartbeats 4000000 in
set_option maxRecDepth 100000 in
theorem w_f_N_noteFault (C : np_Cx gA p R s m args c D np_cl (np_ty cA) A np_al "NotationParse" prog_1_method_9_code 3 { frames := 0, cells := 0, slots := 0, locals := 0 }) (hQ : ∀ (pc : Nat) (ls : Array Slot) (H : Heap) (locs : List Loc) {σ : np_S}, decode prog_1_method_9_code pc = .ok (.return_, 1) → some ((0 : Int), σ) = some out → np_At D np_cl A (nc_wd q cA) s σ H locs → W p l e R s m args below meth c H locs 0 0 Q (F0 m pc ls []))   : ∀ (x1 x2 : Int) (σ : np_S) (H : Heap) (locs : List Loc) (ls : Array Slot), f_N_noteFault  x1 x2 σ = some out → np_At D np_cl A (nc_wd q cA) s σ H locs → lv_has ls 3 [(0, .ref (q 0)), (1, .int (np_i x1)), (2, .int (np_i x2))] → W p l e R s m args below meth c H locs 0 0 Q (F0 m 0 ls []) := by
  intro x1 x2 σ H locs ls hf hat hl
  unfold f_N_noteFault at hf
  refine lv_aload_n C.x C.b dd_N_noteFault_0 rfl (lv_at hl 0 rfl) ?_
  refine lv_iload_n C.x C.b dd_N_noteFault_1 rfl (lv_at hl 1 rfl) ?_
  refine np_put C i_N t_N tok_N n_N hat 0 (nc_o0 _) rfl 5 (by decide) tw_209 rfl rfl (by decide +kernel) (np_narI x1) (np_fitI x1) (Nat.le_of_ble_eq_true rfl) (nc_s0_5 _ _) dd_N_noteFault_2 (fun H locs hat => ?_)
  refine lv_aload_n C.x C.b dd_N_noteFault_5 rfl (lv_at hl 0 rfl) ?_
  refine lv_iload_n C.x C.b dd_N_noteFault_6 rfl (lv_at hl 2 rfl) ?_
  refine np_put C i_N t_N tok_N n_N hat 0 (nc_o0 _) rfl 6 (by decide) tw_210 rfl rfl (by decide +kernel) (np_narI x2) (np_fitI x2) (Nat.le_of_ble_eq_true rfl) (nc_s0_6 _ _) dd_N_noteFault_7 (fun H locs hat => ?_)
  exact hQ _ _ _ _ dd_N_noteFault_10 hf hat
set_option maxHeartbeats 4000000 in
set_option maxRecDepth 100000 in
theorem c_N_noteFault (l : Launch) {gA : Nat → Nat} {D : va_G} {q : Nat → Nat} {cA : Nat → ClassId} (x1 x2 : Int) (σ : np_S) : np_Mv gA l D np_cl (np_ty cA) (nc_wd q cA) yy_N_noteFault (.code yy_N_noteFault prog_1_method_9_code 3 none :: np_al) { frames := 0, cells := 0, slots := 0, locals := 0 } [.ref (q 0), .int (np_i x1), .int (np_i x2)] σ (f_N_noteFault x1 x2 σ) :=
  np_mkv (by decide +kernel) (Nat.le_of_ble_eq_true rfl) (fun o p e R s m args below meth c Q A ls hf C hQ hat hl => w_f_N_noteFault C hQ x1 x2 σ _ _ _ hf hat (lv_sub hl [0, 1, 2] rfl))
set_option maxHeartbeats 4000000 in
set_option maxRecDepth 100000 in
theorem w_f_N_findFault_114 (C : np_Cx gA p R s m args c D np_cl (np_ty cA) A np_al "NotationParse" prog_1_method_8_code 2 { frames := 4, cells := 0, slots := 0, locals := 93 }) (hQ : ∀ (pc : Nat) (ls : Array Slot) (H : Heap) (locs : List Loc) {σ : np_S}, decode prog_1_method_8_code pc = .ok (.return_, 1) → some ((0 : Int), σ) = some out → np_At D np_cl A (nc_wd q cA) s σ H locs → W p l e R s m args below meth c H locs 0 0 Q (F0 m pc ls []))   : ∀ (σ : np_S) (H : Heap) (locs : List Loc) (ls : Array Slot), f_N_findFault_114  σ = some out → np_At D np_cl A (nc_wd q cA) s σ H locs → lv_has ls 2 [] → W p l e R s m args below meth c H locs 0 0 Q (F0 m 114 ls []) := by
  intro σ H locs ls hf hat hl
  unfold f_N_findFault_114 at hf
  exact hQ _ _ _ _ dd_N_findFault_114 hf hat
set_option maxHeartbeats 4000000 in
set_option maxRecDepth 100000 in
theorem w_f_N_findFault (C : np_Cx gA p R s m args c D np_cl (np_ty cA) A np_al "NotationParse" prog_1_method_8_code 2 { frames := 4, cells := 0, slots := 0, locals := 93 }) (hQ : ∀ (pc : Nat) (ls : Array Slot) (H : Heap) (locs : List Loc) {σ : np_S}, decode prog_1_method_8_code pc = .ok (.return_, 1) → some ((0 : Int), σ) = some out → np_At D np_cl A (nc_wd q cA) s σ H locs → W p l e R s m args below meth c H locs 0 0 Q (F0 m pc ls []))   : ∀ (σ : np_S) (H : Heap) (locs : List Loc) (ls : Array Slot), f_N_findFault  σ = some out → np_At D np_cl A (nc_wd q cA) s σ H locs → lv_has ls 2 [(0, .ref (q 0))] → W p l e R s m args below meth c H locs 0 0 Q (F0 m 0 ls []) := by
  intro σ H locs ls hf hat hl
  unfold f_N_findFault at hf
  refine lv_aload_n C.x C.b dd_N_findFault_0 rfl (lv_at hl 0 rfl) ?_
  refine np_get (v := .ref (q 11)) C i_N hat.1 0 (nc_o0 _) rfl 2 (by decide) tw_206 rfl rfl dd_N_findFault_1 ?_
  refine lv_aload_n C.x C.b dd_N_findFault_4 rfl (lv_at hl 0 rfl) ?_
  refine np_get (v := .ref (q 6)) C i_N hat.1 0 (nc_o0 _) rfl 1 (by decide) tw_205 rfl rfl dd_N_findFault_5 ?_
  refine np_get (v := .ref (q 9)) C i_Text hat.1 6 (nc_o6 _) rfl 3 (by decide) tw_91 rfl rfl dd_N_findFault_8 ?_
  refine lv_aload_n C.x C.b dd_N_findFault_11 rfl (lv_at hl 0 rfl) ?_
  refine np_get (v := .ref (q 6)) C i_N hat.1 0 (nc_o0 _) rfl 1 (by decide) tw_205 rfl rfl dd_N_findFault_12 ?_
  refine np_get (v := .int (np_i (σ 6 5))) C i_Text hat.1 6 (nc_o6 _) rfl 5 (by decide) tw_96 rfl rfl dd_N_findFault_15 ?_
  refine np_callVi (As := [.ref (q 9), .int (np_i (σ 6 5))]) (rest := []) C (c_Chart_follow l (σ 6 5) _) np_allgood tw_745 tw_746 tw_747 tw_5 tw_748 (nA := 2) (by decide +kernel) rfl ⟨rfl, rfl, Nat.le_of_ble_eq_true rfl, Nat.le_of_ble_eq_true rfl⟩ (va_recv C.k hat.1 (ci := 3) (q0 := 11) rfl (nc_o11 _)) hat rfl hl.1 (Nat.le_of_ble_eq_true rfl) dd_N_findFault_18 hf (fun o1 H locs hf hat => ?_)
  refine lv_istore_n (lv' := [(1, .int (np_i o1.1)), (0, .ref (q 0))]) C.x C.b dd_N_findFault_21 rfl hl (by decide) rfl (fun ls hl => ?_)
  refine lv_iload_n C.x C.b dd_N_findFault_22 rfl (lv_at hl 0 rfl) ?_
  refine lv_aload_n C.x C.b dd_N_findFault_23 rfl (lv_at hl 1 rfl) ?_
  refine np_get (v := .ref (q 6)) C i_N hat.1 0 (nc_o0 _) rfl 1 (by decide) tw_205 rfl rfl dd_N_findFault_24 ?_
  refine np_get (v := .int (np_i (o1.2 6 5))) C i_Text hat.1 6 (nc_o6 _) rfl 5 (by decide) tw_96 rfl rfl dd_N_findFault_27 ?_
  refine np_icmp_ge (tgt := 50) C dd_N_findFault_30 (by decide) hf (fun _ hf => ?_) (fun _ hf => ?_)
  · refine lv_aload_n C.x C.b dd_N_findFault_50 rfl (lv_at hl 1 rfl) ?_
    refine np_get (v := .ref (q 6)) C i_N hat.1 0 (nc_o0 _) rfl 1 (by decide) tw_205 rfl rfl dd_N_findFault_51 ?_
    refine np_get (v := .int (np_i (o1.2 6 6))) C i_Text hat.1 6 (nc_o6 _) rfl 6 (by decide) tw_98 rfl rfl dd_N_findFault_54 ?_
    refine lv_iconst (v := np_i (-1)) C.x C.b dd_N_findFault_57 rfl ?_
    refine np_icmp_eq (tgt := 76) C dd_N_findFault_58 (by decide) hf (fun _ hf => ?_) (fun _ hf => ?_)
    · refine lv_aload_n C.x C.b dd_N_findFault_76 rfl (lv_at hl 1 rfl) ?_
      refine np_get (v := .ref (q 11)) C i_N hat.1 0 (nc_o0 _) rfl 2 (by decide) tw_206 rfl rfl dd_N_findFault_77 ?_
      refine lv_aload_n C.x C.b dd_N_findFault_80 rfl (lv_at hl 1 rfl) ?_
      refine np_get (v := .ref (q 6)) C i_N hat.1 0 (nc_o0 _) rfl 1 (by decide) tw_205 rfl rfl dd_N_findFault_81 ?_
      refine np_get (v := .int (np_i (o1.2 6 5))) C i_Text hat.1 6 (nc_o6 _) rfl 5 (by decide) tw_96 rfl rfl dd_N_findFault_84 ?_
      refine np_callVi (As := [.int (np_i (o1.2 6 5))]) (rest := []) C (c_Chart_isWhole l (o1.2 6 5) _) np_allgood tw_795 tw_796 tw_797 tw_5 tw_798 (nA := 1) (by decide +kernel) rfl ⟨rfl, rfl, Nat.le_of_ble_eq_true rfl, Nat.le_of_ble_eq_true rfl⟩ (va_recv C.k hat.1 (ci := 3) (q0 := 11) rfl (nc_o11 _)) hat rfl hl.1 (Nat.le_of_ble_eq_true rfl) dd_N_findFault_87 hf (fun o2 H locs hf hat => ?_)
      refine np_if_ne (tgt := 108) C dd_N_findFault_90 (by decide) hf (fun _ hf => ?_) (fun _ hf => ?_)
      · refine lv_aload_n C.x C.b dd_N_findFault_108 rfl (lv_at hl 1 rfl) ?_
        refine lv_iconst (v := np_i 0) C.x C.b dd_N_findFault_109 rfl ?_
        refine lv_iconst (v := np_i (-1)) C.x C.b dd_N_findFault_110 rfl ?_
        refine np_callVv (As := [.int (np_i 0), .int (np_i ((-1)))]) (rest := []) C (c_N_noteFault l 0 ((-1)) _) np_allgood tw_791 tw_793 tp_14 tw_1 tw_794 (nA := 2) (by decide +kernel) rfl ⟨rfl, rfl, Nat.le_of_ble_eq_true rfl, Nat.le_of_ble_eq_true rfl⟩ (va_recv C.k hat.1 (ci := 0) (q0 := 0) rfl (nc_o0 _)) hat rfl hl.1 (Nat.le_of_ble_eq_true rfl) dd_N_findFault_111 hf (fun o3 H locs hf hat => ?_)
        exact w_f_N_findFault_114 C hQ   _ _ _ _ hf hat (lv_sub hl [] rfl)
      · refine lv_aload_n C.x C.b dd_N_findFault_93 rfl (lv_at hl 1 rfl) ?_
        refine lv_iconst (v := np_i 1) C.x C.b dd_N_findFault_94 rfl ?_
        refine lv_aload_n C.x C.b dd_N_findFault_95 rfl (lv_at hl 1 rfl) ?_
        refine np_get (v := .ref (q 6)) C i_N hat.1 0 (nc_o0 _) rfl 1 (by decide) tw_205 rfl rfl dd_N_findFault_96 ?_
        refine np_get (v := .int (np_i (o2.2 6 1))) C i_Text hat.1 6 (nc_o6 _) rfl 1 (by decide) tw_87 rfl rfl dd_N_findFault_99 ?_
        refine np_callVv (As := [.int (np_i 1), .int (np_i (o2.2 6 1))]) (rest := []) C (c_N_noteFault l 1 (o2.2 6 1) _) np_allgood tw_791 tw_793 tp_14 tw_1 tw_794 (nA := 2) (by decide +kernel) rfl ⟨rfl, rfl, Nat.le_of_ble_eq_true rfl, Nat.le_of_ble_eq_true rfl⟩ (va_recv C.k hat.1 (ci := 0) (q0 := 0) rfl (nc_o0 _)) hat rfl hl.1 (Nat.le_of_ble_eq_true rfl) dd_N_findFault_102 hf (fun o4 H locs hf hat => ?_)
        refine lv_goto (tgt := 114) C.x C.b dd_N_findFault_105 (by decide) ?_
        exact w_f_N_findFault_114 C hQ   _ _ _ _ hf hat (lv_sub hl [] rfl)
    · refine lv_aload_n C.x C.b dd_N_findFault_61 rfl (lv_at hl 1 rfl) ?_
      refine lv_iconst (v := np_i 2) C.x C.b dd_N_findFault_62 rfl ?_
      refine lv_aload_n C.x C.b dd_N_findFault_63 rfl (lv_at hl 1 rfl) ?_
      refine np_get (v := .ref (q 6)) C i_N hat.1 0 (nc_o0 _) rfl 1 (by decide) tw_205 rfl rfl dd_N_findFault_64 ?_
      refine np_get (v := .int (np_i (o1.2 6 6))) C i_Text hat.1 6 (nc_o6 _) rfl 6 (by decide) tw_98 rfl rfl dd_N_findFault_67 ?_
      refine np_callVv (As := [.int (np_i 2), .int (np_i (o1.2 6 6))]) (rest := []) C (c_N_noteFault l 2 (o1.2 6 6) _) np_allgood tw_791 tw_793 tp_14 tw_1 tw_794 (nA := 2) (by decide +kernel) rfl ⟨rfl, rfl, Nat.le_of_ble_eq_true rfl, Nat.le_of_ble_eq_true rfl⟩ (va_recv C.k hat.1 (ci := 0) (q0 := 0) rfl (nc_o0 _)) hat rfl hl.1 (Nat.le_of_ble_eq_true rfl) dd_N_findFault_70 hf (fun o5 H locs hf hat => ?_)
      refine lv_goto (tgt := 114) C.x C.b dd_N_findFault_73 (by decide) ?_
      exact w_f_N_findFault_114 C hQ   _ _ _ _ hf hat (lv_sub hl [] rfl)
  · refine lv_aload_n C.x C.b dd_N_findFault_33 rfl (lv_at hl 1 rfl) ?_
    refine lv_iconst (v := np_i 1) C.x C.b dd_N_findFault_34 rfl ?_
    refine lv_aload_n C.x C.b dd_N_findFault_35 rfl (lv_at hl 1 rfl) ?_
    refine np_get (v := .ref (q 6)) C i_N hat.1 0 (nc_o0 _) rfl 1 (by decide) tw_205 rfl rfl dd_N_findFault_36 ?_
    refine np_get (v := .ref (q 10)) C i_Text hat.1 6 (nc_o6 _) rfl 4 (by decide) tw_93 rfl rfl dd_N_findFault_39 ?_
    refine lv_iload_n C.x C.b dd_N_findFault_42 rfl (lv_at hl 0 rfl) ?_
    refine np_iaload C hat.1 10 (nc_a10 _) 0 rfl (by decide) dd_N_findFault_43 hf (fun hf => ?_)
    refine np_callVv (As := [.int (np_i 1), .int (np_i (o1.2 10 o1.1))]) (rest := []) C (c_N_noteFault l 1 (o1.2 10 o1.1) _) np_allgood tw_791 tw_793 tp_14 tw_1 tw_794 (nA := 2) (by decide +kernel) rfl ⟨rfl, rfl, Nat.le_of_ble_eq_true rfl, Nat.le_of_ble_eq_true rfl⟩ (va_recv C.k hat.1 (ci := 0) (q0 := 0) rfl (nc_o0 _)) hat rfl hl.1 (Nat.le_of_ble_eq_true rfl) dd_N_findFault_44 hf (fun o6 H locs hf hat => ?_)
    refine lv_goto (tgt := 114) C.x C.b dd_N_findFault_47 (by decide) ?_
    exact w_f_N_findFault_114 C hQ   _ _ _ _ hf hat (lv_sub hl [] rfl)
set_option maxHeartbeats 4000000 in
set_option maxRecDepth 100000 in
theorem c_N_findFault (l : Launch) {gA : Nat → Nat} {D : va_G} {q : Nat → Nat} {cA : Nat → ClassId} (σ : np_S) : np_Mv gA l D np_cl (np_ty cA) (nc_wd q cA) yy_N_findFault (.code yy_N_findFault prog_1_method_8_code 2 none :: np_al) { frames := 4, cells := 0, slots := 0, locals := 93 } [.ref (q 0)] σ (f_N_findFault  σ) :=
  np_mkv (by decide +kernel) (Nat.le_of_ble_eq_true rfl) (fun o p e R s m args below meth c Q A ls hf C hQ hat hl => w_f_N_findFault C hQ  σ _ _ _ hf hat (lv_sub hl [0] rfl))
set_option maxHeartbeats 4000000 in
set_option maxRecDepth 100000 in
theorem w_f_Chart_cell (C : np_Cx gA p R s m args c D np_cl (np_ty cA) A np_al "NotationParse$Chart" prog_2_method_20_code 4 { frames := 0, cells := 0, slots := 0, locals := 0 }) (hQ : ∀ (pc : Nat) (ls : Array Slot) (H : Heap) (locs : List Loc) (v : Int) {σ : np_S}, decode prog_2_method_20_code pc = .ok (.ireturn, 1) → some (v, σ) = some out → np_At D np_cl A (nc_wd q cA) s σ H locs → W p l e R s m args below meth c H locs 0 0 Q (F0 m pc ls [.int (np_i v)]))   : ∀ (x1 x2 x3 : Int) (σ : np_S) (H : Heap) (locs : List Loc) (ls : Array Slot), f_Chart_cell  x1 x2 x3 σ = some out → np_At D np_cl A (nc_wd q cA) s σ H locs → lv_has ls 4 [(1, .int (np_i x1)), (2, .int (np_i x2)), (3, .int (np_i x3))] → W p l e R s m args below meth c H locs 0 0 Q (F0 m 0 ls []) := by
  intro x1 x2 x3 σ H locs ls hf hat hl
  unfold f_Chart_cell at hf
  refine lv_iload_n C.x C.b dd_Chart_cell_0 rfl (lv_at hl 1 rfl) ?_
  refine lv_iload_n C.x C.b dd_Chart_cell_1 rfl (lv_at hl 1 rfl) ?_
  refine lv_iconst (v := np_i 1) C.x C.b dd_Chart_cell_2 rfl ?_
  refine np_isub C dd_Chart_cell_3 ?_
  refine np_imul C dd_Chart_cell_4 ?_
  refine lv_iconst (v := np_i 2) C.x C.b dd_Chart_cell_5 rfl ?_
  refine np_idiv C dd_Chart_cell_6 hf (fun hf => ?_)
  refine lv_iload_n C.x C.b dd_Chart_cell_7 rfl (lv_at hl 0 rfl) ?_
  refine np_iadd C dd_Chart_cell_8 ?_
  refine lv_bipush (v := np_i 11) C.x C.b dd_Chart_cell_9 (by decide +kernel) ?_
  refine np_imul C dd_Chart_cell_11 ?_
  refine lv_iload_n C.x C.b dd_Chart_cell_12 rfl (lv_at hl 2 rfl) ?_
  refine np_iadd C dd_Chart_cell_13 ?_
  exact hQ _ _ _ _ _ dd_Chart_cell_14 hf hat
set_option maxHeartbeats 4000000 in
set_option maxRecDepth 100000 in
theorem c_Chart_cell (l : Launch) {gA : Nat → Nat} {D : va_G} {q : Nat → Nat} {cA : Nat → ClassId} (x1 x2 x3 : Int) (σ : np_S) : np_Mi gA l D np_cl (np_ty cA) (nc_wd q cA) yy_Chart_cell (.code yy_Chart_cell prog_2_method_20_code 4 (some .int) :: np_al) { frames := 0, cells := 0, slots := 0, locals := 0 } [.ref (q 11), .int (np_i x1), .int (np_i x2), .int (np_i x3)] σ (f_Chart_cell x1 x2 x3 σ) :=
  np_mki (by decide +kernel) (Nat.le_of_ble_eq_true rfl) (fun o p e R s m args below meth c Q A ls hf C hQ hat hl => w_f_Chart_cell C hQ x1 x2 x3 σ _ _ _ hf hat (lv_sub hl [1, 2, 3] rfl))
set_option maxHeartbeats 4000000 in
set_option maxRecDepth 100000 in
theorem w_f_Chart_addTrees (C : np_Cx gA p R s m args c D np_cl (np_ty cA) A np_al "NotationParse$Chart" prog_2_method_18_code 3 { frames := 1, cells := 0, slots := 0, locals := 21 }) (hQ : ∀ (pc : Nat) (ls : Array Slot) (H : Heap) (locs : List Loc) {σ : np_S}, decode prog_2_method_18_code pc = .ok (.return_, 1) → some ((0 : Int), σ) = some out → np_At D np_cl A (nc_wd q cA) s σ H locs → W p l e R s m args below meth c H locs 0 0 Q (F0 m pc ls []))   : ∀ (x1 x2 : Int) (σ : np_S) (H : Heap) (locs : List Loc) (ls : Array Slot), f_Chart_addTrees  x1 x2 σ = some out → np_At D np_cl A (nc_wd q cA) s σ H locs → lv_has ls 3 [(0, .ref (q 11)), (1, .int (np_i x1)), (2, .int (np_i x2))] → W p l e R s m args below meth c H locs 0 0 Q (F0 m 0 ls []) := by
  intro x1 x2 σ H locs ls hf hat hl
  unfold f_Chart_addTrees at hf
  refine lv_aload_n C.x C.b dd_Chart_addTrees_0 rfl (lv_at hl 0 rfl) ?_
  refine np_get (v := .ref (q 14)) C i_Chart hat.1 11 (nc_o11 _) rfl 3 (by decide) tw_124 rfl rfl dd_Chart_addTrees_1 ?_
  refine lv_iload_n C.x C.b dd_Chart_addTrees_4 rfl (lv_at hl 1 rfl) ?_
  refine lv_aload_n C.x C.b dd_Chart_addTrees_5 rfl (lv_at hl 0 rfl) ?_
  refine np_get (v := .ref (q 14)) C i_Chart hat.1 11 (nc_o11 _) rfl 3 (by decide) tw_124 rfl rfl dd_Chart_addTrees_6 ?_
  refine lv_iload_n C.x C.b dd_Chart_addTrees_9 rfl (lv_at hl 1 rfl) ?_
  refine np_iaload C hat.1 14 (nc_a14 _) 0 rfl (by decide) dd_Chart_addTrees_10 hf (fun hf => ?_)
  refine lv_iload_n C.x C.b dd_Chart_addTrees_11 rfl (lv_at hl 2 rfl) ?_
  refine np_iadd C dd_Chart_addTrees_12 ?_
  refine np_ldc (v := 1000000) C tw_832 dd_Chart_addTrees_13 ?_
  refine np_mmin C tw_833 tw_293 tw_17 tw_294 (Nat.le_of_ble_eq_true rfl) (Nat.le_of_ble_eq_true rfl) hl.1 dd_Chart_addTrees_15 hf (fun hf => ?_)
  refine np_iastore C hat 14 (nc_a14 _) 0 rfl (by decide) (nc_s14 _ _ _) dd_Chart_addTrees_18 hf (fun H locs hat hf => ?_)
  exact hQ _ _ _ _ dd_Chart_addTrees_19 hf hat
set_option maxHeartbeats 4000000 in
set_option maxRecDepth 100000 in
theorem c_Chart_addTrees (l : Launch) {gA : Nat → Nat} {D : va_G} {q : Nat → Nat} {cA : Nat → ClassId} (x1 x2 : Int) (σ : np_S) : np_Mv gA l D np_cl (np_ty cA) (nc_wd q cA) yy_Chart_addTrees (.code yy_Chart_addTrees prog_2_method_18_code 3 none :: np_al) { frames := 1, cells := 0, slots := 0, locals := 21 } [.ref (q 11), .int (np_i x1), .int (np_i x2)] σ (f_Chart_addTrees x1 x2 σ) :=
  np_mkv (by decide +kernel) (Nat.le_of_ble_eq_true rfl) (fun o p e R s m args below meth c Q A ls hf C hQ hat hl => w_f_Chart_addTrees C hQ x1 x2 σ _ _ _ hf hat (lv_sub hl [0, 1, 2] rfl))
set_option maxHeartbeats 4000000 in
set_option maxRecDepth 100000 in
theorem w_f_Chart_sumTerms_109 (C : np_Cx gA p R s m args c D np_cl (np_ty cA) A np_al "NotationParse$Chart" prog_2_method_17_code 6 { frames := 2, cells := 0, slots := 0, locals := 43 }) (hQ : ∀ (pc : Nat) (ls : Array Slot) (H : Heap) (locs : List Loc) {σ : np_S}, decode prog_2_method_17_code pc = .ok (.return_, 1) → some ((0 : Int), σ) = some out → np_At D np_cl A (nc_wd q cA) s σ H locs → W p l e R s m args below meth c H locs 0 0 Q (F0 m pc ls []))   : ∀ (n : Nat), ∀ (x3 x4 : Int) (σ : np_S) (H : Heap) (locs : List Loc) (ls : Array Slot), f_Chart_sumTerms_109  n x3 x4 σ = some out → np_At D np_cl A (nc_wd q cA) s σ H locs → lv_has ls 6 [(0, .ref (q 11)), (3, .int (np_i x3)), (4, .int (np_i x4))] → W p l e R s m args below meth c H locs 0 0 Q (F0 m 109 ls []) := by
  intro n
  induction n with
  | zero => intro x3 x4 σ H locs ls hf; cases hf
  | succ n ih =>
    intro x3 x4 σ H locs ls hf hat hl
    have h109 := ih
    have hf : f_Chart_sumTerms_109_b  (fun x3 x4 σ => f_Chart_sumTerms_109  n x3 x4 σ) x3 x4 σ = some out := hf
    unfold f_Chart_sumTerms_109_b at hf
    refine lv_iload C.x C.b dd_Chart_sumTerms_109 (lv_at hl 2 rfl) ?_
    refine np_if_lt (tgt := 139) C dd_Chart_sumTerms_111 (by decide) hf (fun _ hf => ?_) (fun _ hf => ?_)
    · exact hQ _ _ _ _ dd_Chart_sumTerms_139 hf hat
    · refine lv_aload_n C.x C.b dd_Chart_sumTerms_114 rfl (lv_at hl 0 rfl) ?_
      refine lv_iload_n C.x C.b dd_Chart_sumTerms_115 rfl (lv_at hl 1 rfl) ?_
      refine lv_iload C.x C.b dd_Chart_sumTerms_116 (lv_at hl 2 rfl) ?_
      refine np_iadd C dd_Chart_sumTerms_118 ?_
      refine lv_aload_n C.x C.b dd_Chart_sumTerms_119 rfl (lv_at hl 0 rfl) ?_
      refine np_get (v := .ref (q 14)) C i_Chart hat.1 11 (nc_o11 _) rfl 3 (by decide) tw_124 rfl rfl dd_Chart_sumTerms_120 ?_
      refine lv_iload_n C.x C.b dd_Chart_sumTerms_123 rfl (lv_at hl 1 rfl) ?_
      refine lv_iload C.x C.b dd_Chart_sumTerms_124 (lv_at hl 2 rfl) ?_
      refine np_iadd C dd_Chart_sumTerms_126 ?_
      refine lv_iconst (v := np_i 1) C.x C.b dd_Chart_sumTerms_127 rfl ?_
      refine np_iadd C dd_Chart_sumTerms_128 ?_
      refine np_iaload C hat.1 14 (nc_a14 _) 0 rfl (by decide) dd_Chart_sumTerms_129 hf (fun hf => ?_)
      refine np_callVv (As := [.int (np_i (x3 + x4)), .int (np_i (σ 14 ((x3 + x4) + 1)))]) (rest := []) C (c_Chart_addTrees l (x3 + x4) (σ 14 ((x3 + x4) + 1)) _) np_allgood tw_828 tw_830 tp_20 tw_5 tw_831 (nA := 2) (by decide +kernel) rfl ⟨rfl, rfl, Nat.le_of_ble_eq_true rfl, Nat.le_of_ble_eq_true rfl⟩ (va_recv C.k hat.1 (ci := 3) (q0 := 11) rfl (nc_o11 _)) hat rfl hl.1 (Nat.le_of_ble_eq_true rfl) dd_Chart_sumTerms_130 hf (fun o1 H locs hf hat => ?_)
      refine lv_iinc (v := np_i (x4 + (-1))) (lv' := [(4, .int (np_i (x4 + (-1)))), (0, .ref (q 11)), (3, .int (np_i x3))]) C.x C.b dd_Chart_sumTerms_133 hl (k := 2) rfl (np_inc _ _) (by decide) rfl (fun ls hl => ?_)
      refine lv_goto (tgt := 109) C.x C.b dd_Chart_sumTerms_136 (by decide) ?_
      exact h109 _ _ _ _ _ _ hf hat (lv_sub hl [1, 2, 0] rfl)
set_option maxHeartbeats 4000000 in
set_option maxRecDepth 100000 in
theorem w_f_Chart_sumTerms_99 (C : np_Cx gA p R s m args c D np_cl (np_ty cA) A np_al "NotationParse$Chart" prog_2_method_17_code 6 { frames := 2, cells := 0, slots := 0, locals := 43 }) (hQ : ∀ (pc : Nat) (ls : Array Slot) (H : Heap) (locs : List Loc) {σ : np_S}, decode prog_2_method_17_code pc = .ok (.return_, 1) → some ((0 : Int), σ) = some out → np_At D np_cl A (nc_wd q cA) s σ H locs → W p l e R s m args below meth c H locs 0 0 Q (F0 m pc ls [])) {k37 : (Int → Int → Int → Int → np_S → Option np_O)} (h37 : ∀ (x1 x2 x3 x4 : Int) (σ : np_S) (H : Heap) (locs : List Loc) (ls : Array Slot), k37 x1 x2 x3 x4 σ = some out → np_At D np_cl A (nc_wd q cA) s σ H locs → lv_has ls 6 [(0, .ref (q 11)), (1, .int (np_i x1)), (2, .int (np_i x2)), (3, .int (np_i x3)), (4, .int (np_i x4))] → W p l e R s m args below meth c H locs 0 0 Q (F0 m 37 ls [])) : ∀ (x1 x2 x3 x4 : Int) (σ : np_S) (H : Heap) (locs : List Loc) (ls : Array Slot), f_Chart_sumTerms_99 k37 x1 x2 x3 x4 σ = some out → np_At D np_cl A (nc_wd q cA) s σ H locs → lv_has ls 6 [(0, .ref (q 11)), (1, .int (np_i x1)), (2, .int (np_i x2)), (3, .int (np_i x3)), (4, .int (np_i x4))] → W p l e R s m args below meth c H locs 0 0 Q (F0 m 99 ls []) := by
  intro x1 x2 x3 x4 σ H locs ls hf hat hl
  unfold f_Chart_sumTerms_99 at hf
  refine lv_iinc (v := np_i (x4 + 1)) (lv' := [(4, .int (np_i (x4 + 1))), (0, .ref (q 11)), (1, .int (np_i x1)), (2, .int (np_i x2)), (3, .int (np_i x3))]) C.x C.b dd_Chart_sumTerms_99 hl (k := 4) rfl (np_inc _ _) (by decide) rfl (fun ls hl => ?_)
  refine lv_goto (tgt := 37) C.x C.b dd_Chart_sumTerms_102 (by decide) ?_
  exact h37 _ _ _ _ _ _ _ _ hf hat (lv_sub hl [1, 2, 3, 4, 0] rfl)
set_option maxHeartbeats 4000000 in
set_option maxRecDepth 100000 in
theorem w_f_Chart_sumTerms_37 (C : np_Cx gA p R s m args c D np_cl (np_ty cA) A np_al "NotationParse$Chart" prog_2_method_17_code 6 { frames := 2, cells := 0, slots := 0, locals := 43 }) (hQ : ∀ (pc : Nat) (ls : Array Slot) (H : Heap) (locs : List Loc) {σ : np_S}, decode prog_2_method_17_code pc = .ok (.return_, 1) → some ((0 : Int), σ) = some out → np_At D np_cl A (nc_wd q cA) s σ H locs → W p l e R s m args below meth c H locs 0 0 Q (F0 m pc ls []))   : ∀ (n : Nat), ∀ (x1 x2 x3 x4 : Int) (σ : np_S) (H : Heap) (locs : List Loc) (ls : Array Slot), f_Chart_sumTerms_37  n x1 x2 x3 x4 σ = some out → np_At D np_cl A (nc_wd q cA) s σ H locs → lv_has ls 6 [(0, .ref (q 11)), (1, .int (np_i x1)), (2, .int (np_i x2)), (3, .int (np_i x3)), (4, .int (np_i x4))] → W p l e R s m args below meth c H locs 0 0 Q (F0 m 37 ls []) := by
  intro n
  induction n with
  | zero => intro x1 x2 x3 x4 σ H locs ls hf; cases hf
  | succ n ih =>
    intro x1 x2 x3 x4 σ H locs ls hf hat hl
    have h37 := ih
    have hf : f_Chart_sumTerms_37_b  (fun x1 x2 x3 x4 σ => f_Chart_sumTerms_37  n x1 x2 x3 x4 σ) x1 x2 x3 x4 σ = some out := hf
    unfold f_Chart_sumTerms_37_b at hf
    refine lv_iload C.x C.b dd_Chart_sumTerms_37 (lv_at hl 4 rfl) ?_
    refine lv_aload_n C.x C.b dd_Chart_sumTerms_39 rfl (lv_at hl 0 rfl) ?_
    refine np_get (v := .ref (q 1)) C i_Chart hat.1 11 (nc_o11 _) rfl 0 (by decide) tw_121 rfl rfl dd_Chart_sumTerms_40 ?_
    refine np_get (v := .int (np_i (σ 1 4))) C i_Grammar hat.1 1 (nc_o1 _) rfl 4 (by decide) tw_61 rfl rfl dd_Chart_sumTerms_43 ?_
    refine np_icmp_ge (tgt := 105) C dd_Chart_sumTerms_46 (by decide) hf (fun _ hf => ?_) (fun _ hf => ?_)
    · refine lv_bipush (v := np_i 9) C.x C.b dd_Chart_sumTerms_105 (by decide +kernel) ?_
      refine lv_istore (lv' := [(4, .int (np_i 9)), (0, .ref (q 11)), (1, .int (np_i x1)), (2, .int (np_i x2)), (3, .int (np_i x3))]) C.x C.b dd_Chart_sumTerms_107 hl (by decide) rfl (fun ls hl => ?_)
      exact w_f_Chart_sumTerms_109 C hQ  6000 _ _ _ _ _ _ hf hat (lv_sub hl [1, 4, 0] rfl)
    · refine lv_aload_n C.x C.b dd_Chart_sumTerms_49 rfl (lv_at hl 0 rfl) ?_
      refine np_get (v := .ref (q 1)) C i_Chart hat.1 11 (nc_o11 _) rfl 0 (by decide) tw_121 rfl rfl dd_Chart_sumTerms_50 ?_
      refine lv_iload C.x C.b dd_Chart_sumTerms_53 (lv_at hl 4 rfl) ?_
      refine np_callVi (As := [.int (np_i x4)]) (rest := []) C (c_Grammar_lastDot l x4 _) np_allgood tw_775 tw_776 tw_777 tw_2 tw_778 (nA := 1) (by decide +kernel) rfl ⟨rfl, rfl, Nat.le_of_ble_eq_true rfl, Nat.le_of_ble_eq_true rfl⟩ (va_recv C.k hat.1 (ci := 1) (q0 := 1) rfl (nc_o1 _)) hat rfl hl.1 (Nat.le_of_ble_eq_true rfl) dd_Chart_sumTerms_55 hf (fun o2 H locs hf hat => ?_)
      refine lv_istore (lv' := [(5, .int (np_i o2.1)), (0, .ref (q 11)), (1, .int (np_i x1)), (2, .int (np_i x2)), (3, .int (np_i x3)), (4, .int (np_i x4))]) C.x C.b dd_Chart_sumTerms_58 hl (by decide) rfl (fun ls hl => ?_)
      refine lv_aload_n C.x C.b dd_Chart_sumTerms_60 rfl (lv_at hl 1 rfl) ?_
      refine lv_iload_n C.x C.b dd_Chart_sumTerms_61 rfl (lv_at hl 2 rfl) ?_
      refine lv_iload_n C.x C.b dd_Chart_sumTerms_62 rfl (lv_at hl 3 rfl) ?_
      refine lv_iload C.x C.b dd_Chart_sumTerms_63 (lv_at hl 0 rfl) ?_
      refine np_callVi (As := [.int (np_i x1), .int (np_i x2), .int (np_i o2.1)]) (rest := []) C (c_Chart_isReached l x1 x2 o2.1 _) np_allgood tw_779 tw_781 tp_11 tw_5 tw_782 (nA := 3) (by decide +kernel) rfl ⟨rfl, rfl, Nat.le_of_ble_eq_true rfl, Nat.le_of_ble_eq_true rfl⟩ (va_recv C.k hat.1 (ci := 3) (q0 := 11) rfl (nc_o11 _)) hat rfl hl.1 (Nat.le_of_ble_eq_true rfl) dd_Chart_sumTerms_65 hf (fun o3 H locs hf hat => ?_)
      refine np_if_eq (tgt := 99) C dd_Chart_sumTerms_68 (by decide) hf (fun _ hf => ?_) (fun _ hf => ?_)
      · exact w_f_Chart_sumTerms_99 C hQ h37 _ _ _ _ _ _ _ _ hf hat (lv_sub hl [1, 2, 3, 4, 5] rfl)
      · refine lv_aload_n C.x C.b dd_Chart_sumTerms_71 rfl (lv_at hl 1 rfl) ?_
        refine lv_iload_n C.x C.b dd_Chart_sumTerms_72 rfl (lv_at hl 4 rfl) ?_
        refine lv_aload_n C.x C.b dd_Chart_sumTerms_73 rfl (lv_at hl 1 rfl) ?_
        refine np_get (v := .ref (q 1)) C i_Chart hat.1 11 (nc_o11 _) rfl 0 (by decide) tw_121 rfl rfl dd_Chart_sumTerms_74 ?_
        refine np_get (v := .ref (q 4)) C i_Grammar hat.1 1 (nc_o1 _) rfl 2 (by decide) tw_56 rfl rfl dd_Chart_sumTerms_77 ?_
        refine lv_iload C.x C.b dd_Chart_sumTerms_80 (lv_at hl 5 rfl) ?_
        refine np_iaload C hat.1 4 (nc_a4 _) 0 rfl (by decide) dd_Chart_sumTerms_82 hf (fun hf => ?_)
        refine np_iadd C dd_Chart_sumTerms_83 ?_
        refine lv_aload_n C.x C.b dd_Chart_sumTerms_84 rfl (lv_at hl 1 rfl) ?_
        refine np_get (v := .ref (q 13)) C i_Chart hat.1 11 (nc_o11 _) rfl 2 (by decide) tw_123 rfl rfl dd_Chart_sumTerms_85 ?_
        refine lv_iload_n C.x C.b dd_Chart_sumTerms_88 rfl (lv_at hl 3 rfl) ?_
        refine lv_bipush (v := np_i 98) C.x C.b dd_Chart_sumTerms_89 (by decide +kernel) ?_
        refine np_imul C dd_Chart_sumTerms_91 ?_
        refine lv_iload C.x C.b dd_Chart_sumTerms_92 (lv_at hl 0 rfl) ?_
        refine np_iadd C dd_Chart_sumTerms_94 ?_
        refine np_iaload C hat.1 13 (nc_a13 _) 0 rfl (by decide) dd_Chart_sumTerms_95 hf (fun hf => ?_)
        refine np_callVv (As := [.int (np_i (x3 + (o3.2 4 x4))), .int (np_i (o3.2 13 ((x2 * 98) + o2.1)))]) (rest := []) C (c_Chart_addTrees l (x3 + (o3.2 4 x4)) (o3.2 13 ((x2 * 98) + o2.1)) _) np_allgood tw_828 tw_830 tp_20 tw_5 tw_831 (nA := 2) (by decide +kernel) rfl ⟨rfl, rfl, Nat.le_of_ble_eq_true rfl, Nat.le_of_ble_eq_true rfl⟩ (va_recv C.k hat.1 (ci := 3) (q0 := 11) rfl (nc_o11 _)) hat rfl hl.1 (Nat.le_of_ble_eq_true rfl) dd_Chart_sumTerms_96 hf (fun o4 H locs hf hat => ?_)
        exact w_f_Chart_sumTerms_99 C hQ h37 _ _ _ _ _ _ _ _ hf hat (lv_sub hl [1, 2, 3, 4, 5] rfl)
set_option maxHeartbeats 4000000 in
set_option maxRecDepth 100000 in
theorem w_f_Chart_sumTerms_11 (C : np_Cx gA p R s m args c D np_cl (np_ty cA) A np_al "NotationParse$Chart" prog_2_method_17_code 6 { frames := 2, cells := 0, slots := 0, locals := 43 }) (hQ : ∀ (pc : Nat) (ls : Array Slot) (H : Heap) (locs : List Loc) {σ : np_S}, decode prog_2_method_17_code pc = .ok (.return_, 1) → some ((0 : Int), σ) = some out → np_At D np_cl A (nc_wd q cA) s σ H locs → W p l e R s m args below meth c H locs 0 0 Q (F0 m pc ls []))   : ∀ (n : Nat), ∀ (x1 x2 x3 x4 : Int) (σ : np_S) (H : Heap) (locs : List Loc) (ls : Array Slot), f_Chart_sumTerms_11  n x1 x2 x3 x4 σ = some out → np_At D np_cl A (nc_wd q cA) s σ H locs → lv_has ls 6 [(0, .ref (q 11)), (1, .int (np_i x1)), (2, .int (np_i x2)), (3, .int (np_i x3)), (4, .int (np_i x4))] → W p l e R s m args below meth c H locs 0 0 Q (F0 m 11 ls []) := by
  intro n
  induction n with
  | zero => intro x1 x2 x3 x4 σ H locs ls hf; cases hf
  | succ n ih =>
    intro x1 x2 x3 x4 σ H locs ls hf hat hl
    have h11 := ih
    have hf : f_Chart_sumTerms_11_b  (fun x1 x2 x3 x4 σ => f_Chart_sumTerms_11  n x1 x2 x3 x4 σ) x1 x2 x3 x4 σ = some out := hf
    unfold f_Chart_sumTerms_11_b at hf
    refine lv_iload C.x C.b dd_Chart_sumTerms_11 (lv_at hl 4 rfl) ?_
    refine lv_bipush (v := np_i 10) C.x C.b dd_Chart_sumTerms_13 (by decide +kernel) ?_
    refine np_icmp_gt (tgt := 34) C dd_Chart_sumTerms_15 (by decide) hf (fun _ hf => ?_) (fun _ hf => ?_)
    · refine lv_iconst (v := np_i 0) C.x C.b dd_Chart_sumTerms_34 rfl ?_
      refine lv_istore (lv' := [(4, .int (np_i 0)), (0, .ref (q 11)), (1, .int (np_i x1)), (2, .int (np_i x2)), (3, .int (np_i x3))]) C.x C.b dd_Chart_sumTerms_35 hl (by decide) rfl (fun ls hl => ?_)
      exact w_f_Chart_sumTerms_37 C hQ  6000 _ _ _ _ _ _ _ _ hf hat (lv_sub hl [1, 2, 3, 4, 0] rfl)
    · refine lv_aload_n C.x C.b dd_Chart_sumTerms_18 rfl (lv_at hl 0 rfl) ?_
      refine np_get (v := .ref (q 14)) C i_Chart hat.1 11 (nc_o11 _) rfl 3 (by decide) tw_124 rfl rfl dd_Chart_sumTerms_19 ?_
      refine lv_iload_n C.x C.b dd_Chart_sumTerms_22 rfl (lv_at hl 3 rfl) ?_
      refine lv_iload C.x C.b dd_Chart_sumTerms_23 (lv_at hl 4 rfl) ?_
      refine np_iadd C dd_Chart_sumTerms_25 ?_
      refine lv_iconst (v := np_i 0) C.x C.b dd_Chart_sumTerms_26 rfl ?_
      refine np_iastore C hat 14 (nc_a14 _) 0 rfl (by decide) (nc_s14 _ _ _) dd_Chart_sumTerms_27 hf (fun H locs hat hf => ?_)
      refine lv_iinc (v := np_i (x4 + 1)) (lv' := [(4, .int (np_i (x4 + 1))), (0, .ref (q 11)), (1, .int (np_i x1)), (2, .int (np_i x2)), (3, .int (np_i x3))]) C.x C.b dd_Chart_sumTerms_28 hl (k := 4) rfl (np_inc _ _) (by decide) rfl (fun ls hl => ?_)
      refine lv_goto (tgt := 11) C.x C.b dd_Chart_sumTerms_31 (by decide) ?_
      exact h11 _ _ _ _ _ _ _ _ hf hat (lv_sub hl [1, 2, 3, 4, 0] rfl)
set_option maxHeartbeats 4000000 in
set_option maxRecDepth 100000 in
theorem w_f_Chart_sumTerms (C : np_Cx gA p R s m args c D np_cl (np_ty cA) A np_al "NotationParse$Chart" prog_2_method_17_code 6 { frames := 2, cells := 0, slots := 0, locals := 43 }) (hQ : ∀ (pc : Nat) (ls : Array Slot) (H : Heap) (locs : List Loc) {σ : np_S}, decode prog_2_method_17_code pc = .ok (.return_, 1) → some ((0 : Int), σ) = some out → np_At D np_cl A (nc_wd q cA) s σ H locs → W p l e R s m args below meth c H locs 0 0 Q (F0 m pc ls []))   : ∀ (x1 x2 : Int) (σ : np_S) (H : Heap) (locs : List Loc) (ls : Array Slot), f_Chart_sumTerms  x1 x2 σ = some out → np_At D np_cl A (nc_wd q cA) s σ H locs → lv_has ls 6 [(0, .ref (q 11)), (1, .int (np_i x1)), (2, .int (np_i x2))] → W p l e R s m args below meth c H locs 0 0 Q (F0 m 0 ls []) := by
  intro x1 x2 σ H locs ls hf hat hl
  unfold f_Chart_sumTerms at hf
  refine lv_aload_n C.x C.b dd_Chart_sumTerms_0 rfl (lv_at hl 0 rfl) ?_
  refine lv_iload_n C.x C.b dd_Chart_sumTerms_1 rfl (lv_at hl 1 rfl) ?_
  refine lv_iload_n C.x C.b dd_Chart_sumTerms_2 rfl (lv_at hl 2 rfl) ?_
  refine lv_iconst (v := np_i 0) C.x C.b dd_Chart_sumTerms_3 rfl ?_
  refine np_callVi (As := [.int (np_i x1), .int (np_i x2), .int (np_i 0)]) (rest := []) C (c_Chart_cell l x1 x2 0 _) np_allgood tw_816 tw_818 tp_18 tw_5 tw_819 (nA := 3) (by decide +kernel) rfl ⟨rfl, rfl, Nat.le_of_ble_eq_true rfl, Nat.le_of_ble_eq_true rfl⟩ (va_recv C.k hat.1 (ci := 3) (q0 := 11) rfl (nc_o11 _)) hat rfl hl.1 (Nat.le_of_ble_eq_true rfl) dd_Chart_sumTerms_4 hf (fun o5 H locs hf hat => ?_)
  refine lv_istore_n (lv' := [(3, .int (np_i o5.1)), (0, .ref (q 11)), (1, .int (np_i x1)), (2, .int (np_i x2))]) C.x C.b dd_Chart_sumTerms_7 rfl hl (by decide) rfl (fun ls hl => ?_)
  refine lv_iconst (v := np_i 0) C.x C.b dd_Chart_sumTerms_8 rfl ?_
  refine lv_istore (lv' := [(4, .int (np_i 0)), (3, .int (np_i o5.1)), (0, .ref (q 11)), (1, .int (np_i x1)), (2, .int (np_i x2))]) C.x C.b dd_Chart_sumTerms_9 hl (by decide) rfl (fun ls hl => ?_)
  exact w_f_Chart_sumTerms_11 C hQ  6000 _ _ _ _ _ _ _ _ hf hat (lv_sub hl [2, 3, 4, 1, 0] rfl)
set_option maxHeartbeats 4000000 in
set_option maxRecDepth 100000 in
theorem c_Chart_sumTerms (l : Launch) {gA : Nat → Nat} {D : va_G} {q : Nat → Nat} {cA : Nat → ClassId} (x1 x2 : Int) (σ : np_S) : np_Mv gA l D np_cl (np_ty cA) (nc_wd q cA) yy_Chart_sumTerms (.code yy_Chart_sumTerms prog_2_method_17_code 6 none :: np_al) { frames := 2, cells := 0, slots := 0, locals := 43 } [.ref (q 11), .int (np_i x1), .int (np_i x2)] σ (f_Chart_sumTerms x1 x2 σ) :=
  np_mkv (by decide +kernel) (Nat.le_of_ble_eq_true rfl) (fun o p e R s m args below meth c Q A ls hf C hQ hat hl => w_f_Chart_sumTerms C hQ x1 x2 σ _ _ _ hf hat (lv_sub hl [0, 1, 2] rfl))
end NW2
