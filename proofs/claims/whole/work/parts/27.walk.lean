section NW7
variable {p : Program} {l : Launch} {e : Env} {R : Room} {s : State} {m : MethodId} {args : Array Value} {below : List Frame} {meth : Method} {c : Code} {Q : State → Prop} {D : va_G} {A : Nat → Prop} {q : Nat → Nat} {cA : Nat → ClassId} {out : np_O} {gA : Nat → Nat}
set_option maxHeartbeats 4000000 in
set_option maxRecDepth 100000 in
theorem w_f_M_less_15 (C : np_Cx gA p R s m args c D np_cl (np_ty cA) A np_al "NotationParseModel" prog_9_method_19_code 2 { frames := 0, cells := 0, slots := 0, locals := 0 }) (hQ : ∀ (pc : Nat) (ls : Array Slot) (H : Heap) (locs : List Loc) (v : Int) {σ : np_S}, decode prog_9_method_19_code pc = .ok (.ireturn, 1) → some (v, σ) = some out → np_At D np_cl A (nc_wd q cA) s σ H locs → W p l e R s m args below meth c H locs 0 0 Q (F0 m pc ls [.int (np_i v)]))   : ∀ (t0 : Int) (σ : np_S) (H : Heap) (locs : List Loc) (ls : Array Slot), f_M_less_15  t0 σ = some out → np_At D np_cl A (nc_wd q cA) s σ H locs → lv_has ls 2 [] → W p l e R s m args below meth c H locs 0 0 Q (F0 m 15 ls [.int (np_i t0)]) := by
  intro t0 σ H locs ls hf hat hl
  unfold f_M_less_15 at hf
  exact hQ _ _ _ _ _ dd_M_less_15 hf hat
set_option maxHeartbeats 4000000 in
set_option maxRecDepth 100000 in
theorem w_f_M_less (C : np_Cx gA p R s m args c D np_cl (np_ty cA) A np_al "NotationParseModel" prog_9_method_19_code 2 { frames := 0, cells := 0, slots := 0, locals := 0 }) (hQ : ∀ (pc : Nat) (ls : Array Slot) (H : Heap) (locs : List Loc) (v : Int) {σ : np_S}, decode prog_9_method_19_code pc = .ok (.ireturn, 1) → some (v, σ) = some out → np_At D np_cl A (nc_wd q cA) s σ H locs → W p l e R s m args below meth c H locs 0 0 Q (F0 m pc ls [.int (np_i v)]))   : ∀ (x0 : Int) (σ : np_S) (H : Heap) (locs : List Loc) (ls : Array Slot), f_M_less  x0 σ = some out → np_At D np_cl A (nc_wd q cA) s σ H locs → lv_has ls 2 [(0, .long (np_l x0))] → W p l e R s m args below meth c H locs 0 0 Q (F0 m 0 ls []) := by
  intro x0 σ H locs ls hf hat hl
  unfold f_M_less at hf
  refine lv_lload_n C.x C.b dd_M_less_0 rfl (lv_at hl 0 rfl) ?_
  refine np_ldc2 (v := 1000000) C tw_1089 dd_M_less_1 ?_
  refine np_lcmp C dd_M_less_4 hf (fun hf => ?_)
  refine np_if_le (tgt := 13) C dd_M_less_5 (by decide) hf (fun _ hf => ?_) (fun _ hf => ?_)
  · refine lv_lload_n C.x C.b dd_M_less_13 rfl (lv_at hl 0 rfl) ?_
    refine np_l2i C dd_M_less_14 ?_
    exact w_f_M_less_15 C hQ  _ _ _ _ _ hf hat (lv_sub hl [] rfl)
  · refine np_ldc (v := 1000000) C tw_1090 dd_M_less_8 ?_
    refine lv_goto (tgt := 15) C.x C.b dd_M_less_10 (by decide) ?_
    exact w_f_M_less_15 C hQ  _ _ _ _ _ hf hat (lv_sub hl [] rfl)
set_option maxHeartbeats 4000000 in
set_option maxRecDepth 100000 in
theorem c_M_less (l : Launch) {gA : Nat → Nat} {D : va_G} {q : Nat → Nat} {cA : Nat → ClassId} (x0 : Int) (σ : np_S) : np_Mi gA l D np_cl (np_ty cA) (nc_wd q cA) yy_M_less (.code yy_M_less prog_9_method_19_code 2 (some .int) :: np_al) { frames := 0, cells := 0, slots := 0, locals := 0 } [.long (np_l x0)] σ (f_M_less x0 σ) :=
  np_mki (by decide +kernel) (Nat.le_of_ble_eq_true rfl) (fun o p e R s m args below meth c Q A ls hf C hQ hat hl => w_f_M_less C hQ x0 σ _ _ _ hf hat (lv_sub hl [0] rfl))
set_option maxHeartbeats 4000000 in
set_option maxRecDepth 100000 in
theorem w_f_M_cell (C : np_Cx gA p R s m args c D np_cl (np_ty cA) A np_al "NotationParseModel" prog_9_method_20_code 3 { frames := 0, cells := 0, slots := 0, locals := 0 }) (hQ : ∀ (pc : Nat) (ls : Array Slot) (H : Heap) (locs : List Loc) (v : Int) {σ : np_S}, decode prog_9_method_20_code pc = .ok (.ireturn, 1) → some (v, σ) = some out → np_At D np_cl A (nc_wd q cA) s σ H locs → W p l e R s m args below meth c H locs 0 0 Q (F0 m pc ls [.int (np_i v)]))   : ∀ (x0 x1 x2 : Int) (σ : np_S) (H : Heap) (locs : List Loc) (ls : Array Slot), f_M_cell  x0 x1 x2 σ = some out → np_At D np_cl A (nc_wd q cA) s σ H locs → lv_has ls 3 [(0, .int (np_i x0)), (1, .int (np_i x1)), (2, .int (np_i x2))] → W p l e R s m args below meth c H locs 0 0 Q (F0 m 0 ls []) := by
  intro x0 x1 x2 σ H locs ls hf hat hl
  unfold f_M_cell at hf
  refine lv_iload_n C.x C.b dd_M_cell_0 rfl (lv_at hl 0 rfl) ?_
  refine lv_bipush (v := np_i 31) C.x C.b dd_M_cell_1 (by decide +kernel) ?_
  refine np_imul C dd_M_cell_3 ?_
  refine lv_iload_n C.x C.b dd_M_cell_4 rfl (lv_at hl 1 rfl) ?_
  refine np_iadd C dd_M_cell_5 ?_
  refine lv_bipush (v := np_i 31) C.x C.b dd_M_cell_6 (by decide +kernel) ?_
  refine np_imul C dd_M_cell_8 ?_
  refine lv_iload_n C.x C.b dd_M_cell_9 rfl (lv_at hl 2 rfl) ?_
  refine np_iadd C dd_M_cell_10 ?_
  exact hQ _ _ _ _ _ dd_M_cell_11 hf hat
set_option maxHeartbeats 4000000 in
set_option maxRecDepth 100000 in
theorem c_M_cell (l : Launch) {gA : Nat → Nat} {D : va_G} {q : Nat → Nat} {cA : Nat → ClassId} (x0 x1 x2 : Int) (σ : np_S) : np_Mi gA l D np_cl (np_ty cA) (nc_wd q cA) yy_M_cell (.code yy_M_cell prog_9_method_20_code 3 (some .int) :: np_al) { frames := 0, cells := 0, slots := 0, locals := 0 } [.int (np_i x0), .int (np_i x1), .int (np_i x2)] σ (f_M_cell x0 x1 x2 σ) :=
  np_mki (by decide +kernel) (Nat.le_of_ble_eq_true rfl) (fun o p e R s m args below meth c Q A ls hf C hQ hat hl => w_f_M_cell C hQ x0 x1 x2 σ _ _ _ hf hat (lv_sub hl [0, 1, 2] rfl))
set_option maxHeartbeats 4000000 in
set_option maxRecDepth 100000 in
theorem w_f_M_waysOf_94 (C : np_Cx gA p R s m args c D np_cl (np_ty cA) A np_al "NotationParseModel" prog_9_method_21_code 9 { frames := 1, cells := 0, slots := 0, locals := 22 }) (hQ : ∀ (pc : Nat) (ls : Array Slot) (H : Heap) (locs : List Loc) (v : Int) {σ : np_S}, decode prog_9_method_21_code pc = .ok (.ireturn, 1) → some (v, σ) = some out → np_At D np_cl A (nc_wd q cA) s σ H locs → W p l e R s m args below meth c H locs 0 0 Q (F0 m pc ls [.int (np_i v)]))   : ∀ (n : Nat), ∀ (x3 x4 x5 x6 x8 : Int) (σ : np_S) (H : Heap) (locs : List Loc) (ls : Array Slot), f_M_waysOf_94  n x3 x4 x5 x6 x8 σ = some out → np_At D np_cl A (nc_wd q cA) s σ H locs → lv_has ls 9 [(0, .ref (q 29)), (3, .int (np_i x3)), (4, .int (np_i x4)), (5, .int (np_i x5)), (6, .long (np_l x6)), (8, .int (np_i x8))] → W p l e R s m args below meth c H locs 0 0 Q (F0 m 94 ls []) := by
  intro n
  induction n with
  | zero => intro x3 x4 x5 x6 x8 σ H locs ls hf; cases hf
  | succ n ih =>
    intro x3 x4 x5 x6 x8 σ H locs ls hf hat hl
    have h94 := ih
    have hf : f_M_waysOf_94_b  (fun x3 x4 x5 x6 x8 σ => f_M_waysOf_94  n x3 x4 x5 x6 x8 σ) x3 x4 x5 x6 x8 σ = some out := hf
    unfold f_M_waysOf_94_b at hf
    refine lv_iload C.x C.b dd_M_waysOf_94 (lv_at hl 5 rfl) ?_
    refine lv_iload C.x C.b dd_M_waysOf_96 (lv_at hl 2 rfl) ?_
    refine np_icmp_gt (tgt := 153) C dd_M_waysOf_98 (by decide) hf (fun _ hf => ?_) (fun _ hf => ?_)
    · refine lv_lload C.x C.b dd_M_waysOf_153 (lv_at hl 4 rfl) ?_
      refine np_l2i C dd_M_waysOf_155 ?_
      exact hQ _ _ _ _ _ dd_M_waysOf_156 hf hat
    · refine lv_lload C.x C.b dd_M_waysOf_101 (lv_at hl 4 rfl) ?_
      refine lv_aload_n C.x C.b dd_M_waysOf_103 rfl (lv_at hl 0 rfl) ?_
      refine np_get (v := .ref (q 37)) C i_M hat.1 29 (nc_o29 _) rfl 14 (by decide) tw_937 rfl rfl dd_M_waysOf_104 ?_
      refine lv_aload_n C.x C.b dd_M_waysOf_107 rfl (lv_at hl 0 rfl) ?_
      refine np_get (v := .ref (q 30)) C i_M hat.1 29 (nc_o29 _) rfl 3 (by decide) tw_926 rfl rfl dd_M_waysOf_108 ?_
      refine lv_iload C.x C.b dd_M_waysOf_111 (lv_at hl 3 rfl) ?_
      refine np_iaload C hat.1 30 (nc_a30 _) 0 rfl (by decide) dd_M_waysOf_113 hf (fun hf => ?_)
      refine lv_iload_n C.x C.b dd_M_waysOf_114 rfl (lv_at hl 1 rfl) ?_
      refine lv_iload C.x C.b dd_M_waysOf_115 (lv_at hl 5 rfl) ?_
      refine np_callSi (As := [.int (np_i (σ 30 x5)), .int (np_i x3), .int (np_i x8)]) (rest := [.ref (q 37), .long (np_l x6)]) C (c_M_cell l (σ 30 x5) x3 x8 _) np_allgood tw_1079 tw_1080 tw_8 tw_1081 (nA := 3) (by decide +kernel) rfl ⟨rfl, rfl, Nat.le_of_ble_eq_true rfl, Nat.le_of_ble_eq_true rfl⟩ hat rfl hl.1 (Nat.le_of_ble_eq_true rfl) dd_M_waysOf_117 hf (fun o1 H locs hf hat => ?_)
      refine np_iaload C hat.1 37 (nc_a37 _) 0 rfl (by decide) dd_M_waysOf_120 hf (fun hf => ?_)
      refine np_i2l C dd_M_waysOf_121 hf (fun hf => ?_)
      refine lv_aload_n C.x C.b dd_M_waysOf_122 rfl (lv_at hl 0 rfl) ?_
      refine np_get (v := .ref (q 38)) C i_M hat.1 29 (nc_o29 _) rfl 15 (by decide) tw_938 rfl rfl dd_M_waysOf_123 ?_
      refine lv_iload C.x C.b dd_M_waysOf_126 (lv_at hl 3 rfl) ?_
      refine lv_iconst (v := np_i 1) C.x C.b dd_M_waysOf_128 rfl ?_
      refine np_iadd C dd_M_waysOf_129 ?_
      refine lv_iload C.x C.b dd_M_waysOf_130 (lv_at hl 5 rfl) ?_
      refine lv_iload C.x C.b dd_M_waysOf_132 (lv_at hl 2 rfl) ?_
      refine np_callSi (As := [.int (np_i (x5 + 1)), .int (np_i x8), .int (np_i x4)]) (rest := [.ref (q 38), .long (np_l (o1.2 37 o1.1)), .long (np_l x6)]) C (c_M_cell l (x5 + 1) x8 x4 _) np_allgood tw_1079 tw_1080 tw_8 tw_1081 (nA := 3) (by decide +kernel) rfl ⟨rfl, rfl, Nat.le_of_ble_eq_true rfl, Nat.le_of_ble_eq_true rfl⟩ hat rfl hl.1 (Nat.le_of_ble_eq_true rfl) dd_M_waysOf_134 hf (fun o2 H locs hf hat => ?_)
      refine np_iaload C hat.1 38 (nc_a38 _) 0 rfl (by decide) dd_M_waysOf_137 hf (fun hf => ?_)
      refine np_i2l C dd_M_waysOf_138 hf (fun hf => ?_)
      refine np_lmul C dd_M_waysOf_139 ?_
      refine np_ladd C dd_M_waysOf_140 ?_
      refine np_callSi (As := [.long (np_l (x6 + ((o1.2 37 o1.1) * (o2.2 38 o2.1))))]) (rest := []) C (c_M_less l (x6 + ((o1.2 37 o1.1) * (o2.2 38 o2.1))) _) np_allgood tw_1086 tw_1087 tw_8 tw_1088 (nA := 1) (by decide +kernel) rfl ⟨rfl, rfl, Nat.le_of_ble_eq_true rfl, Nat.le_of_ble_eq_true rfl⟩ hat rfl hl.1 (Nat.le_of_ble_eq_true rfl) dd_M_waysOf_141 hf (fun o3 H locs hf hat => ?_)
      refine np_i2l C dd_M_waysOf_144 hf (fun hf => ?_)
      refine lv_lstore (lv' := [(6, .long (np_l o3.1)), (0, .ref (q 29)), (3, .int (np_i x3)), (4, .int (np_i x4)), (5, .int (np_i x5)), (8, .int (np_i x8))]) C.x C.b dd_M_waysOf_145 hl (by decide) rfl (fun ls hl => ?_)
      refine lv_iinc (v := np_i (x8 + 1)) (lv' := [(8, .int (np_i (x8 + 1))), (6, .long (np_l o3.1)), (0, .ref (q 29)), (3, .int (np_i x3)), (4, .int (np_i x4)), (5, .int (np_i x5))]) C.x C.b dd_M_waysOf_147 hl (k := 5) rfl (np_inc _ _) (by decide) rfl (fun ls hl => ?_)
      refine lv_goto (tgt := 94) C.x C.b dd_M_waysOf_150 (by decide) ?_
      exact h94 _ _ _ _ _ _ _ _ _ hf hat (lv_sub hl [2, 3, 4, 5, 1, 0] rfl)
set_option maxHeartbeats 4000000 in
set_option maxRecDepth 100000 in
theorem w_f_M_waysOf_85 (C : np_Cx gA p R s m args c D np_cl (np_ty cA) A np_al "NotationParseModel" prog_9_method_21_code 9 { frames := 1, cells := 0, slots := 0, locals := 22 }) (hQ : ∀ (pc : Nat) (ls : Array Slot) (H : Heap) (locs : List Loc) (v : Int) {σ : np_S}, decode prog_9_method_21_code pc = .ok (.ireturn, 1) → some (v, σ) = some out → np_At D np_cl A (nc_wd q cA) s σ H locs → W p l e R s m args below meth c H locs 0 0 Q (F0 m pc ls [.int (np_i v)]))   : ∀ (t0 : Int) (σ : np_S) (H : Heap) (locs : List Loc) (ls : Array Slot), f_M_waysOf_85  t0 σ = some out → np_At D np_cl A (nc_wd q cA) s σ H locs → lv_has ls 9 [] → W p l e R s m args below meth c H locs 0 0 Q (F0 m 85 ls [.int (np_i t0)]) := by
  intro t0 σ H locs ls hf hat hl
  unfold f_M_waysOf_85 at hf
  exact hQ _ _ _ _ _ dd_M_waysOf_85 hf hat
set_option maxHeartbeats 4000000 in
set_option maxRecDepth 100000 in
theorem w_f_M_waysOf_84 (C : np_Cx gA p R s m args c D np_cl (np_ty cA) A np_al "NotationParseModel" prog_9_method_21_code 9 { frames := 1, cells := 0, slots := 0, locals := 22 }) (hQ : ∀ (pc : Nat) (ls : Array Slot) (H : Heap) (locs : List Loc) (v : Int) {σ : np_S}, decode prog_9_method_21_code pc = .ok (.ireturn, 1) → some (v, σ) = some out → np_At D np_cl A (nc_wd q cA) s σ H locs → W p l e R s m args below meth c H locs 0 0 Q (F0 m pc ls [.int (np_i v)]))   : ∀ (σ : np_S) (H : Heap) (locs : List Loc) (ls : Array Slot), f_M_waysOf_84  σ = some out → np_At D np_cl A (nc_wd q cA) s σ H locs → lv_has ls 9 [] → W p l e R s m args below meth c H locs 0 0 Q (F0 m 84 ls []) := by
  intro σ H locs ls hf hat hl
  unfold f_M_waysOf_84 at hf
  refine lv_iconst (v := np_i 0) C.x C.b dd_M_waysOf_84 rfl ?_
  exact w_f_M_waysOf_85 C hQ  _ _ _ _ _ hf hat (lv_sub hl [] rfl)
set_option maxHeartbeats 4000000 in
set_option maxRecDepth 100000 in
theorem w_f_M_waysOf_29 (C : np_Cx gA p R s m args c D np_cl (np_ty cA) A np_al "NotationParseModel" prog_9_method_21_code 9 { frames := 1, cells := 0, slots := 0, locals := 22 }) (hQ : ∀ (pc : Nat) (ls : Array Slot) (H : Heap) (locs : List Loc) (v : Int) {σ : np_S}, decode prog_9_method_21_code pc = .ok (.ireturn, 1) → some (v, σ) = some out → np_At D np_cl A (nc_wd q cA) s σ H locs → W p l e R s m args below meth c H locs 0 0 Q (F0 m pc ls [.int (np_i v)]))   : ∀ (t0 : Int) (σ : np_S) (H : Heap) (locs : List Loc) (ls : Array Slot), f_M_waysOf_29  t0 σ = some out → np_At D np_cl A (nc_wd q cA) s σ H locs → lv_has ls 9 [] → W p l e R s m args below meth c H locs 0 0 Q (F0 m 29 ls [.int (np_i t0)]) := by
  intro t0 σ H locs ls hf hat hl
  unfold f_M_waysOf_29 at hf
  exact hQ _ _ _ _ _ dd_M_waysOf_29 hf hat
set_option maxHeartbeats 4000000 in
set_option maxRecDepth 100000 in
theorem w_f_M_waysOf (C : np_Cx gA p R s m args c D np_cl (np_ty cA) A np_al "NotationParseModel" prog_9_method_21_code 9 { frames := 1, cells := 0, slots := 0, locals := 22 }) (hQ : ∀ (pc : Nat) (ls : Array Slot) (H : Heap) (locs : List Loc) (v : Int) {σ : np_S}, decode prog_9_method_21_code pc = .ok (.ireturn, 1) → some (v, σ) = some out → np_At D np_cl A (nc_wd q cA) s σ H locs → W p l e R s m args below meth c H locs 0 0 Q (F0 m pc ls [.int (np_i v)]))   : ∀ (x1 x2 x3 x4 : Int) (σ : np_S) (H : Heap) (locs : List Loc) (ls : Array Slot), f_M_waysOf  x1 x2 x3 x4 σ = some out → np_At D np_cl A (nc_wd q cA) s σ H locs → lv_has ls 9 [(0, .ref (q 29)), (1, .int (np_i x1)), (2, .int (np_i x2)), (3, .int (np_i x3)), (4, .int (np_i x4))] → W p l e R s m args below meth c H locs 0 0 Q (F0 m 0 ls []) := by
  intro x1 x2 x3 x4 σ H locs ls hf hat hl
  unfold f_M_waysOf at hf
  refine lv_bipush (v := np_i 7) C.x C.b dd_M_waysOf_0 (by decide +kernel) ?_
  refine lv_iload_n C.x C.b dd_M_waysOf_2 rfl (lv_at hl 1 rfl) ?_
  refine np_imul C dd_M_waysOf_3 ?_
  refine lv_iload_n C.x C.b dd_M_waysOf_4 rfl (lv_at hl 2 rfl) ?_
  refine np_iadd C dd_M_waysOf_5 ?_
  refine lv_istore (lv' := [(5, .int (np_i ((7 * x1) + x2))), (0, .ref (q 29)), (1, .int (np_i x1)), (2, .int (np_i x2)), (3, .int (np_i x3)), (4, .int (np_i x4))]) C.x C.b dd_M_waysOf_6 hl (by decide) rfl (fun ls hl => ?_)
  refine lv_iload_n C.x C.b dd_M_waysOf_8 rfl (lv_at hl 3 rfl) ?_
  refine lv_aload_n C.x C.b dd_M_waysOf_9 rfl (lv_at hl 1 rfl) ?_
  refine np_get (v := .ref (q 32)) C i_M hat.1 29 (nc_o29 _) rfl 5 (by decide) tw_928 rfl rfl dd_M_waysOf_10 ?_
  refine lv_iload_n C.x C.b dd_M_waysOf_13 rfl (lv_at hl 2 rfl) ?_
  refine np_iaload C hat.1 32 (nc_a32 _) 0 rfl (by decide) dd_M_waysOf_14 hf (fun hf => ?_)
  refine np_icmp_ne (tgt := 30) C dd_M_waysOf_15 (by decide) hf (fun _ hf => ?_) (fun _ hf => ?_)
  · refine lv_aload_n C.x C.b dd_M_waysOf_30 rfl (lv_at hl 1 rfl) ?_
    refine np_get (v := .ref (q 30)) C i_M hat.1 29 (nc_o29 _) rfl 3 (by decide) tw_926 rfl rfl dd_M_waysOf_31 ?_
    refine lv_iload C.x C.b dd_M_waysOf_34 (lv_at hl 0 rfl) ?_
    refine np_iaload C hat.1 30 (nc_a30 _) 0 rfl (by decide) dd_M_waysOf_36 hf (fun hf => ?_)
    refine lv_iconst (v := np_i (-1)) C.x C.b dd_M_waysOf_37 rfl ?_
    refine np_icmp_ne (tgt := 86) C dd_M_waysOf_38 (by decide) hf (fun _ hf => ?_) (fun _ hf => ?_)
    · refine lv_lconst (v := np_l 0) C.x C.b dd_M_waysOf_86 (by decide +kernel) ?_
      refine lv_lstore (lv' := [(6, .long (np_l 0)), (5, .int (np_i ((7 * x1) + x2))), (0, .ref (q 29)), (1, .int (np_i x1)), (2, .int (np_i x2)), (3, .int (np_i x3)), (4, .int (np_i x4))]) C.x C.b dd_M_waysOf_87 hl (by decide) rfl (fun ls hl => ?_)
      refine lv_iload_n C.x C.b dd_M_waysOf_89 rfl (lv_at hl 5 rfl) ?_
      refine lv_iconst (v := np_i 1) C.x C.b dd_M_waysOf_90 rfl ?_
      refine np_iadd C dd_M_waysOf_91 ?_
      refine lv_istore (lv' := [(8, .int (np_i (x3 + 1))), (6, .long (np_l 0)), (5, .int (np_i ((7 * x1) + x2))), (0, .ref (q 29)), (1, .int (np_i x1)), (2, .int (np_i x2)), (3, .int (np_i x3)), (4, .int (np_i x4))]) C.x C.b dd_M_waysOf_92 hl (by decide) rfl (fun ls hl => ?_)
      exact w_f_M_waysOf_94 C hQ  20000 _ _ _ _ _ _ _ _ _ hf hat (lv_sub hl [3, 6, 7, 2, 1, 0] rfl)
    · refine lv_iload_n C.x C.b dd_M_waysOf_41 rfl (lv_at hl 4 rfl) ?_
      refine lv_iload C.x C.b dd_M_waysOf_42 (lv_at hl 5 rfl) ?_
      refine np_icmp_ge (tgt := 84) C dd_M_waysOf_44 (by decide) hf (fun _ hf => ?_) (fun _ hf => ?_)
      · exact w_f_M_waysOf_84 C hQ   _ _ _ _ hf hat (lv_sub hl [] rfl)
      · refine lv_aload_n C.x C.b dd_M_waysOf_47 rfl (lv_at hl 1 rfl) ?_
        refine np_get (v := .ref (q 35)) C i_M hat.1 29 (nc_o29 _) rfl 12 (by decide) tw_935 rfl rfl dd_M_waysOf_48 ?_
        refine lv_iload_n C.x C.b dd_M_waysOf_51 rfl (lv_at hl 4 rfl) ?_
        refine np_laload C hat.1 35 (nc_a35 _) 1 rfl (by decide) dd_M_waysOf_52 hf (fun hf => ?_)
        refine lv_aload_n C.x C.b dd_M_waysOf_53 rfl (lv_at hl 1 rfl) ?_
        refine np_get (v := .ref (q 31)) C i_M hat.1 29 (nc_o29 _) rfl 4 (by decide) tw_927 rfl rfl dd_M_waysOf_54 ?_
        refine lv_iload C.x C.b dd_M_waysOf_57 (lv_at hl 0 rfl) ?_
        refine np_laload C hat.1 31 (nc_a31 _) 1 rfl (by decide) dd_M_waysOf_59 hf (fun hf => ?_)
        refine np_lcmp C dd_M_waysOf_60 hf (fun hf => ?_)
        refine np_if_ne (tgt := 84) C dd_M_waysOf_61 (by decide) hf (fun _ hf => ?_) (fun _ hf => ?_)
        · exact w_f_M_waysOf_84 C hQ   _ _ _ _ hf hat (lv_sub hl [] rfl)
        · refine lv_aload_n C.x C.b dd_M_waysOf_64 rfl (lv_at hl 1 rfl) ?_
          refine np_get (v := .ref (q 38)) C i_M hat.1 29 (nc_o29 _) rfl 15 (by decide) tw_938 rfl rfl dd_M_waysOf_65 ?_
          refine lv_iload C.x C.b dd_M_waysOf_68 (lv_at hl 0 rfl) ?_
          refine lv_iconst (v := np_i 1) C.x C.b dd_M_waysOf_70 rfl ?_
          refine np_iadd C dd_M_waysOf_71 ?_
          refine lv_iload_n C.x C.b dd_M_waysOf_72 rfl (lv_at hl 4 rfl) ?_
          refine lv_iconst (v := np_i 1) C.x C.b dd_M_waysOf_73 rfl ?_
          refine np_iadd C dd_M_waysOf_74 ?_
          refine lv_iload C.x C.b dd_M_waysOf_75 (lv_at hl 5 rfl) ?_
          refine np_callSi (As := [.int (np_i (((7 * x1) + x2) + 1)), .int (np_i (x3 + 1)), .int (np_i x4)]) (rest := [.ref (q 38)]) C (c_M_cell l (((7 * x1) + x2) + 1) (x3 + 1) x4 _) np_allgood tw_1079 tw_1080 tw_8 tw_1081 (nA := 3) (by decide +kernel) rfl ⟨rfl, rfl, Nat.le_of_ble_eq_true rfl, Nat.le_of_ble_eq_true rfl⟩ hat rfl hl.1 (Nat.le_of_ble_eq_true rfl) dd_M_waysOf_77 hf (fun o4 H locs hf hat => ?_)
          refine np_iaload C hat.1 38 (nc_a38 _) 0 rfl (by decide) dd_M_waysOf_80 hf (fun hf => ?_)
          refine lv_goto (tgt := 85) C.x C.b dd_M_waysOf_81 (by decide) ?_
          exact w_f_M_waysOf_85 C hQ  _ _ _ _ _ hf hat (lv_sub hl [] rfl)
  · refine lv_iload_n C.x C.b dd_M_waysOf_18 rfl (lv_at hl 4 rfl) ?_
    refine lv_iload C.x C.b dd_M_waysOf_19 (lv_at hl 5 rfl) ?_
    refine np_icmp_ne (tgt := 28) C dd_M_waysOf_21 (by decide) hf (fun _ hf => ?_) (fun _ hf => ?_)
    · refine lv_iconst (v := np_i 0) C.x C.b dd_M_waysOf_28 rfl ?_
      exact w_f_M_waysOf_29 C hQ  _ _ _ _ _ hf hat (lv_sub hl [] rfl)
    · refine lv_iconst (v := np_i 1) C.x C.b dd_M_waysOf_24 rfl ?_
      refine lv_goto (tgt := 29) C.x C.b dd_M_waysOf_25 (by decide) ?_
      exact w_f_M_waysOf_29 C hQ  _ _ _ _ _ hf hat (lv_sub hl [] rfl)
set_option maxHeartbeats 4000000 in
set_option maxRecDepth 100000 in
theorem c_M_waysOf (l : Launch) {gA : Nat → Nat} {D : va_G} {q : Nat → Nat} {cA : Nat → ClassId} (x1 x2 x3 x4 : Int) (σ : np_S) : np_Mi gA l D np_cl (np_ty cA) (nc_wd q cA) yy_M_waysOf (.code yy_M_waysOf prog_9_method_21_code 9 (some .int) :: np_al) { frames := 1, cells := 0, slots := 0, locals := 22 } [.ref (q 29), .int (np_i x1), .int (np_i x2), .int (np_i x3), .int (np_i x4)] σ (f_M_waysOf x1 x2 x3 x4 σ) :=
  np_mki (by decide +kernel) (Nat.le_of_ble_eq_true rfl) (fun o p e R s m args below meth c Q A ls hf C hQ hat hl => w_f_M_waysOf C hQ x1 x2 x3 x4 σ _ _ _ hf hat (lv_sub hl [0, 1, 2, 3, 4] rfl))
set_option maxHeartbeats 4000000 in
set_option maxRecDepth 100000 in
theorem w_f_M_countTerms_124 (C : np_Cx gA p R s m args c D np_cl (np_ty cA) A np_al "NotationParseModel" prog_9_method_22_code 7 { frames := 3, cells := 0, slots := 0, locals := 62 }) (hQ : ∀ (pc : Nat) (ls : Array Slot) (H : Heap) (locs : List Loc) {σ : np_S}, decode prog_9_method_22_code pc = .ok (.return_, 1) → some ((0 : Int), σ) = some out → np_At D np_cl A (nc_wd q cA) s σ H locs → W p l e R s m args below meth c H locs 0 0 Q (F0 m pc ls [])) {k2 : (Int → Int → Int → np_S → Option np_O)} {k83 : (Int → Int → Int → Int → Int → np_S → Option np_O)} (h2 : ∀ (x1 x2 x3 : Int) (σ : np_S) (H : Heap) (locs : List Loc) (ls : Array Slot), k2 x1 x2 x3 σ = some out → np_At D np_cl A (nc_wd q cA) s σ H locs → lv_has ls 7 [(0, .ref (q 29)), (1, .int (np_i x1)), (2, .int (np_i x2)), (3, .int (np_i x3))] → W p l e R s m args below meth c H locs 0 0 Q (F0 m 2 ls [])) (h83 : ∀ (x1 x2 x3 x4 x6 : Int) (σ : np_S) (H : Heap) (locs : List Loc) (ls : Array Slot), k83 x1 x2 x3 x4 x6 σ = some out → np_At D np_cl A (nc_wd q cA) s σ H locs → lv_has ls 7 [(0, .ref (q 29)), (1, .int (np_i x1)), (2, .int (np_i x2)), (3, .int (np_i x3)), (4, .long (np_l x4)), (6, .int (np_i x6))] → W p l e R s m args below meth c H locs 0 0 Q (F0 m 83 ls [])) : ∀ (x1 x2 x3 x4 x6 : Int) (σ : np_S) (H : Heap) (locs : List Loc) (ls : Array Slot), f_M_countTerms_124 k2 k83 x1 x2 x3 x4 x6 σ = some out → np_At D np_cl A (nc_wd q cA) s σ H locs → lv_has ls 7 [(0, .ref (q 29)), (1, .int (np_i x1)), (2, .int (np_i x2)), (3, .int (np_i x3)), (4, .long (np_l x4)), (6, .int (np_i x6))] → W p l e R s m args below meth c H locs 0 0 Q (F0 m 124 ls []) := by
  intro x1 x2 x3 x4 x6 σ H locs ls hf hat hl
  unfold f_M_countTerms_124 at hf
  refine lv_iinc (v := np_i (x6 + 1)) (lv' := [(6, .int (np_i (x6 + 1))), (0, .ref (q 29)), (1, .int (np_i x1)), (2, .int (np_i x2)), (3, .int (np_i x3)), (4, .long (np_l x4))]) C.x C.b dd_M_countTerms_124 hl (k := 5) rfl (np_inc _ _) (by decide) rfl (fun ls hl => ?_)
  refine lv_goto (tgt := 83) C.x C.b dd_M_countTerms_127 (by decide) ?_
  exact h83 _ _ _ _ _ _ _ _ _ hf hat (lv_sub hl [1, 2, 3, 4, 5, 0] rfl)
set_option maxHeartbeats 4000000 in
set_option maxRecDepth 100000 in
theorem w_f_M_countTerms_83 (C : np_Cx gA p R s m args c D np_cl (np_ty cA) A np_al "NotationParseModel" prog_9_method_22_code 7 { frames := 3, cells := 0, slots := 0, locals := 62 }) (hQ : ∀ (pc : Nat) (ls : Array Slot) (H : Heap) (locs : List Loc) {σ : np_S}, decode prog_9_method_22_code pc = .ok (.return_, 1) → some ((0 : Int), σ) = some out → np_At D np_cl A (nc_wd q cA) s σ H locs → W p l e R s m args below meth c H locs 0 0 Q (F0 m pc ls [])) {k2 : (Int → Int → Int → np_S → Option np_O)} (h2 : ∀ (x1 x2 x3 : Int) (σ : np_S) (H : Heap) (locs : List Loc) (ls : Array Slot), k2 x1 x2 x3 σ = some out → np_At D np_cl A (nc_wd q cA) s σ H locs → lv_has ls 7 [(0, .ref (q 29)), (1, .int (np_i x1)), (2, .int (np_i x2)), (3, .int (np_i x3))] → W p l e R s m args below meth c H locs 0 0 Q (F0 m 2 ls [])) : ∀ (n : Nat), ∀ (x1 x2 x3 x4 x6 : Int) (σ : np_S) (H : Heap) (locs : List Loc) (ls : Array Slot), f_M_countTerms_83 k2 n x1 x2 x3 x4 x6 σ = some out → np_At D np_cl A (nc_wd q cA) s σ H locs → lv_has ls 7 [(0, .ref (q 29)), (1, .int (np_i x1)), (2, .int (np_i x2)), (3, .int (np_i x3)), (4, .long (np_l x4)), (6, .int (np_i x6))] → W p l e R s m args below meth c H locs 0 0 Q (F0 m 83 ls []) := by
  intro n
  induction n with
  | zero => intro x1 x2 x3 x4 x6 σ H locs ls hf; cases hf
  | succ n ih =>
    intro x1 x2 x3 x4 x6 σ H locs ls hf hat hl
    have h83 := ih
    have hf : f_M_countTerms_83_b k2 (fun x1 x2 x3 x4 x6 σ => f_M_countTerms_83 k2 n x1 x2 x3 x4 x6 σ) x1 x2 x3 x4 x6 σ = some out := hf
    unfold f_M_countTerms_83_b at hf
    refine lv_iload C.x C.b dd_M_countTerms_83 (lv_at hl 5 rfl) ?_
    refine lv_aload_n C.x C.b dd_M_countTerms_85 rfl (lv_at hl 0 rfl) ?_
    refine np_get (v := .int (np_i (σ 29 2))) C i_M hat.1 29 (nc_o29 _) rfl 2 (by decide) tw_925 rfl rfl dd_M_countTerms_86 ?_
    refine np_icmp_ge (tgt := 130) C dd_M_countTerms_89 (by decide) hf (fun _ hf => ?_) (fun _ hf => ?_)
    · refine lv_aload_n C.x C.b dd_M_countTerms_130 rfl (lv_at hl 0 rfl) ?_
      refine np_get (v := .ref (q 37)) C i_M hat.1 29 (nc_o29 _) rfl 14 (by decide) tw_937 rfl rfl dd_M_countTerms_131 ?_
      refine lv_iload_n C.x C.b dd_M_countTerms_134 rfl (lv_at hl 3 rfl) ?_
      refine lv_iload_n C.x C.b dd_M_countTerms_135 rfl (lv_at hl 1 rfl) ?_
      refine lv_iload_n C.x C.b dd_M_countTerms_136 rfl (lv_at hl 2 rfl) ?_
      refine np_callSi (As := [.int (np_i x3), .int (np_i x1), .int (np_i x2)]) (rest := [.ref (q 37)]) C (c_M_cell l x3 x1 x2 _) np_allgood tw_1079 tw_1080 tw_8 tw_1081 (nA := 3) (by decide +kernel) rfl ⟨rfl, rfl, Nat.le_of_ble_eq_true rfl, Nat.le_of_ble_eq_true rfl⟩ hat rfl hl.1 (Nat.le_of_ble_eq_true rfl) dd_M_countTerms_137 hf (fun o1 H locs hf hat => ?_)
      refine lv_lload C.x C.b dd_M_countTerms_140 (lv_at hl 4 rfl) ?_
      refine np_callSi (As := [.long (np_l x4)]) (rest := [.int (np_i o1.1), .ref (q 37)]) C (c_M_less l x4 _) np_allgood tw_1086 tw_1087 tw_8 tw_1088 (nA := 1) (by decide +kernel) rfl ⟨rfl, rfl, Nat.le_of_ble_eq_true rfl, Nat.le_of_ble_eq_true rfl⟩ hat rfl hl.1 (Nat.le_of_ble_eq_true rfl) dd_M_countTerms_142 hf (fun o2 H locs hf hat => ?_)
      refine np_iastore C hat 37 (nc_a37 _) 0 rfl (by decide) (nc_s37 _ _ _) dd_M_countTerms_145 hf (fun H locs hat hf => ?_)
      refine lv_iinc (v := np_i (x3 + 1)) (lv' := [(3, .int (np_i (x3 + 1))), (0, .ref (q 29)), (1, .int (np_i x1)), (2, .int (np_i x2)), (4, .long (np_l x4)), (6, .int (np_i x6))]) C.x C.b dd_M_countTerms_146 hl (k := 3) rfl (np_inc _ _) (by decide) rfl (fun ls hl => ?_)
      refine lv_goto (tgt := 2) C.x C.b dd_M_countTerms_149 (by decide) ?_
      exact h2 _ _ _ _ _ _ _ hf hat (lv_sub hl [1, 2, 3, 0] rfl)
    · refine lv_aload_n C.x C.b dd_M_countTerms_92 rfl (lv_at hl 0 rfl) ?_
      refine np_get (v := .ref (q 33)) C i_M hat.1 29 (nc_o29 _) rfl 6 (by decide) tw_929 rfl rfl dd_M_countTerms_93 ?_
      refine lv_iload C.x C.b dd_M_countTerms_96 (lv_at hl 5 rfl) ?_
      refine np_iaload C hat.1 33 (nc_a33 _) 0 rfl (by decide) dd_M_countTerms_98 hf (fun hf => ?_)
      refine lv_iload_n C.x C.b dd_M_countTerms_99 rfl (lv_at hl 3 rfl) ?_
      refine np_icmp_lt (tgt := 124) C dd_M_countTerms_100 (by decide) hf (fun _ hf => ?_) (fun _ hf => ?_)
      · exact w_f_M_countTerms_124 C hQ h2 h83 _ _ _ _ _ _ _ _ _ hf hat (lv_sub hl [0, 1, 2, 3, 4, 5] rfl)
      · refine lv_lload C.x C.b dd_M_countTerms_103 (lv_at hl 4 rfl) ?_
        refine lv_aload_n C.x C.b dd_M_countTerms_105 rfl (lv_at hl 0 rfl) ?_
        refine np_get (v := .ref (q 38)) C i_M hat.1 29 (nc_o29 _) rfl 15 (by decide) tw_938 rfl rfl dd_M_countTerms_106 ?_
        refine lv_bipush (v := np_i 7) C.x C.b dd_M_countTerms_109 (by decide +kernel) ?_
        refine lv_iload C.x C.b dd_M_countTerms_111 (lv_at hl 5 rfl) ?_
        refine np_imul C dd_M_countTerms_113 ?_
        refine lv_iload_n C.x C.b dd_M_countTerms_114 rfl (lv_at hl 1 rfl) ?_
        refine lv_iload_n C.x C.b dd_M_countTerms_115 rfl (lv_at hl 2 rfl) ?_
        refine np_callSi (As := [.int (np_i (7 * x6)), .int (np_i x1), .int (np_i x2)]) (rest := [.ref (q 38), .long (np_l x4)]) C (c_M_cell l (7 * x6) x1 x2 _) np_allgood tw_1079 tw_1080 tw_8 tw_1081 (nA := 3) (by decide +kernel) rfl ⟨rfl, rfl, Nat.le_of_ble_eq_true rfl, Nat.le_of_ble_eq_true rfl⟩ hat rfl hl.1 (Nat.le_of_ble_eq_true rfl) dd_M_countTerms_116 hf (fun o3 H locs hf hat => ?_)
        refine np_iaload C hat.1 38 (nc_a38 _) 0 rfl (by decide) dd_M_countTerms_119 hf (fun hf => ?_)
        refine np_i2l C dd_M_countTerms_120 hf (fun hf => ?_)
        refine np_ladd C dd_M_countTerms_121 ?_
        refine lv_lstore (lv' := [(4, .long (np_l (x4 + (o3.2 38 o3.1)))), (0, .ref (q 29)), (1, .int (np_i x1)), (2, .int (np_i x2)), (3, .int (np_i x3)), (6, .int (np_i x6))]) C.x C.b dd_M_countTerms_122 hl (by decide) rfl (fun ls hl => ?_)
        exact w_f_M_countTerms_124 C hQ h2 h83 _ _ _ _ _ _ _ _ _ hf hat (lv_sub hl [1, 2, 3, 4, 0, 5] rfl)
set_option maxHeartbeats 4000000 in
set_option maxRecDepth 100000 in
theorem w_f_M_countTerms_80 (C : np_Cx gA p R s m args c D np_cl (np_ty cA) A np_al "NotationParseModel" prog_9_method_22_code 7 { frames := 3, cells := 0, slots := 0, locals := 62 }) (hQ : ∀ (pc : Nat) (ls : Array Slot) (H : Heap) (locs : List Loc) {σ : np_S}, decode prog_9_method_22_code pc = .ok (.return_, 1) → some ((0 : Int), σ) = some out → np_At D np_cl A (nc_wd q cA) s σ H locs → W p l e R s m args below meth c H locs 0 0 Q (F0 m pc ls [])) {k2 : (Int → Int → Int → np_S → Option np_O)} (h2 : ∀ (x1 x2 x3 : Int) (σ : np_S) (H : Heap) (locs : List Loc) (ls : Array Slot), k2 x1 x2 x3 σ = some out → np_At D np_cl A (nc_wd q cA) s σ H locs → lv_has ls 7 [(0, .ref (q 29)), (1, .int (np_i x1)), (2, .int (np_i x2)), (3, .int (np_i x3))] → W p l e R s m args below meth c H locs 0 0 Q (F0 m 2 ls [])) : ∀ (x1 x2 x3 x4 : Int) (σ : np_S) (H : Heap) (locs : List Loc) (ls : Array Slot), f_M_countTerms_80 k2 x1 x2 x3 x4 σ = some out → np_At D np_cl A (nc_wd q cA) s σ H locs → lv_has ls 7 [(0, .ref (q 29)), (1, .int (np_i x1)), (2, .int (np_i x2)), (3, .int (np_i x3)), (4, .long (np_l x4))] → W p l e R s m args below meth c H locs 0 0 Q (F0 m 80 ls []) := by
  intro x1 x2 x3 x4 σ H locs ls hf hat hl
  unfold f_M_countTerms_80 at hf
  refine lv_iconst (v := np_i 0) C.x C.b dd_M_countTerms_80 rfl ?_
  refine lv_istore (lv' := [(6, .int (np_i 0)), (0, .ref (q 29)), (1, .int (np_i x1)), (2, .int (np_i x2)), (3, .int (np_i x3)), (4, .long (np_l x4))]) C.x C.b dd_M_countTerms_81 hl (by decide) rfl (fun ls hl => ?_)
  exact w_f_M_countTerms_83 C hQ h2 20000 _ _ _ _ _ _ _ _ _ hf hat (lv_sub hl [1, 2, 3, 4, 5, 0] rfl)
set_option maxHeartbeats 4000000 in
set_option maxRecDepth 100000 in
theorem w_f_M_countTerms_28 (C : np_Cx gA p R s m args c D np_cl (np_ty cA) A np_al "NotationParseModel" prog_9_method_22_code 7 { frames := 3, cells := 0, slots := 0, locals := 62 }) (hQ : ∀ (pc : Nat) (ls : Array Slot) (H : Heap) (locs : List Loc) {σ : np_S}, decode prog_9_method_22_code pc = .ok (.return_, 1) → some ((0 : Int), σ) = some out → np_At D np_cl A (nc_wd q cA) s σ H locs → W p l e R s m args below meth c H locs 0 0 Q (F0 m pc ls [])) {k2 : (Int → Int → Int → np_S → Option np_O)} (h2 : ∀ (x1 x2 x3 : Int) (σ : np_S) (H : Heap) (locs : List Loc) (ls : Array Slot), k2 x1 x2 x3 σ = some out → np_At D np_cl A (nc_wd q cA) s σ H locs → lv_has ls 7 [(0, .ref (q 29)), (1, .int (np_i x1)), (2, .int (np_i x2)), (3, .int (np_i x3))] → W p l e R s m args below meth c H locs 0 0 Q (F0 m 2 ls [])) : ∀ (x1 x2 x3 t0 : Int) (σ : np_S) (H : Heap) (locs : List Loc) (ls : Array Slot), f_M_countTerms_28 k2 x1 x2 x3 t0 σ = some out → np_At D np_cl A (nc_wd q cA) s σ H locs → lv_has ls 7 [(0, .ref (q 29)), (1, .int (np_i x1)), (2, .int (np_i x2)), (3, .int (np_i x3))] → W p l e R s m args below meth c H locs 0 0 Q (F0 m 28 ls [.long (np_l t0)]) := by
  intro x1 x2 x3 t0 σ H locs ls hf hat hl
  unfold f_M_countTerms_28 at hf
  refine lv_lstore (lv' := [(4, .long (np_l t0)), (0, .ref (q 29)), (1, .int (np_i x1)), (2, .int (np_i x2)), (3, .int (np_i x3))]) C.x C.b dd_M_countTerms_28 hl (by decide) rfl (fun ls hl => ?_)
  refine lv_iload_n C.x C.b dd_M_countTerms_30 rfl (lv_at hl 3 rfl) ?_
  refine lv_iload_n C.x C.b dd_M_countTerms_31 rfl (lv_at hl 2 rfl) ?_
  refine lv_iconst (v := np_i 2) C.x C.b dd_M_countTerms_32 rfl ?_
  refine np_iadd C dd_M_countTerms_33 ?_
  refine np_icmp_le (tgt := 80) C dd_M_countTerms_34 (by decide) hf (fun _ hf => ?_) (fun _ hf => ?_)
  · exact w_f_M_countTerms_80 C hQ h2 _ _ _ _ _ _ _ _ hf hat (lv_sub hl [1, 2, 3, 4, 0] rfl)
  · refine lv_aload_n C.x C.b dd_M_countTerms_37 rfl (lv_at hl 1 rfl) ?_
    refine lv_iload_n C.x C.b dd_M_countTerms_38 rfl (lv_at hl 2 rfl) ?_
    refine lv_bipush (v := np_i 40) C.x C.b dd_M_countTerms_39 (by decide +kernel) ?_
    refine np_callVi (As := [.int (np_i x1), .int (np_i 40)]) (rest := []) C (c_M_is l x1 40 _) np_allgood tw_1103 tw_1105 tp_35 tw_8 tw_1106 (nA := 2) (by decide +kernel) rfl ⟨rfl, rfl, Nat.le_of_ble_eq_true rfl, Nat.le_of_ble_eq_true rfl⟩ (va_recv C.k hat.1 (ci := 6) (q0 := 29) rfl (nc_o29 _)) hat rfl hl.1 (Nat.le_of_ble_eq_true rfl) dd_M_countTerms_41 hf (fun o4 H locs hf hat => ?_)
    refine np_if_eq (tgt := 80) C dd_M_countTerms_44 (by decide) hf (fun _ hf => ?_) (fun _ hf => ?_)
    · exact w_f_M_countTerms_80 C hQ h2 _ _ _ _ _ _ _ _ hf hat (lv_sub hl [1, 2, 3, 4, 0] rfl)
    · refine lv_aload_n C.x C.b dd_M_countTerms_47 rfl (lv_at hl 1 rfl) ?_
      refine lv_iload_n C.x C.b dd_M_countTerms_48 rfl (lv_at hl 3 rfl) ?_
      refine lv_iconst (v := np_i 1) C.x C.b dd_M_countTerms_49 rfl ?_
      refine np_isub C dd_M_countTerms_50 ?_
      refine lv_bipush (v := np_i 41) C.x C.b dd_M_countTerms_51 (by decide +kernel) ?_
      refine np_callVi (As := [.int (np_i (x2 - 1)), .int (np_i 41)]) (rest := []) C (c_M_is l (x2 - 1) 41 _) np_allgood tw_1103 tw_1105 tp_35 tw_8 tw_1106 (nA := 2) (by decide +kernel) rfl ⟨rfl, rfl, Nat.le_of_ble_eq_true rfl, Nat.le_of_ble_eq_true rfl⟩ (va_recv C.k hat.1 (ci := 6) (q0 := 29) rfl (nc_o29 _)) hat rfl hl.1 (Nat.le_of_ble_eq_true rfl) dd_M_countTerms_53 hf (fun o5 H locs hf hat => ?_)
      refine np_if_eq (tgt := 80) C dd_M_countTerms_56 (by decide) hf (fun _ hf => ?_) (fun _ hf => ?_)
      · exact w_f_M_countTerms_80 C hQ h2 _ _ _ _ _ _ _ _ hf hat (lv_sub hl [1, 2, 3, 4, 0] rfl)
      · refine lv_lload C.x C.b dd_M_countTerms_59 (lv_at hl 0 rfl) ?_
        refine lv_aload_n C.x C.b dd_M_countTerms_61 rfl (lv_at hl 1 rfl) ?_
        refine np_get (v := .ref (q 37)) C i_M hat.1 29 (nc_o29 _) rfl 14 (by decide) tw_937 rfl rfl dd_M_countTerms_62 ?_
        refine lv_iconst (v := np_i 0) C.x C.b dd_M_countTerms_65 rfl ?_
        refine lv_iload_n C.x C.b dd_M_countTerms_66 rfl (lv_at hl 2 rfl) ?_
        refine lv_iconst (v := np_i 1) C.x C.b dd_M_countTerms_67 rfl ?_
        refine np_iadd C dd_M_countTerms_68 ?_
        refine lv_iload_n C.x C.b dd_M_countTerms_69 rfl (lv_at hl 3 rfl) ?_
        refine lv_iconst (v := np_i 1) C.x C.b dd_M_countTerms_70 rfl ?_
        refine np_isub C dd_M_countTerms_71 ?_
        refine np_callSi (As := [.int (np_i 0), .int (np_i (x1 + 1)), .int (np_i (x2 - 1))]) (rest := [.ref (q 37), .long (np_l t0)]) C (c_M_cell l 0 (x1 + 1) (x2 - 1) _) np_allgood tw_1079 tw_1080 tw_8 tw_1081 (nA := 3) (by decide +kernel) rfl ⟨rfl, rfl, Nat.le_of_ble_eq_true rfl, Nat.le_of_ble_eq_true rfl⟩ hat rfl hl.1 (Nat.le_of_ble_eq_true rfl) dd_M_countTerms_72 hf (fun o6 H locs hf hat => ?_)
        refine np_iaload C hat.1 37 (nc_a37 _) 0 rfl (by decide) dd_M_countTerms_75 hf (fun hf => ?_)
        refine np_i2l C dd_M_countTerms_76 hf (fun hf => ?_)
        refine np_ladd C dd_M_countTerms_77 ?_
        refine lv_lstore (lv' := [(4, .long (np_l (t0 + (o6.2 37 o6.1)))), (0, .ref (q 29)), (1, .int (np_i x1)), (2, .int (np_i x2)), (3, .int (np_i x3))]) C.x C.b dd_M_countTerms_78 hl (by decide) rfl (fun ls hl => ?_)
        exact w_f_M_countTerms_80 C hQ h2 _ _ _ _ _ _ _ _ hf hat (lv_sub hl [1, 2, 3, 4, 0] rfl)
set_option maxHeartbeats 4000000 in
set_option maxRecDepth 100000 in
theorem w_f_M_countTerms_27 (C : np_Cx gA p R s m args c D np_cl (np_ty cA) A np_al "NotationParseModel" prog_9_method_22_code 7 { frames := 3, cells := 0, slots := 0, locals := 62 }) (hQ : ∀ (pc : Nat) (ls : Array Slot) (H : Heap) (locs : List Loc) {σ : np_S}, decode prog_9_method_22_code pc = .ok (.return_, 1) → some ((0 : Int), σ) = some out → np_At D np_cl A (nc_wd q cA) s σ H locs → W p l e R s m args below meth c H locs 0 0 Q (F0 m pc ls [])) {k2 : (Int → Int → Int → np_S → Option np_O)} (h2 : ∀ (x1 x2 x3 : Int) (σ : np_S) (H : Heap) (locs : List Loc) (ls : Array Slot), k2 x1 x2 x3 σ = some out → np_At D np_cl A (nc_wd q cA) s σ H locs → lv_has ls 7 [(0, .ref (q 29)), (1, .int (np_i x1)), (2, .int (np_i x2)), (3, .int (np_i x3))] → W p l e R s m args below meth c H locs 0 0 Q (F0 m 2 ls [])) : ∀ (x1 x2 x3 : Int) (σ : np_S) (H : Heap) (locs : List Loc) (ls : Array Slot), f_M_countTerms_27 k2 x1 x2 x3 σ = some out → np_At D np_cl A (nc_wd q cA) s σ H locs → lv_has ls 7 [(0, .ref (q 29)), (1, .int (np_i x1)), (2, .int (np_i x2)), (3, .int (np_i x3))] → W p l e R s m args below meth c H locs 0 0 Q (F0 m 27 ls []) := by
  intro x1 x2 x3 σ H locs ls hf hat hl
  unfold f_M_countTerms_27 at hf
  refine lv_lconst (v := np_l 0) C.x C.b dd_M_countTerms_27 (by decide +kernel) ?_
  exact w_f_M_countTerms_28 C hQ h2 _ _ _ _ _ _ _ _ hf hat (lv_sub hl [0, 1, 2, 3] rfl)
set_option maxHeartbeats 4000000 in
set_option maxRecDepth 100000 in
theorem w_f_M_countTerms_2 (C : np_Cx gA p R s m args c D np_cl (np_ty cA) A np_al "NotationParseModel" prog_9_method_22_code 7 { frames := 3, cells := 0, slots := 0, locals := 62 }) (hQ : ∀ (pc : Nat) (ls : Array Slot) (H : Heap) (locs : List Loc) {σ : np_S}, decode prog_9_method_22_code pc = .ok (.return_, 1) → some ((0 : Int), σ) = some out → np_At D np_cl A (nc_wd q cA) s σ H locs → W p l e R s m args below meth c H locs 0 0 Q (F0 m pc ls []))   : ∀ (n : Nat), ∀ (x1 x2 x3 : Int) (σ : np_S) (H : Heap) (locs : List Loc) (ls : Array Slot), f_M_countTerms_2  n x1 x2 x3 σ = some out → np_At D np_cl A (nc_wd q cA) s σ H locs → lv_has ls 7 [(0, .ref (q 29)), (1, .int (np_i x1)), (2, .int (np_i x2)), (3, .int (np_i x3))] → W p l e R s m args below meth c H locs 0 0 Q (F0 m 2 ls []) := by
  intro n
  induction n with
  | zero => intro x1 x2 x3 σ H locs ls hf; cases hf
  | succ n ih =>
    intro x1 x2 x3 σ H locs ls hf hat hl
    have h2 := ih
    have hf : f_M_countTerms_2_b  (fun x1 x2 x3 σ => f_M_countTerms_2  n x1 x2 x3 σ) x1 x2 x3 σ = some out := hf
    unfold f_M_countTerms_2_b at hf
    refine lv_iload_n C.x C.b dd_M_countTerms_2 rfl (lv_at hl 3 rfl) ?_
    refine lv_bipush (v := np_i 11) C.x C.b dd_M_countTerms_3 (by decide +kernel) ?_
    refine np_icmp_ge (tgt := 152) C dd_M_countTerms_5 (by decide) hf (fun _ hf => ?_) (fun _ hf => ?_)
    · exact hQ _ _ _ _ dd_M_countTerms_152 hf hat
    · refine lv_iload_n C.x C.b dd_M_countTerms_8 rfl (lv_at hl 2 rfl) ?_
      refine lv_iload_n C.x C.b dd_M_countTerms_9 rfl (lv_at hl 1 rfl) ?_
      refine lv_iconst (v := np_i 1) C.x C.b dd_M_countTerms_10 rfl ?_
      refine np_iadd C dd_M_countTerms_11 ?_
      refine np_icmp_ne (tgt := 27) C dd_M_countTerms_12 (by decide) hf (fun _ hf => ?_) (fun _ hf => ?_)
      · exact w_f_M_countTerms_27 C hQ h2 _ _ _ _ _ _ _ hf hat (lv_sub hl [0, 1, 2, 3] rfl)
      · refine lv_aload_n C.x C.b dd_M_countTerms_15 rfl (lv_at hl 0 rfl) ?_
        refine lv_iload_n C.x C.b dd_M_countTerms_16 rfl (lv_at hl 1 rfl) ?_
        refine np_callVi (As := [.int (np_i x1)]) (rest := []) C (c_M_isAtom l x1 _) np_allgood tw_1095 tw_1097 tp_33 tw_8 tw_1098 (nA := 1) (by decide +kernel) rfl ⟨rfl, rfl, Nat.le_of_ble_eq_true rfl, Nat.le_of_ble_eq_true rfl⟩ (va_recv C.k hat.1 (ci := 6) (q0 := 29) rfl (nc_o29 _)) hat rfl hl.1 (Nat.le_of_ble_eq_true rfl) dd_M_countTerms_17 hf (fun o7 H locs hf hat => ?_)
        refine np_if_eq (tgt := 27) C dd_M_countTerms_20 (by decide) hf (fun _ hf => ?_) (fun _ hf => ?_)
        · exact w_f_M_countTerms_27 C hQ h2 _ _ _ _ _ _ _ hf hat (lv_sub hl [0, 1, 2, 3] rfl)
        · refine lv_lconst (v := np_l 1) C.x C.b dd_M_countTerms_23 (by decide +kernel) ?_
          refine lv_goto (tgt := 28) C.x C.b dd_M_countTerms_24 (by decide) ?_
          exact w_f_M_countTerms_28 C hQ h2 _ _ _ _ _ _ _ _ hf hat (lv_sub hl [0, 1, 2, 3] rfl)
set_option maxHeartbeats 4000000 in
set_option maxRecDepth 100000 in
theorem w_f_M_countTerms (C : np_Cx gA p R s m args c D np_cl (np_ty cA) A np_al "NotationParseModel" prog_9_method_22_code 7 { frames := 3, cells := 0, slots := 0, locals := 62 }) (hQ : ∀ (pc : Nat) (ls : Array Slot) (H : Heap) (locs : List Loc) {σ : np_S}, decode prog_9_method_22_code pc = .ok (.return_, 1) → some ((0 : Int), σ) = some out → np_At D np_cl A (nc_wd q cA) s σ H locs → W p l e R s m args below meth c H locs 0 0 Q (F0 m pc ls []))   : ∀ (x1 x2 : Int) (σ : np_S) (H : Heap) (locs : List Loc) (ls : Array Slot), f_M_countTerms  x1 x2 σ = some out → np_At D np_cl A (nc_wd q cA) s σ H locs → lv_has ls 7 [(0, .ref (q 29)), (1, .int (np_i x1)), (2, .int (np_i x2))] → W p l e R s m args below meth c H locs 0 0 Q (F0 m 0 ls []) := by
  intro x1 x2 σ H locs ls hf hat hl
  unfold f_M_countTerms at hf
  refine lv_iconst (v := np_i 0) C.x C.b dd_M_countTerms_0 rfl ?_
  refine lv_istore_n (lv' := [(3, .int (np_i 0)), (0, .ref (q 29)), (1, .int (np_i x1)), (2, .int (np_i x2))]) C.x C.b dd_M_countTerms_1 rfl hl (by decide) rfl (fun ls hl => ?_)
  exact w_f_M_countTerms_2 C hQ  20000 _ _ _ _ _ _ _ hf hat (lv_sub hl [1, 2, 3, 0] rfl)
set_option maxHeartbeats 4000000 in
set_option maxRecDepth 100000 in
theorem c_M_countTerms (l : Launch) {gA : Nat → Nat} {D : va_G} {q : Nat → Nat} {cA : Nat → ClassId} (x1 x2 : Int) (σ : np_S) : np_Mv gA l D np_cl (np_ty cA) (nc_wd q cA) yy_M_countTerms (.code yy_M_countTerms prog_9_method_22_code 7 none :: np_al) { frames := 3, cells := 0, slots := 0, locals := 62 } [.ref (q 29), .int (np_i x1), .int (np_i x2)] σ (f_M_countTerms x1 x2 σ) :=
  np_mkv (by decide +kernel) (Nat.le_of_ble_eq_true rfl) (fun o p e R s m args below meth c Q A ls hf C hQ hat hl => w_f_M_countTerms C hQ x1 x2 σ _ _ _ hf hat (lv_sub hl [0, 1, 2] rfl))
set_option maxHeartbeats 4000000 in
set_option maxRecDepth 100000 in
theorem w_f_M_count_129 (C : np_Cx gA p R s m args c D np_cl (np_ty cA) A np_al "NotationParseModel" prog_9_method_23_code 6 { frames := 4, cells := 0, slots := 0, locals := 88 }) (hQ : ∀ (pc : Nat) (ls : Array Slot) (H : Heap) (locs : List Loc) {σ : np_S}, decode prog_9_method_23_code pc = .ok (.return_, 1) → some ((0 : Int), σ) = some out → np_At D np_cl A (nc_wd q cA) s σ H locs → W p l e R s m args below meth c H locs 0 0 Q (F0 m pc ls [])) {k24 : (Int → np_S → Option np_O)} {k34 : (Int → Int → np_S → Option np_O)} {k111 : (Int → Int → Int → Int → np_S → Option np_O)} (h24 : ∀ (x1 : Int) (σ : np_S) (H : Heap) (locs : List Loc) (ls : Array Slot), k24 x1 σ = some out → np_At D np_cl A (nc_wd q cA) s σ H locs → lv_has ls 6 [(0, .ref (q 29)), (1, .int (np_i x1))] → W p l e R s m args below meth c H locs 0 0 Q (F0 m 24 ls [])) (h34 : ∀ (x1 x2 : Int) (σ : np_S) (H : Heap) (locs : List Loc) (ls : Array Slot), k34 x1 x2 σ = some out → np_At D np_cl A (nc_wd q cA) s σ H locs → lv_has ls 6 [(0, .ref (q 29)), (1, .int (np_i x1)), (2, .int (np_i x2))] → W p l e R s m args below meth c H locs 0 0 Q (F0 m 34 ls [])) (h111 : ∀ (x1 x2 x3 x4 : Int) (σ : np_S) (H : Heap) (locs : List Loc) (ls : Array Slot), k111 x1 x2 x3 x4 σ = some out → np_At D np_cl A (nc_wd q cA) s σ H locs → lv_has ls 6 [(0, .ref (q 29)), (1, .int (np_i x1)), (2, .int (np_i x2)), (3, .int (np_i x3)), (4, .int (np_i x4))] → W p l e R s m args below meth c H locs 0 0 Q (F0 m 111 ls [])) : ∀ (n : Nat), ∀ (x1 x2 x3 x4 x5 : Int) (σ : np_S) (H : Heap) (locs : List Loc) (ls : Array Slot), f_M_count_129 k24 k34 k111 n x1 x2 x3 x4 x5 σ = some out → np_At D np_cl A (nc_wd q cA) s σ H locs → lv_has ls 6 [(0, .ref (q 29)), (1, .int (np_i x1)), (2, .int (np_i x2)), (3, .int (np_i x3)), (4, .int (np_i x4)), (5, .int (np_i x5))] → W p l e R s m args below meth c H locs 0 0 Q (F0 m 129 ls []) := by
  intro n
  induction n with
  | zero => intro x1 x2 x3 x4 x5 σ H locs ls hf; cases hf
  | succ n ih =>
    intro x1 x2 x3 x4 x5 σ H locs ls hf hat hl
    have h129 := ih
    have hf : f_M_count_129_b k24 k34 k111 (fun x1 x2 x3 x4 x5 σ => f_M_count_129 k24 k34 k111 n x1 x2 x3 x4 x5 σ) x1 x2 x3 x4 x5 σ = some out := hf
    unfold f_M_count_129_b at hf
    refine lv_iload C.x C.b dd_M_count_129 (lv_at hl 5 rfl) ?_
    refine np_if_le (tgt := 168) C dd_M_count_131 (by decide) hf (fun _ hf => ?_) (fun _ hf => ?_)
    · refine lv_iinc (v := np_i (x4 + 1)) (lv' := [(4, .int (np_i (x4 + 1))), (0, .ref (q 29)), (1, .int (np_i x1)), (2, .int (np_i x2)), (3, .int (np_i x3)), (5, .int (np_i x5))]) C.x C.b dd_M_count_168 hl (k := 4) rfl (np_inc _ _) (by decide) rfl (fun ls hl => ?_)
      refine lv_goto (tgt := 111) C.x C.b dd_M_count_171 (by decide) ?_
      exact h111 _ _ _ _ _ _ _ _ hf hat (lv_sub hl [1, 2, 3, 4, 0] rfl)
    · refine lv_aload_n C.x C.b dd_M_count_134 rfl (lv_at hl 0 rfl) ?_
      refine np_get (v := .ref (q 38)) C i_M hat.1 29 (nc_o29 _) rfl 15 (by decide) tw_938 rfl rfl dd_M_count_135 ?_
      refine lv_bipush (v := np_i 7) C.x C.b dd_M_count_138 (by decide +kernel) ?_
      refine lv_iload C.x C.b dd_M_count_140 (lv_at hl 4 rfl) ?_
      refine np_imul C dd_M_count_142 ?_
      refine lv_iload C.x C.b dd_M_count_143 (lv_at hl 5 rfl) ?_
      refine np_iadd C dd_M_count_145 ?_
      refine lv_iload_n C.x C.b dd_M_count_146 rfl (lv_at hl 2 rfl) ?_
      refine lv_iload_n C.x C.b dd_M_count_147 rfl (lv_at hl 3 rfl) ?_
      refine np_callSi (As := [.int (np_i ((7 * x4) + x5)), .int (np_i x2), .int (np_i x3)]) (rest := [.ref (q 38)]) C (c_M_cell l ((7 * x4) + x5) x2 x3 _) np_allgood tw_1079 tw_1080 tw_8 tw_1081 (nA := 3) (by decide +kernel) rfl ⟨rfl, rfl, Nat.le_of_ble_eq_true rfl, Nat.le_of_ble_eq_true rfl⟩ hat rfl hl.1 (Nat.le_of_ble_eq_true rfl) dd_M_count_148 hf (fun o1 H locs hf hat => ?_)
      refine lv_aload_n C.x C.b dd_M_count_151 rfl (lv_at hl 0 rfl) ?_
      refine lv_iload C.x C.b dd_M_count_152 (lv_at hl 4 rfl) ?_
      refine lv_iload C.x C.b dd_M_count_154 (lv_at hl 5 rfl) ?_
      refine lv_iload_n C.x C.b dd_M_count_156 rfl (lv_at hl 2 rfl) ?_
      refine lv_iload_n C.x C.b dd_M_count_157 rfl (lv_at hl 3 rfl) ?_
      refine np_callVi (As := [.int (np_i x4), .int (np_i x5), .int (np_i x2), .int (np_i x3)]) (rest := [.int (np_i o1.1), .ref (q 38)]) C (c_M_waysOf l x4 x5 x2 x3 _) np_allgood tw_1082 tw_1084 tp_31 tw_8 tw_1085 (nA := 4) (by decide +kernel) rfl ⟨rfl, rfl, Nat.le_of_ble_eq_true rfl, Nat.le_of_ble_eq_true rfl⟩ (va_recv C.k hat.1 (ci := 6) (q0 := 29) rfl (nc_o29 _)) hat rfl hl.1 (Nat.le_of_ble_eq_true rfl) dd_M_count_158 hf (fun o2 H locs hf hat => ?_)
      refine np_iastore C hat 38 (nc_a38 _) 0 rfl (by decide) (nc_s38 _ _ _) dd_M_count_161 hf (fun H locs hat hf => ?_)
      refine lv_iinc (v := np_i (x5 + (-1))) (lv' := [(5, .int (np_i (x5 + (-1)))), (0, .ref (q 29)), (1, .int (np_i x1)), (2, .int (np_i x2)), (3, .int (np_i x3)), (4, .int (np_i x4))]) C.x C.b dd_M_count_162 hl (k := 5) rfl (np_inc _ _) (by decide) rfl (fun ls hl => ?_)
      refine lv_goto (tgt := 129) C.x C.b dd_M_count_165 (by decide) ?_
      exact h129 _ _ _ _ _ _ _ _ _ hf hat (lv_sub hl [1, 2, 3, 4, 5, 0] rfl)
set_option maxHeartbeats 4000000 in
set_option maxRecDepth 100000 in
theorem w_f_M_count_111 (C : np_Cx gA p R s m args c D np_cl (np_ty cA) A np_al "NotationParseModel" prog_9_method_23_code 6 { frames := 4, cells := 0, slots := 0, locals := 88 }) (hQ : ∀ (pc : Nat) (ls : Array Slot) (H : Heap) (locs : List Loc) {σ : np_S}, decode prog_9_method_23_code pc = .ok (.return_, 1) → some ((0 : Int), σ) = some out → np_At D np_cl A (nc_wd q cA) s σ H locs → W p l e R s m args below meth c H locs 0 0 Q (F0 m pc ls [])) {k24 : (Int → np_S → Option np_O)} {k34 : (Int → Int → np_S → Option np_O)} (h24 : ∀ (x1 : Int) (σ : np_S) (H : Heap) (locs : List Loc) (ls : Array Slot), k24 x1 σ = some out → np_At D np_cl A (nc_wd q cA) s σ H locs → lv_has ls 6 [(0, .ref (q 29)), (1, .int (np_i x1))] → W p l e R s m args below meth c H locs 0 0 Q (F0 m 24 ls [])) (h34 : ∀ (x1 x2 : Int) (σ : np_S) (H : Heap) (locs : List Loc) (ls : Array Slot), k34 x1 x2 σ = some out → np_At D np_cl A (nc_wd q cA) s σ H locs → lv_has ls 6 [(0, .ref (q 29)), (1, .int (np_i x1)), (2, .int (np_i x2))] → W p l e R s m args below meth c H locs 0 0 Q (F0 m 34 ls [])) : ∀ (n : Nat), ∀ (x1 x2 x3 x4 : Int) (σ : np_S) (H : Heap) (locs : List Loc) (ls : Array Slot), f_M_count_111 k24 k34 n x1 x2 x3 x4 σ = some out → np_At D np_cl A (nc_wd q cA) s σ H locs → lv_has ls 6 [(0, .ref (q 29)), (1, .int (np_i x1)), (2, .int (np_i x2)), (3, .int (np_i x3)), (4, .int (np_i x4))] → W p l e R s m args below meth c H locs 0 0 Q (F0 m 111 ls []) := by
  intro n
  induction n with
  | zero => intro x1 x2 x3 x4 σ H locs ls hf; cases hf
  | succ n ih =>
    intro x1 x2 x3 x4 σ H locs ls hf hat hl
    have h111 := ih
    have hf : f_M_count_111_b k24 k34 (fun x1 x2 x3 x4 σ => f_M_count_111 k24 k34 n x1 x2 x3 x4 σ) x1 x2 x3 x4 σ = some out := hf
    unfold f_M_count_111_b at hf
    refine lv_iload C.x C.b dd_M_count_111 (lv_at hl 4 rfl) ?_
    refine lv_aload_n C.x C.b dd_M_count_113 rfl (lv_at hl 0 rfl) ?_
    refine np_get (v := .int (np_i (σ 29 2))) C i_M hat.1 29 (nc_o29 _) rfl 2 (by decide) tw_925 rfl rfl dd_M_count_114 ?_
    refine np_icmp_ge (tgt := 174) C dd_M_count_117 (by decide) hf (fun _ hf => ?_) (fun _ hf => ?_)
    · refine lv_iinc (v := np_i (x2 + 1)) (lv' := [(2, .int (np_i (x2 + 1))), (0, .ref (q 29)), (1, .int (np_i x1)), (3, .int (np_i x3)), (4, .int (np_i x4))]) C.x C.b dd_M_count_174 hl (k := 2) rfl (np_inc _ _) (by decide) rfl (fun ls hl => ?_)
      refine lv_goto (tgt := 34) C.x C.b dd_M_count_177 (by decide) ?_
      exact h34 _ _ _ _ _ _ hf hat (lv_sub hl [1, 2, 0] rfl)
    · refine lv_aload_n C.x C.b dd_M_count_120 rfl (lv_at hl 0 rfl) ?_
      refine np_get (v := .ref (q 32)) C i_M hat.1 29 (nc_o29 _) rfl 5 (by decide) tw_928 rfl rfl dd_M_count_121 ?_
      refine lv_iload C.x C.b dd_M_count_124 (lv_at hl 4 rfl) ?_
      refine np_iaload C hat.1 32 (nc_a32 _) 0 rfl (by decide) dd_M_count_126 hf (fun hf => ?_)
      refine lv_istore (lv' := [(5, .int (np_i (σ 32 x4))), (0, .ref (q 29)), (1, .int (np_i x1)), (2, .int (np_i x2)), (3, .int (np_i x3)), (4, .int (np_i x4))]) C.x C.b dd_M_count_127 hl (by decide) rfl (fun ls hl => ?_)
      exact w_f_M_count_129 C hQ h24 h34 h111 20000 _ _ _ _ _ _ _ _ _ hf hat (lv_sub hl [1, 2, 3, 4, 5, 0] rfl)
set_option maxHeartbeats 4000000 in
set_option maxRecDepth 100000 in
theorem w_f_M_count_108 (C : np_Cx gA p R s m args c D np_cl (np_ty cA) A np_al "NotationParseModel" prog_9_method_23_code 6 { frames := 4, cells := 0, slots := 0, locals := 88 }) (hQ : ∀ (pc : Nat) (ls : Array Slot) (H : Heap) (locs : List Loc) {σ : np_S}, decode prog_9_method_23_code pc = .ok (.return_, 1) → some ((0 : Int), σ) = some out → np_At D np_cl A (nc_wd q cA) s σ H locs → W p l e R s m args below meth c H locs 0 0 Q (F0 m pc ls [])) {k24 : (Int → np_S → Option np_O)} {k34 : (Int → Int → np_S → Option np_O)} (h24 : ∀ (x1 : Int) (σ : np_S) (H : Heap) (locs : List Loc) (ls : Array Slot), k24 x1 σ = some out → np_At D np_cl A (nc_wd q cA) s σ H locs → lv_has ls 6 [(0, .ref (q 29)), (1, .int (np_i x1))] → W p l e R s m args below meth c H locs 0 0 Q (F0 m 24 ls [])) (h34 : ∀ (x1 x2 : Int) (σ : np_S) (H : Heap) (locs : List Loc) (ls : Array Slot), k34 x1 x2 σ = some out → np_At D np_cl A (nc_wd q cA) s σ H locs → lv_has ls 6 [(0, .ref (q 29)), (1, .int (np_i x1)), (2, .int (np_i x2))] → W p l e R s m args below meth c H locs 0 0 Q (F0 m 34 ls [])) : ∀ (x1 x2 x3 : Int) (σ : np_S) (H : Heap) (locs : List Loc) (ls : Array Slot), f_M_count_108 k24 k34 x1 x2 x3 σ = some out → np_At D np_cl A (nc_wd q cA) s σ H locs → lv_has ls 6 [(0, .ref (q 29)), (1, .int (np_i x1)), (2, .int (np_i x2)), (3, .int (np_i x3))] → W p l e R s m args below meth c H locs 0 0 Q (F0 m 108 ls []) := by
  intro x1 x2 x3 σ H locs ls hf hat hl
  unfold f_M_count_108 at hf
  refine lv_iconst (v := np_i 0) C.x C.b dd_M_count_108 rfl ?_
  refine lv_istore (lv' := [(4, .int (np_i 0)), (0, .ref (q 29)), (1, .int (np_i x1)), (2, .int (np_i x2)), (3, .int (np_i x3))]) C.x C.b dd_M_count_109 hl (by decide) rfl (fun ls hl => ?_)
  exact w_f_M_count_111 C hQ h24 h34 20000 _ _ _ _ _ _ _ _ hf hat (lv_sub hl [1, 2, 3, 4, 0] rfl)
set_option maxHeartbeats 4000000 in
set_option maxRecDepth 100000 in
theorem w_f_M_count_91 (C : np_Cx gA p R s m args c D np_cl (np_ty cA) A np_al "NotationParseModel" prog_9_method_23_code 6 { frames := 4, cells := 0, slots := 0, locals := 88 }) (hQ : ∀ (pc : Nat) (ls : Array Slot) (H : Heap) (locs : List Loc) {σ : np_S}, decode prog_9_method_23_code pc = .ok (.return_, 1) → some ((0 : Int), σ) = some out → np_At D np_cl A (nc_wd q cA) s σ H locs → W p l e R s m args below meth c H locs 0 0 Q (F0 m pc ls [])) {k24 : (Int → np_S → Option np_O)} {k34 : (Int → Int → np_S → Option np_O)} {k51 : (Int → Int → Int → Int → np_S → Option np_O)} (h24 : ∀ (x1 : Int) (σ : np_S) (H : Heap) (locs : List Loc) (ls : Array Slot), k24 x1 σ = some out → np_At D np_cl A (nc_wd q cA) s σ H locs → lv_has ls 6 [(0, .ref (q 29)), (1, .int (np_i x1))] → W p l e R s m args below meth c H locs 0 0 Q (F0 m 24 ls [])) (h34 : ∀ (x1 x2 : Int) (σ : np_S) (H : Heap) (locs : List Loc) (ls : Array Slot), k34 x1 x2 σ = some out → np_At D np_cl A (nc_wd q cA) s σ H locs → lv_has ls 6 [(0, .ref (q 29)), (1, .int (np_i x1)), (2, .int (np_i x2))] → W p l e R s m args below meth c H locs 0 0 Q (F0 m 34 ls [])) (h51 : ∀ (x1 x2 x3 x4 : Int) (σ : np_S) (H : Heap) (locs : List Loc) (ls : Array Slot), k51 x1 x2 x3 x4 σ = some out → np_At D np_cl A (nc_wd q cA) s σ H locs → lv_has ls 6 [(0, .ref (q 29)), (1, .int (np_i x1)), (2, .int (np_i x2)), (3, .int (np_i x3)), (4, .int (np_i x4))] → W p l e R s m args below meth c H locs 0 0 Q (F0 m 51 ls [])) : ∀ (x1 x2 x3 x4 t1 t2 : Int) (σ : np_S) (H : Heap) (locs : List Loc) (ls : Array Slot), f_M_count_91 k24 k34 k51 x1 x2 x3 x4 t1 t2 σ = some out → np_At D np_cl A (nc_wd q cA) s σ H locs → lv_has ls 6 [(0, .ref (q 29)), (1, .int (np_i x1)), (2, .int (np_i x2)), (3, .int (np_i x3)), (4, .int (np_i x4))] → W p l e R s m args below meth c H locs 0 0 Q (F0 m 91 ls [.int (np_i t2), .int (np_i t1), .ref (q 38)]) := by
  intro x1 x2 x3 x4 t1 t2 σ H locs ls hf hat hl
  unfold f_M_count_91 at hf
  refine np_iastore C hat 38 (nc_a38 _) 0 rfl (by decide) (nc_s38 _ _ _) dd_M_count_91 hf (fun H locs hat hf => ?_)
  refine lv_iinc (v := np_i (x4 + 1)) (lv' := [(4, .int (np_i (x4 + 1))), (0, .ref (q 29)), (1, .int (np_i x1)), (2, .int (np_i x2)), (3, .int (np_i x3))]) C.x C.b dd_M_count_92 hl (k := 4) rfl (np_inc _ _) (by decide) rfl (fun ls hl => ?_)
  refine lv_goto (tgt := 51) C.x C.b dd_M_count_95 (by decide) ?_
  exact h51 _ _ _ _ _ _ _ _ hf hat (lv_sub hl [1, 2, 3, 4, 0] rfl)
set_option maxHeartbeats 4000000 in
set_option maxRecDepth 100000 in
theorem w_f_M_count_51 (C : np_Cx gA p R s m args c D np_cl (np_ty cA) A np_al "NotationParseModel" prog_9_method_23_code 6 { frames := 4, cells := 0, slots := 0, locals := 88 }) (hQ : ∀ (pc : Nat) (ls : Array Slot) (H : Heap) (locs : List Loc) {σ : np_S}, decode prog_9_method_23_code pc = .ok (.return_, 1) → some ((0 : Int), σ) = some out → np_At D np_cl A (nc_wd q cA) s σ H locs → W p l e R s m args below meth c H locs 0 0 Q (F0 m pc ls [])) {k24 : (Int → np_S → Option np_O)} {k34 : (Int → Int → np_S → Option np_O)} (h24 : ∀ (x1 : Int) (σ : np_S) (H : Heap) (locs : List Loc) (ls : Array Slot), k24 x1 σ = some out → np_At D np_cl A (nc_wd q cA) s σ H locs → lv_has ls 6 [(0, .ref (q 29)), (1, .int (np_i x1))] → W p l e R s m args below meth c H locs 0 0 Q (F0 m 24 ls [])) (h34 : ∀ (x1 x2 : Int) (σ : np_S) (H : Heap) (locs : List Loc) (ls : Array Slot), k34 x1 x2 σ = some out → np_At D np_cl A (nc_wd q cA) s σ H locs → lv_has ls 6 [(0, .ref (q 29)), (1, .int (np_i x1)), (2, .int (np_i x2))] → W p l e R s m args below meth c H locs 0 0 Q (F0 m 34 ls [])) : ∀ (n : Nat), ∀ (x1 x2 x3 x4 : Int) (σ : np_S) (H : Heap) (locs : List Loc) (ls : Array Slot), f_M_count_51 k24 k34 n x1 x2 x3 x4 σ = some out → np_At D np_cl A (nc_wd q cA) s σ H locs → lv_has ls 6 [(0, .ref (q 29)), (1, .int (np_i x1)), (2, .int (np_i x2)), (3, .int (np_i x3)), (4, .int (np_i x4))] → W p l e R s m args below meth c H locs 0 0 Q (F0 m 51 ls []) := by
  intro n
  induction n with
  | zero => intro x1 x2 x3 x4 σ H locs ls hf; cases hf
  | succ n ih =>
    intro x1 x2 x3 x4 σ H locs ls hf hat hl
    have h51 := ih
    have hf : f_M_count_51_b k24 k34 (fun x1 x2 x3 x4 σ => f_M_count_51 k24 k34 n x1 x2 x3 x4 σ) x1 x2 x3 x4 σ = some out := hf
    unfold f_M_count_51_b at hf
    refine lv_iload C.x C.b dd_M_count_51 (lv_at hl 4 rfl) ?_
    refine lv_aload_n C.x C.b dd_M_count_53 rfl (lv_at hl 0 rfl) ?_
    refine np_get (v := .int (np_i (σ 29 2))) C i_M hat.1 29 (nc_o29 _) rfl 2 (by decide) tw_925 rfl rfl dd_M_count_54 ?_
    refine np_icmp_ge (tgt := 98) C dd_M_count_57 (by decide) hf (fun _ hf => ?_) (fun _ hf => ?_)
    · refine lv_iload_n C.x C.b dd_M_count_98 rfl (lv_at hl 1 rfl) ?_
      refine np_if_le (tgt := 108) C dd_M_count_99 (by decide) hf (fun _ hf => ?_) (fun _ hf => ?_)
      · exact w_f_M_count_108 C hQ h24 h34 _ _ _ _ _ _ _ hf hat (lv_sub hl [0, 1, 2, 3] rfl)
      · refine lv_aload_n C.x C.b dd_M_count_102 rfl (lv_at hl 0 rfl) ?_
        refine lv_iload_n C.x C.b dd_M_count_103 rfl (lv_at hl 2 rfl) ?_
        refine lv_iload_n C.x C.b dd_M_count_104 rfl (lv_at hl 3 rfl) ?_
        refine np_callVv (As := [.int (np_i x2), .int (np_i x3)]) (rest := []) C (c_M_countTerms l x2 x3 _) np_allgood tw_1091 tw_1093 tp_32 tw_8 tw_1094 (nA := 2) (by decide +kernel) rfl ⟨rfl, rfl, Nat.le_of_ble_eq_true rfl, Nat.le_of_ble_eq_true rfl⟩ (va_recv C.k hat.1 (ci := 6) (q0 := 29) rfl (nc_o29 _)) hat rfl hl.1 (Nat.le_of_ble_eq_true rfl) dd_M_count_105 hf (fun o3 H locs hf hat => ?_)
        exact w_f_M_count_108 C hQ h24 h34 _ _ _ _ _ _ _ hf hat (lv_sub hl [0, 1, 2, 3] rfl)
    · refine lv_aload_n C.x C.b dd_M_count_60 rfl (lv_at hl 0 rfl) ?_
      refine np_get (v := .ref (q 38)) C i_M hat.1 29 (nc_o29 _) rfl 15 (by decide) tw_938 rfl rfl dd_M_count_61 ?_
      refine lv_bipush (v := np_i 7) C.x C.b dd_M_count_64 (by decide +kernel) ?_
      refine lv_iload C.x C.b dd_M_count_66 (lv_at hl 4 rfl) ?_
      refine np_imul C dd_M_count_68 ?_
      refine lv_iload_n C.x C.b dd_M_count_69 rfl (lv_at hl 2 rfl) ?_
      refine lv_iload_n C.x C.b dd_M_count_70 rfl (lv_at hl 3 rfl) ?_
      refine np_callSi (As := [.int (np_i (7 * x4)), .int (np_i x2), .int (np_i x3)]) (rest := [.ref (q 38)]) C (c_M_cell l (7 * x4) x2 x3 _) np_allgood tw_1079 tw_1080 tw_8 tw_1081 (nA := 3) (by decide +kernel) rfl ⟨rfl, rfl, Nat.le_of_ble_eq_true rfl, Nat.le_of_ble_eq_true rfl⟩ hat rfl hl.1 (Nat.le_of_ble_eq_true rfl) dd_M_count_71 hf (fun o4 H locs hf hat => ?_)
      refine lv_iload_n C.x C.b dd_M_count_74 rfl (lv_at hl 1 rfl) ?_
      refine np_if_ne (tgt := 82) C dd_M_count_75 (by decide) hf (fun _ hf => ?_) (fun _ hf => ?_)
      · refine lv_aload_n C.x C.b dd_M_count_82 rfl (lv_at hl 0 rfl) ?_
        refine lv_iload C.x C.b dd_M_count_83 (lv_at hl 4 rfl) ?_
        refine lv_iconst (v := np_i 0) C.x C.b dd_M_count_85 rfl ?_
        refine lv_iload_n C.x C.b dd_M_count_86 rfl (lv_at hl 2 rfl) ?_
        refine lv_iload_n C.x C.b dd_M_count_87 rfl (lv_at hl 3 rfl) ?_
        refine np_callVi (As := [.int (np_i x4), .int (np_i 0), .int (np_i x2), .int (np_i x3)]) (rest := [.int (np_i o4.1), .ref (q 38)]) C (c_M_waysOf l x4 0 x2 x3 _) np_allgood tw_1082 tw_1084 tp_31 tw_8 tw_1085 (nA := 4) (by decide +kernel) rfl ⟨rfl, rfl, Nat.le_of_ble_eq_true rfl, Nat.le_of_ble_eq_true rfl⟩ (va_recv C.k hat.1 (ci := 6) (q0 := 29) rfl (nc_o29 _)) hat rfl hl.1 (Nat.le_of_ble_eq_true rfl) dd_M_count_88 hf (fun o5 H locs hf hat => ?_)
        exact w_f_M_count_91 C hQ h24 h34 h51 _ _ _ _ _ _ _ _ _ _ hf hat (lv_sub hl [0, 1, 2, 3, 4] rfl)
      · refine lv_iconst (v := np_i 0) C.x C.b dd_M_count_78 rfl ?_
        refine lv_goto (tgt := 91) C.x C.b dd_M_count_79 (by decide) ?_
        exact w_f_M_count_91 C hQ h24 h34 h51 _ _ _ _ _ _ _ _ _ _ hf hat (lv_sub hl [0, 1, 2, 3, 4] rfl)
set_option maxHeartbeats 4000000 in
set_option maxRecDepth 100000 in
theorem w_f_M_count_34 (C : np_Cx gA p R s m args c D np_cl (np_ty cA) A np_al "NotationParseModel" prog_9_method_23_code 6 { frames := 4, cells := 0, slots := 0, locals := 88 }) (hQ : ∀ (pc : Nat) (ls : Array Slot) (H : Heap) (locs : List Loc) {σ : np_S}, decode prog_9_method_23_code pc = .ok (.return_, 1) → some ((0 : Int), σ) = some out → np_At D np_cl A (nc_wd q cA) s σ H locs → W p l e R s m args below meth c H locs 0 0 Q (F0 m pc ls [])) {k24 : (Int → np_S → Option np_O)} (h24 : ∀ (x1 : Int) (σ : np_S) (H : Heap) (locs : List Loc) (ls : Array Slot), k24 x1 σ = some out → np_At D np_cl A (nc_wd q cA) s σ H locs → lv_has ls 6 [(0, .ref (q 29)), (1, .int (np_i x1))] → W p l e R s m args below meth c H locs 0 0 Q (F0 m 24 ls [])) : ∀ (n : Nat), ∀ (x1 x2 : Int) (σ : np_S) (H : Heap) (locs : List Loc) (ls : Array Slot), f_M_count_34 k24 n x1 x2 σ = some out → np_At D np_cl A (nc_wd q cA) s σ H locs → lv_has ls 6 [(0, .ref (q 29)), (1, .int (np_i x1)), (2, .int (np_i x2))] → W p l e R s m args below meth c H locs 0 0 Q (F0 m 34 ls []) := by
  intro n
  induction n with
  | zero => intro x1 x2 σ H locs ls hf; cases hf
  | succ n ih =>
    intro x1 x2 σ H locs ls hf hat hl
    have h34 := ih
    have hf : f_M_count_34_b k24 (fun x1 x2 σ => f_M_count_34 k24 n x1 x2 σ) x1 x2 σ = some out := hf
    unfold f_M_count_34_b at hf
    refine lv_iload_n C.x C.b dd_M_count_34 rfl (lv_at hl 2 rfl) ?_
    refine lv_iload_n C.x C.b dd_M_count_35 rfl (lv_at hl 1 rfl) ?_
    refine np_iadd C dd_M_count_36 ?_
    refine lv_aload_n C.x C.b dd_M_count_37 rfl (lv_at hl 0 rfl) ?_
    refine np_get (v := .int (np_i (σ 29 11))) C i_M hat.1 29 (nc_o29 _) rfl 11 (by decide) tw_934 rfl rfl dd_M_count_38 ?_
    refine np_icmp_gt (tgt := 180) C dd_M_count_41 (by decide) hf (fun _ hf => ?_) (fun _ hf => ?_)
    · refine lv_iinc (v := np_i (x1 + 1)) (lv' := [(1, .int (np_i (x1 + 1))), (0, .ref (q 29)), (2, .int (np_i x2))]) C.x C.b dd_M_count_180 hl (k := 1) rfl (np_inc _ _) (by decide) rfl (fun ls hl => ?_)
      refine lv_goto (tgt := 24) C.x C.b dd_M_count_183 (by decide) ?_
      exact h24 _ _ _ _ _ hf hat (lv_sub hl [1, 0] rfl)
    · refine lv_iload_n C.x C.b dd_M_count_44 rfl (lv_at hl 2 rfl) ?_
      refine lv_iload_n C.x C.b dd_M_count_45 rfl (lv_at hl 1 rfl) ?_
      refine np_iadd C dd_M_count_46 ?_
      refine lv_istore_n (lv' := [(3, .int (np_i (x2 + x1))), (0, .ref (q 29)), (1, .int (np_i x1)), (2, .int (np_i x2))]) C.x C.b dd_M_count_47 rfl hl (by decide) rfl (fun ls hl => ?_)
      refine lv_iconst (v := np_i 0) C.x C.b dd_M_count_48 rfl ?_
      refine lv_istore (lv' := [(4, .int (np_i 0)), (3, .int (np_i (x2 + x1))), (0, .ref (q 29)), (1, .int (np_i x1)), (2, .int (np_i x2))]) C.x C.b dd_M_count_49 hl (by decide) rfl (fun ls hl => ?_)
      exact w_f_M_count_51 C hQ h24 h34 20000 _ _ _ _ _ _ _ _ hf hat (lv_sub hl [2, 3, 4, 1, 0] rfl)
set_option maxHeartbeats 4000000 in
set_option maxRecDepth 100000 in
theorem w_f_M_count_24 (C : np_Cx gA p R s m args c D np_cl (np_ty cA) A np_al "NotationParseModel" prog_9_method_23_code 6 { frames := 4, cells := 0, slots := 0, locals := 88 }) (hQ : ∀ (pc : Nat) (ls : Array Slot) (H : Heap) (locs : List Loc) {σ : np_S}, decode prog_9_method_23_code pc = .ok (.return_, 1) → some ((0 : Int), σ) = some out → np_At D np_cl A (nc_wd q cA) s σ H locs → W p l e R s m args below meth c H locs 0 0 Q (F0 m pc ls []))   : ∀ (n : Nat), ∀ (x1 : Int) (σ : np_S) (H : Heap) (locs : List Loc) (ls : Array Slot), f_M_count_24  n x1 σ = some out → np_At D np_cl A (nc_wd q cA) s σ H locs → lv_has ls 6 [(0, .ref (q 29)), (1, .int (np_i x1))] → W p l e R s m args below meth c H locs 0 0 Q (F0 m 24 ls []) := by
  intro n
  induction n with
  | zero => intro x1 σ H locs ls hf; cases hf
  | succ n ih =>
    intro x1 σ H locs ls hf hat hl
    have h24 := ih
    have hf : f_M_count_24_b  (fun x1 σ => f_M_count_24  n x1 σ) x1 σ = some out := hf
    unfold f_M_count_24_b at hf
    refine lv_iload_n C.x C.b dd_M_count_24 rfl (lv_at hl 1 rfl) ?_
    refine lv_aload_n C.x C.b dd_M_count_25 rfl (lv_at hl 0 rfl) ?_
    refine np_get (v := .int (np_i (σ 29 11))) C i_M hat.1 29 (nc_o29 _) rfl 11 (by decide) tw_934 rfl rfl dd_M_count_26 ?_
    refine np_icmp_gt (tgt := 186) C dd_M_count_29 (by decide) hf (fun _ hf => ?_) (fun _ hf => ?_)
    · exact hQ _ _ _ _ dd_M_count_186 hf hat
    · refine lv_iconst (v := np_i 0) C.x C.b dd_M_count_32 rfl ?_
      refine lv_istore_n (lv' := [(2, .int (np_i 0)), (0, .ref (q 29)), (1, .int (np_i x1))]) C.x C.b dd_M_count_33 rfl hl (by decide) rfl (fun ls hl => ?_)
      exact w_f_M_count_34 C hQ h24 20000 _ _ _ _ _ _ hf hat (lv_sub hl [1, 2, 0] rfl)
set_option maxHeartbeats 4000000 in
set_option maxRecDepth 100000 in
theorem w_f_M_count_2 (C : np_Cx gA p R s m args c D np_cl (np_ty cA) A np_al "NotationParseModel" prog_9_method_23_code 6 { frames := 4, cells := 0, slots := 0, locals := 88 }) (hQ : ∀ (pc : Nat) (ls : Array Slot) (H : Heap) (locs : List Loc) {σ : np_S}, decode prog_9_method_23_code pc = .ok (.return_, 1) → some ((0 : Int), σ) = some out → np_At D np_cl A (nc_wd q cA) s σ H locs → W p l e R s m args below meth c H locs 0 0 Q (F0 m pc ls []))   : ∀ (n : Nat), ∀ (x1 : Int) (σ : np_S) (H : Heap) (locs : List Loc) (ls : Array Slot), f_M_count_2  n x1 σ = some out → np_At D np_cl A (nc_wd q cA) s σ H locs → lv_has ls 6 [(0, .ref (q 29)), (1, .int (np_i x1))] → W p l e R s m args below meth c H locs 0 0 Q (F0 m 2 ls []) := by
  intro n
  induction n with
  | zero => intro x1 σ H locs ls hf; cases hf
  | succ n ih =>
    intro x1 σ H locs ls hf hat hl
    have h2 := ih
    have hf : f_M_count_2_b  (fun x1 σ => f_M_count_2  n x1 σ) x1 σ = some out := hf
    unfold f_M_count_2_b at hf
    refine lv_iload_n C.x C.b dd_M_count_2 rfl (lv_at hl 1 rfl) ?_
    refine lv_sipush (v := np_i 10571) C.x C.b dd_M_count_3 (by decide +kernel) ?_
    refine np_icmp_ge (tgt := 22) C dd_M_count_6 (by decide) hf (fun _ hf => ?_) (fun _ hf => ?_)
    · refine lv_iconst (v := np_i 0) C.x C.b dd_M_count_22 rfl ?_
      refine lv_istore_n (lv' := [(1, .int (np_i 0)), (0, .ref (q 29))]) C.x C.b dd_M_count_23 rfl hl (by decide) rfl (fun ls hl => ?_)
      exact w_f_M_count_24 C hQ  20000 _ _ _ _ _ hf hat (lv_sub hl [1, 0] rfl)
    · refine lv_aload_n C.x C.b dd_M_count_9 rfl (lv_at hl 0 rfl) ?_
      refine np_get (v := .ref (q 37)) C i_M hat.1 29 (nc_o29 _) rfl 14 (by decide) tw_937 rfl rfl dd_M_count_10 ?_
      refine lv_iload_n C.x C.b dd_M_count_13 rfl (lv_at hl 1 rfl) ?_
      refine lv_iconst (v := np_i 0) C.x C.b dd_M_count_14 rfl ?_
      refine np_iastore C hat 37 (nc_a37 _) 0 rfl (by decide) (nc_s37 _ _ _) dd_M_count_15 hf (fun H locs hat hf => ?_)
      refine lv_iinc (v := np_i (x1 + 1)) (lv' := [(1, .int (np_i (x1 + 1))), (0, .ref (q 29))]) C.x C.b dd_M_count_16 hl (k := 1) rfl (np_inc _ _) (by decide) rfl (fun ls hl => ?_)
      refine lv_goto (tgt := 2) C.x C.b dd_M_count_19 (by decide) ?_
      exact h2 _ _ _ _ _ hf hat (lv_sub hl [1, 0] rfl)
set_option maxHeartbeats 4000000 in
set_option maxRecDepth 100000 in
theorem w_f_M_count (C : np_Cx gA p R s m args c D np_cl (np_ty cA) A np_al "NotationParseModel" prog_9_method_23_code 6 { frames := 4, cells := 0, slots := 0, locals := 88 }) (hQ : ∀ (pc : Nat) (ls : Array Slot) (H : Heap) (locs : List Loc) {σ : np_S}, decode prog_9_method_23_code pc = .ok (.return_, 1) → some ((0 : Int), σ) = some out → np_At D np_cl A (nc_wd q cA) s σ H locs → W p l e R s m args below meth c H locs 0 0 Q (F0 m pc ls []))   : ∀ (σ : np_S) (H : Heap) (locs : List Loc) (ls : Array Slot), f_M_count  σ = some out → np_At D np_cl A (nc_wd q cA) s σ H locs → lv_has ls 6 [(0, .ref (q 29))] → W p l e R s m args below meth c H locs 0 0 Q (F0 m 0 ls []) := by
  intro σ H locs ls hf hat hl
  unfold f_M_count at hf
  refine lv_iconst (v := np_i 0) C.x C.b dd_M_count_0 rfl ?_
  refine lv_istore_n (lv' := [(1, .int (np_i 0)), (0, .ref (q 29))]) C.x C.b dd_M_count_1 rfl hl (by decide) rfl (fun ls hl => ?_)
  exact w_f_M_count_2 C hQ  20000 _ _ _ _ _ hf hat (lv_sub hl [1, 0] rfl)
set_option maxHeartbeats 4000000 in
set_option maxRecDepth 100000 in
theorem c_M_count (l : Launch) {gA : Nat → Nat} {D : va_G} {q : Nat → Nat} {cA : Nat → ClassId} (σ : np_S) : np_Mv gA l D np_cl (np_ty cA) (nc_wd q cA) yy_M_count (.code yy_M_count prog_9_method_23_code 6 none :: np_al) { frames := 4, cells := 0, slots := 0, locals := 88 } [.ref (q 29)] σ (f_M_count  σ) :=
  np_mkv (by decide +kernel) (Nat.le_of_ble_eq_true rfl) (fun o p e R s m args below meth c Q A ls hf C hQ hat hl => w_f_M_count C hQ  σ _ _ _ hf hat (lv_sub hl [0] rfl))
set_option maxHeartbeats 4000000 in
set_option maxRecDepth 100000 in
theorem w_f_M_mayBegin_161 (C : np_Cx gA p R s m args c D np_cl (np_ty cA) A np_al "NotationParseModel" prog_9_method_24_code 8 { frames := 1, cells := 0, slots := 0, locals := 22 }) (hQ : ∀ (pc : Nat) (ls : Array Slot) (H : Heap) (locs : List Loc) (v : Int) {σ : np_S}, decode prog_9_method_24_code pc = .ok (.ireturn, 1) → np_ck (v = 0 ∨ v = 1) (some (v, σ)) = some out → np_At D np_cl A (nc_wd q cA) s σ H locs → W p l e R s m args below meth c H locs 0 0 Q (F0 m pc ls [.int (np_i v)])) {k105 : (Int → Int → Int → Int → Int → np_S → Option np_O)} (h105 : ∀ (x3 x4 x5 x6 x7 : Int) (σ : np_S) (H : Heap) (locs : List Loc) (ls : Array Slot), k105 x3 x4 x5 x6 x7 σ = some out → np_At D np_cl A (nc_wd q cA) s σ H locs → lv_has ls 8 [(0, .ref (q 29)), (3, .int (np_i x3)), (4, .int (np_i x4)), (5, .int (np_i x5)), (6, .int (np_i x6)), (7, .int (np_i x7))] → W p l e R s m args below meth c H locs 0 0 Q (F0 m 105 ls [])) : ∀ (x3 x4 x5 x7 t0 : Int) (σ : np_S) (H : Heap) (locs : List Loc) (ls : Array Slot), f_M_mayBegin_161 k105 x3 x4 x5 x7 t0 σ = some out → np_At D np_cl A (nc_wd q cA) s σ H locs → lv_has ls 8 [(0, .ref (q 29)), (3, .int (np_i x3)), (4, .int (np_i x4)), (5, .int (np_i x5)), (7, .int (np_i x7))] → W p l e R s m args below meth c H locs 0 0 Q (F0 m 161 ls [.int (np_i t0)]) := by
  intro x3 x4 x5 x7 t0 σ H locs ls hf hat hl
  unfold f_M_mayBegin_161 at hf
  refine lv_istore (lv' := [(6, .int (np_i t0)), (0, .ref (q 29)), (3, .int (np_i x3)), (4, .int (np_i x4)), (5, .int (np_i x5)), (7, .int (np_i x7))]) C.x C.b dd_M_mayBegin_161 hl (by decide) rfl (fun ls hl => ?_)
  refine lv_iinc (v := np_i (x7 + 1)) (lv' := [(7, .int (np_i (x7 + 1))), (6, .int (np_i t0)), (0, .ref (q 29)), (3, .int (np_i x3)), (4, .int (np_i x4)), (5, .int (np_i x5))]) C.x C.b dd_M_mayBegin_163 hl (k := 5) rfl (np_inc _ _) (by decide) rfl (fun ls hl => ?_)
  refine lv_goto (tgt := 105) C.x C.b dd_M_mayBegin_166 (by decide) ?_
  exact h105 _ _ _ _ _ _ _ _ _ hf hat (lv_sub hl [2, 3, 4, 5, 1, 0] rfl)
set_option maxHeartbeats 4000000 in
set_option maxRecDepth 100000 in
theorem w_f_M_mayBegin_156 (C : np_Cx gA p R s m args c D np_cl (np_ty cA) A np_al "NotationParseModel" prog_9_method_24_code 8 { frames := 1, cells := 0, slots := 0, locals := 22 }) (hQ : ∀ (pc : Nat) (ls : Array Slot) (H : Heap) (locs : List Loc) (v : Int) {σ : np_S}, decode prog_9_method_24_code pc = .ok (.ireturn, 1) → np_ck (v = 0 ∨ v = 1) (some (v, σ)) = some out → np_At D np_cl A (nc_wd q cA) s σ H locs → W p l e R s m args below meth c H locs 0 0 Q (F0 m pc ls [.int (np_i v)])) {k105 : (Int → Int → Int → Int → Int → np_S → Option np_O)} (h105 : ∀ (x3 x4 x5 x6 x7 : Int) (σ : np_S) (H : Heap) (locs : List Loc) (ls : Array Slot), k105 x3 x4 x5 x6 x7 σ = some out → np_At D np_cl A (nc_wd q cA) s σ H locs → lv_has ls 8 [(0, .ref (q 29)), (3, .int (np_i x3)), (4, .int (np_i x4)), (5, .int (np_i x5)), (6, .int (np_i x6)), (7, .int (np_i x7))] → W p l e R s m args below meth c H locs 0 0 Q (F0 m 105 ls [])) : ∀ (x3 x4 x5 x7 : Int) (σ : np_S) (H : Heap) (locs : List Loc) (ls : Array Slot), f_M_mayBegin_156 k105 x3 x4 x5 x7 σ = some out → np_At D np_cl A (nc_wd q cA) s σ H locs → lv_has ls 8 [(0, .ref (q 29)), (3, .int (np_i x3)), (4, .int (np_i x4)), (5, .int (np_i x5)), (7, .int (np_i x7))] → W p l e R s m args below meth c H locs 0 0 Q (F0 m 156 ls []) := by
  intro x3 x4 x5 x7 σ H locs ls hf hat hl
  unfold f_M_mayBegin_156 at hf
  refine lv_iconst (v := np_i 1) C.x C.b dd_M_mayBegin_156 rfl ?_
  refine lv_goto (tgt := 161) C.x C.b dd_M_mayBegin_157 (by decide) ?_
  exact w_f_M_mayBegin_161 C hQ h105 _ _ _ _ _ _ _ _ _ hf hat (lv_sub hl [0, 1, 2, 3, 4] rfl)
set_option maxHeartbeats 4000000 in
set_option maxRecDepth 100000 in
theorem w_f_M_mayBegin_160 (C : np_Cx gA p R s m args c D np_cl (np_ty cA) A np_al "NotationParseModel" prog_9_method_24_code 8 { frames := 1, cells := 0, slots := 0, locals := 22 }) (hQ : ∀ (pc : Nat) (ls : Array Slot) (H : Heap) (locs : List Loc) (v : Int) {σ : np_S}, decode prog_9_method_24_code pc = .ok (.ireturn, 1) → np_ck (v = 0 ∨ v = 1) (some (v, σ)) = some out → np_At D np_cl A (nc_wd q cA) s σ H locs → W p l e R s m args below meth c H locs 0 0 Q (F0 m pc ls [.int (np_i v)])) {k105 : (Int → Int → Int → Int → Int → np_S → Option np_O)} (h105 : ∀ (x3 x4 x5 x6 x7 : Int) (σ : np_S) (H : Heap) (locs : List Loc) (ls : Array Slot), k105 x3 x4 x5 x6 x7 σ = some out → np_At D np_cl A (nc_wd q cA) s σ H locs → lv_has ls 8 [(0, .ref (q 29)), (3, .int (np_i x3)), (4, .int (np_i x4)), (5, .int (np_i x5)), (6, .int (np_i x6)), (7, .int (np_i x7))] → W p l e R s m args below meth c H locs 0 0 Q (F0 m 105 ls [])) : ∀ (x3 x4 x5 x7 : Int) (σ : np_S) (H : Heap) (locs : List Loc) (ls : Array Slot), f_M_mayBegin_160 k105 x3 x4 x5 x7 σ = some out → np_At D np_cl A (nc_wd q cA) s σ H locs → lv_has ls 8 [(0, .ref (q 29)), (3, .int (np_i x3)), (4, .int (np_i x4)), (5, .int (np_i x5)), (7, .int (np_i x7))] → W p l e R s m args below meth c H locs 0 0 Q (F0 m 160 ls []) := by
  intro x3 x4 x5 x7 σ H locs ls hf hat hl
  unfold f_M_mayBegin_160 at hf
  refine lv_iconst (v := np_i 0) C.x C.b dd_M_mayBegin_160 rfl ?_
  exact w_f_M_mayBegin_161 C hQ h105 _ _ _ _ _ _ _ _ _ hf hat (lv_sub hl [0, 1, 2, 3, 4] rfl)
set_option maxHeartbeats 4000000 in
set_option maxRecDepth 100000 in
theorem w_f_M_mayBegin_105 (C : np_Cx gA p R s m args c D np_cl (np_ty cA) A np_al "NotationParseModel" prog_9_method_24_code 8 { frames := 1, cells := 0, slots := 0, locals := 22 }) (hQ : ∀ (pc : Nat) (ls : Array Slot) (H : Heap) (locs : List Loc) (v : Int) {σ : np_S}, decode prog_9_method_24_code pc = .ok (.ireturn, 1) → np_ck (v = 0 ∨ v = 1) (some (v, σ)) = some out → np_At D np_cl A (nc_wd q cA) s σ H locs → W p l e R s m args below meth c H locs 0 0 Q (F0 m pc ls [.int (np_i v)]))   : ∀ (n : Nat), ∀ (x3 x4 x5 x6 x7 : Int) (σ : np_S) (H : Heap) (locs : List Loc) (ls : Array Slot), f_M_mayBegin_105  n x3 x4 x5 x6 x7 σ = some out → np_At D np_cl A (nc_wd q cA) s σ H locs → lv_has ls 8 [(0, .ref (q 29)), (3, .int (np_i x3)), (4, .int (np_i x4)), (5, .int (np_i x5)), (6, .int (np_i x6)), (7, .int (np_i x7))] → W p l e R s m args below meth c H locs 0 0 Q (F0 m 105 ls []) := by
  intro n
  induction n with
  | zero => intro x3 x4 x5 x6 x7 σ H locs ls hf; cases hf
  | succ n ih =>
    intro x3 x4 x5 x6 x7 σ H locs ls hf hat hl
    have h105 := ih
    have hf : f_M_mayBegin_105_b  (fun x3 x4 x5 x6 x7 σ => f_M_mayBegin_105  n x3 x4 x5 x6 x7 σ) x3 x4 x5 x6 x7 σ = some out := hf
    unfold f_M_mayBegin_105_b at hf
    refine lv_iload C.x C.b dd_M_mayBegin_105 (lv_at hl 5 rfl) ?_
    refine lv_iload C.x C.b dd_M_mayBegin_107 (lv_at hl 2 rfl) ?_
    refine np_icmp_gt (tgt := 169) C dd_M_mayBegin_109 (by decide) hf (fun _ hf => ?_) (fun _ hf => ?_)
    · refine lv_iload C.x C.b dd_M_mayBegin_169 (lv_at hl 4 rfl) ?_
      exact hQ _ _ _ _ _ dd_M_mayBegin_171 hf hat
    · refine lv_iload C.x C.b dd_M_mayBegin_112 (lv_at hl 4 rfl) ?_
      refine np_if_ne (tgt := 156) C dd_M_mayBegin_114 (by decide) hf (fun _ hf => ?_) (fun _ hf => ?_)
      · exact w_f_M_mayBegin_156 C hQ h105 _ _ _ _ _ _ _ _ hf hat (lv_sub hl [0, 1, 2, 3, 5] rfl)
      · refine lv_aload_n C.x C.b dd_M_mayBegin_117 rfl (lv_at hl 0 rfl) ?_
        refine np_get (v := .ref (q 37)) C i_M hat.1 29 (nc_o29 _) rfl 14 (by decide) tw_937 rfl rfl dd_M_mayBegin_118 ?_
        refine lv_aload_n C.x C.b dd_M_mayBegin_121 rfl (lv_at hl 0 rfl) ?_
        refine np_get (v := .ref (q 30)) C i_M hat.1 29 (nc_o29 _) rfl 3 (by decide) tw_926 rfl rfl dd_M_mayBegin_122 ?_
        refine lv_iload C.x C.b dd_M_mayBegin_125 (lv_at hl 3 rfl) ?_
        refine np_iaload C hat.1 30 (nc_a30 _) 0 rfl (by decide) dd_M_mayBegin_127 hf (fun hf => ?_)
        refine lv_iload_n C.x C.b dd_M_mayBegin_128 rfl (lv_at hl 1 rfl) ?_
        refine lv_iload C.x C.b dd_M_mayBegin_129 (lv_at hl 5 rfl) ?_
        refine np_callSi (As := [.int (np_i (σ 30 x5)), .int (np_i x3), .int (np_i x7)]) (rest := [.ref (q 37)]) C (c_M_cell l (σ 30 x5) x3 x7 _) np_allgood tw_1079 tw_1080 tw_8 tw_1081 (nA := 3) (by decide +kernel) rfl ⟨rfl, rfl, Nat.le_of_ble_eq_true rfl, Nat.le_of_ble_eq_true rfl⟩ hat rfl hl.1 (Nat.le_of_ble_eq_true rfl) dd_M_mayBegin_131 hf (fun o1 H locs hf hat => ?_)
        refine np_iaload C hat.1 37 (nc_a37 _) 0 rfl (by decide) dd_M_mayBegin_134 hf (fun hf => ?_)
        refine np_if_le (tgt := 160) C dd_M_mayBegin_135 (by decide) hf (fun _ hf => ?_) (fun _ hf => ?_)
        · exact w_f_M_mayBegin_160 C hQ h105 _ _ _ _ _ _ _ _ hf hat (lv_sub hl [0, 1, 2, 3, 5] rfl)
        · refine lv_aload_n C.x C.b dd_M_mayBegin_138 rfl (lv_at hl 0 rfl) ?_
          refine np_get (v := .ref (q 40)) C i_M hat.1 29 (nc_o29 _) rfl 17 (by decide) tw_940 rfl rfl dd_M_mayBegin_139 ?_
          refine lv_bipush (v := np_i 31) C.x C.b dd_M_mayBegin_142 (by decide +kernel) ?_
          refine lv_iload C.x C.b dd_M_mayBegin_144 (lv_at hl 3 rfl) ?_
          refine lv_iconst (v := np_i 1) C.x C.b dd_M_mayBegin_146 rfl ?_
          refine np_iadd C dd_M_mayBegin_147 ?_
          refine np_imul C dd_M_mayBegin_148 ?_
          refine lv_iload C.x C.b dd_M_mayBegin_149 (lv_at hl 5 rfl) ?_
          refine np_iadd C dd_M_mayBegin_151 ?_
          refine np_zaload C hat.1 40 (nc_a40 _) 3 rfl (by decide) dd_M_mayBegin_152 hf (fun hf => ?_)
          refine np_if_eq (tgt := 160) C dd_M_mayBegin_153 (by decide) hf (fun _ hf => ?_) (fun _ hf => ?_)
          · exact w_f_M_mayBegin_160 C hQ h105 _ _ _ _ _ _ _ _ hf hat (lv_sub hl [0, 1, 2, 3, 5] rfl)
          · exact w_f_M_mayBegin_156 C hQ h105 _ _ _ _ _ _ _ _ hf hat (lv_sub hl [0, 1, 2, 3, 5] rfl)
set_option maxHeartbeats 4000000 in
set_option maxRecDepth 100000 in
theorem w_f_M_mayBegin_80 (C : np_Cx gA p R s m args c D np_cl (np_ty cA) A np_al "NotationParseModel" prog_9_method_24_code 8 { frames := 1, cells := 0, slots := 0, locals := 22 }) (hQ : ∀ (pc : Nat) (ls : Array Slot) (H : Heap) (locs : List Loc) (v : Int) {σ : np_S}, decode prog_9_method_24_code pc = .ok (.ireturn, 1) → np_ck (v = 0 ∨ v = 1) (some (v, σ)) = some out → np_At D np_cl A (nc_wd q cA) s σ H locs → W p l e R s m args below meth c H locs 0 0 Q (F0 m pc ls [.int (np_i v)]))   : ∀ (t0 : Int) (σ : np_S) (H : Heap) (locs : List Loc) (ls : Array Slot), f_M_mayBegin_80  t0 σ = some out → np_At D np_cl A (nc_wd q cA) s σ H locs → lv_has ls 8 [] → W p l e R s m args below meth c H locs 0 0 Q (F0 m 80 ls [.int (np_i t0)]) := by
  intro t0 σ H locs ls hf hat hl
  unfold f_M_mayBegin_80 at hf
  exact hQ _ _ _ _ _ dd_M_mayBegin_80 hf hat
set_option maxHeartbeats 4000000 in
set_option maxRecDepth 100000 in
theorem w_f_M_mayBegin_79 (C : np_Cx gA p R s m args c D np_cl (np_ty cA) A np_al "NotationParseModel" prog_9_method_24_code 8 { frames := 1, cells := 0, slots := 0, locals := 22 }) (hQ : ∀ (pc : Nat) (ls : Array Slot) (H : Heap) (locs : List Loc) (v : Int) {σ : np_S}, decode prog_9_method_24_code pc = .ok (.ireturn, 1) → np_ck (v = 0 ∨ v = 1) (some (v, σ)) = some out → np_At D np_cl A (nc_wd q cA) s σ H locs → W p l e R s m args below meth c H locs 0 0 Q (F0 m pc ls [.int (np_i v)]))   : ∀ (σ : np_S) (H : Heap) (locs : List Loc) (ls : Array Slot), f_M_mayBegin_79  σ = some out → np_At D np_cl A (nc_wd q cA) s σ H locs → lv_has ls 8 [] → W p l e R s m args below meth c H locs 0 0 Q (F0 m 79 ls []) := by
  intro σ H locs ls hf hat hl
  unfold f_M_mayBegin_79 at hf
  refine lv_iconst (v := np_i 0) C.x C.b dd_M_mayBegin_79 rfl ?_
  exact w_f_M_mayBegin_80 C hQ  _ _ _ _ _ hf hat (lv_sub hl [] rfl)
set_option maxHeartbeats 4000000 in
set_option maxRecDepth 100000 in
theorem w_f_M_mayBegin (C : np_Cx gA p R s m args c D np_cl (np_ty cA) A np_al "NotationParseModel" prog_9_method_24_code 8 { frames := 1, cells := 0, slots := 0, locals := 22 }) (hQ : ∀ (pc : Nat) (ls : Array Slot) (H : Heap) (locs : List Loc) (v : Int) {σ : np_S}, decode prog_9_method_24_code pc = .ok (.ireturn, 1) → np_ck (v = 0 ∨ v = 1) (some (v, σ)) = some out → np_At D np_cl A (nc_wd q cA) s σ H locs → W p l e R s m args below meth c H locs 0 0 Q (F0 m pc ls [.int (np_i v)]))   : ∀ (x1 x2 x3 x4 : Int) (σ : np_S) (H : Heap) (locs : List Loc) (ls : Array Slot), f_M_mayBegin  x1 x2 x3 x4 σ = some out → np_At D np_cl A (nc_wd q cA) s σ H locs → lv_has ls 8 [(0, .ref (q 29)), (1, .int (np_i x1)), (2, .int (np_i x2)), (3, .int (np_i x3)), (4, .int (np_i x4))] → W p l e R s m args below meth c H locs 0 0 Q (F0 m 0 ls []) := by
  intro x1 x2 x3 x4 σ H locs ls hf hat hl
  unfold f_M_mayBegin at hf
  refine lv_bipush (v := np_i 7) C.x C.b dd_M_mayBegin_0 (by decide +kernel) ?_
  refine lv_iload_n C.x C.b dd_M_mayBegin_2 rfl (lv_at hl 1 rfl) ?_
  refine np_imul C dd_M_mayBegin_3 ?_
  refine lv_iload_n C.x C.b dd_M_mayBegin_4 rfl (lv_at hl 2 rfl) ?_
  refine np_iadd C dd_M_mayBegin_5 ?_
  refine lv_istore (lv' := [(5, .int (np_i ((7 * x1) + x2))), (0, .ref (q 29)), (1, .int (np_i x1)), (2, .int (np_i x2)), (3, .int (np_i x3)), (4, .int (np_i x4))]) C.x C.b dd_M_mayBegin_6 hl (by decide) rfl (fun ls hl => ?_)
  refine lv_iload_n C.x C.b dd_M_mayBegin_8 rfl (lv_at hl 4 rfl) ?_
  refine lv_iload C.x C.b dd_M_mayBegin_9 (lv_at hl 5 rfl) ?_
  refine np_icmp_ne (tgt := 16) C dd_M_mayBegin_11 (by decide) hf (fun _ hf => ?_) (fun _ hf => ?_)
  · refine lv_iload_n C.x C.b dd_M_mayBegin_16 rfl (lv_at hl 3 rfl) ?_
    refine lv_aload_n C.x C.b dd_M_mayBegin_17 rfl (lv_at hl 1 rfl) ?_
    refine np_get (v := .ref (q 32)) C i_M hat.1 29 (nc_o29 _) rfl 5 (by decide) tw_928 rfl rfl dd_M_mayBegin_18 ?_
    refine lv_iload_n C.x C.b dd_M_mayBegin_21 rfl (lv_at hl 2 rfl) ?_
    refine np_iaload C hat.1 32 (nc_a32 _) 0 rfl (by decide) dd_M_mayBegin_22 hf (fun hf => ?_)
    refine np_icmp_ne (tgt := 28) C dd_M_mayBegin_23 (by decide) hf (fun _ hf => ?_) (fun _ hf => ?_)
    · refine lv_aload_n C.x C.b dd_M_mayBegin_28 rfl (lv_at hl 1 rfl) ?_
      refine np_get (v := .ref (q 30)) C i_M hat.1 29 (nc_o29 _) rfl 3 (by decide) tw_926 rfl rfl dd_M_mayBegin_29 ?_
      refine lv_iload C.x C.b dd_M_mayBegin_32 (lv_at hl 0 rfl) ?_
      refine np_iaload C hat.1 30 (nc_a30 _) 0 rfl (by decide) dd_M_mayBegin_34 hf (fun hf => ?_)
      refine lv_iconst (v := np_i (-1)) C.x C.b dd_M_mayBegin_35 rfl ?_
      refine np_icmp_ne (tgt := 81) C dd_M_mayBegin_36 (by decide) hf (fun _ hf => ?_) (fun _ hf => ?_)
      · refine lv_aload_n C.x C.b dd_M_mayBegin_81 rfl (lv_at hl 1 rfl) ?_
        refine np_get (v := .ref (q 39)) C i_M hat.1 29 (nc_o29 _) rfl 16 (by decide) tw_939 rfl rfl dd_M_mayBegin_82 ?_
        refine lv_bipush (v := np_i 31) C.x C.b dd_M_mayBegin_85 (by decide +kernel) ?_
        refine lv_aload_n C.x C.b dd_M_mayBegin_87 rfl (lv_at hl 1 rfl) ?_
        refine np_get (v := .ref (q 30)) C i_M hat.1 29 (nc_o29 _) rfl 3 (by decide) tw_926 rfl rfl dd_M_mayBegin_88 ?_
        refine lv_iload C.x C.b dd_M_mayBegin_91 (lv_at hl 0 rfl) ?_
        refine np_iaload C hat.1 30 (nc_a30 _) 0 rfl (by decide) dd_M_mayBegin_93 hf (fun hf => ?_)
        refine np_imul C dd_M_mayBegin_94 ?_
        refine lv_iload_n C.x C.b dd_M_mayBegin_95 rfl (lv_at hl 4 rfl) ?_
        refine np_iadd C dd_M_mayBegin_96 ?_
        refine np_zaload C hat.1 39 (nc_a39 _) 3 rfl (by decide) dd_M_mayBegin_97 hf (fun hf => ?_)
        refine lv_istore (lv' := [(6, .int (np_i (σ 39 ((31 * (σ 30 ((7 * x1) + x2))) + x3)))), (5, .int (np_i ((7 * x1) + x2))), (0, .ref (q 29)), (1, .int (np_i x1)), (2, .int (np_i x2)), (3, .int (np_i x3)), (4, .int (np_i x4))]) C.x C.b dd_M_mayBegin_98 hl (by decide) rfl (fun ls hl => ?_)
        refine lv_iload_n C.x C.b dd_M_mayBegin_100 rfl (lv_at hl 5 rfl) ?_
        refine lv_iconst (v := np_i 1) C.x C.b dd_M_mayBegin_101 rfl ?_
        refine np_iadd C dd_M_mayBegin_102 ?_
        refine lv_istore (lv' := [(7, .int (np_i (x3 + 1))), (6, .int (np_i (σ 39 ((31 * (σ 30 ((7 * x1) + x2))) + x3)))), (5, .int (np_i ((7 * x1) + x2))), (0, .ref (q 29)), (1, .int (np_i x1)), (2, .int (np_i x2)), (3, .int (np_i x3)), (4, .int (np_i x4))]) C.x C.b dd_M_mayBegin_103 hl (by decide) rfl (fun ls hl => ?_)
        exact w_f_M_mayBegin_105 C hQ  20000 _ _ _ _ _ _ _ _ _ hf hat (lv_sub hl [3, 6, 7, 2, 1, 0] rfl)
      · refine lv_aload_n C.x C.b dd_M_mayBegin_39 rfl (lv_at hl 1 rfl) ?_
        refine np_get (v := .ref (q 35)) C i_M hat.1 29 (nc_o29 _) rfl 12 (by decide) tw_935 rfl rfl dd_M_mayBegin_40 ?_
        refine lv_iload_n C.x C.b dd_M_mayBegin_43 rfl (lv_at hl 4 rfl) ?_
        refine np_laload C hat.1 35 (nc_a35 _) 1 rfl (by decide) dd_M_mayBegin_44 hf (fun hf => ?_)
        refine lv_aload_n C.x C.b dd_M_mayBegin_45 rfl (lv_at hl 1 rfl) ?_
        refine np_get (v := .ref (q 31)) C i_M hat.1 29 (nc_o29 _) rfl 4 (by decide) tw_927 rfl rfl dd_M_mayBegin_46 ?_
        refine lv_iload C.x C.b dd_M_mayBegin_49 (lv_at hl 0 rfl) ?_
        refine np_laload C hat.1 31 (nc_a31 _) 1 rfl (by decide) dd_M_mayBegin_51 hf (fun hf => ?_)
        refine np_lcmp C dd_M_mayBegin_52 hf (fun hf => ?_)
        refine np_if_ne (tgt := 79) C dd_M_mayBegin_53 (by decide) hf (fun _ hf => ?_) (fun _ hf => ?_)
        · exact w_f_M_mayBegin_79 C hQ   _ _ _ _ hf hat (lv_sub hl [] rfl)
        · refine lv_aload_n C.x C.b dd_M_mayBegin_56 rfl (lv_at hl 1 rfl) ?_
          refine np_get (v := .ref (q 40)) C i_M hat.1 29 (nc_o29 _) rfl 17 (by decide) tw_940 rfl rfl dd_M_mayBegin_57 ?_
          refine lv_bipush (v := np_i 31) C.x C.b dd_M_mayBegin_60 (by decide +kernel) ?_
          refine lv_iload C.x C.b dd_M_mayBegin_62 (lv_at hl 0 rfl) ?_
          refine lv_iconst (v := np_i 1) C.x C.b dd_M_mayBegin_64 rfl ?_
          refine np_iadd C dd_M_mayBegin_65 ?_
          refine np_imul C dd_M_mayBegin_66 ?_
          refine lv_iload_n C.x C.b dd_M_mayBegin_67 rfl (lv_at hl 4 rfl) ?_
          refine np_iadd C dd_M_mayBegin_68 ?_
          refine lv_iconst (v := np_i 1) C.x C.b dd_M_mayBegin_69 rfl ?_
          refine np_iadd C dd_M_mayBegin_70 ?_
          refine np_zaload C hat.1 40 (nc_a40 _) 3 rfl (by decide) dd_M_mayBegin_71 hf (fun hf => ?_)
          refine np_if_eq (tgt := 79) C dd_M_mayBegin_72 (by decide) hf (fun _ hf => ?_) (fun _ hf => ?_)
          · exact w_f_M_mayBegin_79 C hQ   _ _ _ _ hf hat (lv_sub hl [] rfl)
          · refine lv_iconst (v := np_i 1) C.x C.b dd_M_mayBegin_75 rfl ?_
            refine lv_goto (tgt := 80) C.x C.b dd_M_mayBegin_76 (by decide) ?_
            exact w_f_M_mayBegin_80 C hQ  _ _ _ _ _ hf hat (lv_sub hl [] rfl)
    · refine lv_iconst (v := np_i 0) C.x C.b dd_M_mayBegin_26 rfl ?_
      exact hQ _ _ _ _ _ dd_M_mayBegin_27 hf hat
  · refine lv_iconst (v := np_i 1) C.x C.b dd_M_mayBegin_14 rfl ?_
    exact hQ _ _ _ _ _ dd_M_mayBegin_15 hf hat
set_option maxHeartbeats 4000000 in
set_option maxRecDepth 100000 in
theorem c_M_mayBegin (l : Launch) {gA : Nat → Nat} {D : va_G} {q : Nat → Nat} {cA : Nat → ClassId} (x1 x2 x3 x4 : Int) (σ : np_S) : np_Mi gA l D np_cl (np_ty cA) (nc_wd q cA) yy_M_mayBegin (.code yy_M_mayBegin prog_9_method_24_code 8 (some .boolean) :: np_al) { frames := 1, cells := 0, slots := 0, locals := 22 } [.ref (q 29), .int (np_i x1), .int (np_i x2), .int (np_i x3), .int (np_i x4)] σ (f_M_mayBegin x1 x2 x3 x4 σ) :=
  np_mkz (by decide +kernel) (Nat.le_of_ble_eq_true rfl) (fun o p e R s m args below meth c Q A ls hf C hQ hat hl => w_f_M_mayBegin C hQ x1 x2 x3 x4 σ _ _ _ hf hat (lv_sub hl [0, 1, 2, 3, 4] rfl))
end NW7
