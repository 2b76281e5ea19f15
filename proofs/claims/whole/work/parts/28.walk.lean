section NW8
variable {p : Program} {l : Launch} {e : Env} {R : Room} {s : State} {m : MethodId} {args : Array Value} {below : List Frame} {meth : Method} {c : Code} {Q : State → Prop} {D : va_G} {A : Nat → Prop} {q : Nat → Nat} {cA : Nat → ClassId} {out : np_O} {gA : Nat → Nat}
set_option maxHeartbeats 4000000 in
set_option maxRecDepth 100000 in
theorem w_f_M_mayBeTerm_149 (C : np_Cx gA p R s m args c D np_cl (np_ty cA) A np_al "NotationParseModel" prog_9_method_25_code 6 { frames := 3, cells := 0, slots := 0, locals := 62 }) (hQ : ∀ (pc : Nat) (ls : Array Slot) (H : Heap) (locs : List Loc) (v : Int) {σ : np_S}, decode prog_9_method_25_code pc = .ok (.ireturn, 1) → np_ck (v = 0 ∨ v = 1) (some (v, σ)) = some out → np_At D np_cl A (nc_wd q cA) s σ H locs → W p l e R s m args below meth c H locs 0 0 Q (F0 m pc ls [.int (np_i v)])) {k107 : (Int → Int → Int → Int → Int → np_S → Option np_O)} (h107 : ∀ (x1 x2 x3 x4 x5 : Int) (σ : np_S) (H : Heap) (locs : List Loc) (ls : Array Slot), k107 x1 x2 x3 x4 x5 σ = some out → np_At D np_cl A (nc_wd q cA) s σ H locs → lv_has ls 6 [(0, .ref (q 29)), (1, .int (np_i x1)), (2, .int (np_i x2)), (3, .int (np_i x3)), (4, .int (np_i x4)), (5, .int (np_i x5))] → W p l e R s m args below meth c H locs 0 0 Q (F0 m 107 ls [])) : ∀ (x1 x2 x3 x5 t0 : Int) (σ : np_S) (H : Heap) (locs : List Loc) (ls : Array Slot), f_M_mayBeTerm_149 k107 x1 x2 x3 x5 t0 σ = some out → np_At D np_cl A (nc_wd q cA) s σ H locs → lv_has ls 6 [(0, .ref (q 29)), (1, .int (np_i x1)), (2, .int (np_i x2)), (3, .int (np_i x3)), (5, .int (np_i x5))] → W p l e R s m args below meth c H locs 0 0 Q (F0 m 149 ls [.int (np_i t0)]) := by
  intro x1 x2 x3 x5 t0 σ H locs ls hf hat hl
  unfold f_M_mayBeTerm_149 at hf
  refine lv_istore (lv' := [(4, .int (np_i t0)), (0, .ref (q 29)), (1, .int (np_i x1)), (2, .int (np_i x2)), (3, .int (np_i x3)), (5, .int (np_i x5))]) C.x C.b dd_M_mayBeTerm_149 hl (by decide) rfl (fun ls hl => ?_)
  refine lv_iinc (v := np_i (x5 + 1)) (lv' := [(5, .int (np_i (x5 + 1))), (4, .int (np_i t0)), (0, .ref (q 29)), (1, .int (np_i x1)), (2, .int (np_i x2)), (3, .int (np_i x3))]) C.x C.b dd_M_mayBeTerm_151 hl (k := 5) rfl (np_inc _ _) (by decide) rfl (fun ls hl => ?_)
  refine lv_goto (tgt := 107) C.x C.b dd_M_mayBeTerm_154 (by decide) ?_
  exact h107 _ _ _ _ _ _ _ _ _ hf hat (lv_sub hl [2, 3, 4, 5, 1, 0] rfl)
set_option maxHeartbeats 4000000 in
set_option maxRecDepth 100000 in
theorem w_f_M_mayBeTerm_144 (C : np_Cx gA p R s m args c D np_cl (np_ty cA) A np_al "NotationParseModel" prog_9_method_25_code 6 { frames := 3, cells := 0, slots := 0, locals := 62 }) (hQ : ∀ (pc : Nat) (ls : Array Slot) (H : Heap) (locs : List Loc) (v : Int) {σ : np_S}, decode prog_9_method_25_code pc = .ok (.ireturn, 1) → np_ck (v = 0 ∨ v = 1) (some (v, σ)) = some out → np_At D np_cl A (nc_wd q cA) s σ H locs → W p l e R s m args below meth c H locs 0 0 Q (F0 m pc ls [.int (np_i v)])) {k107 : (Int → Int → Int → Int → Int → np_S → Option np_O)} (h107 : ∀ (x1 x2 x3 x4 x5 : Int) (σ : np_S) (H : Heap) (locs : List Loc) (ls : Array Slot), k107 x1 x2 x3 x4 x5 σ = some out → np_At D np_cl A (nc_wd q cA) s σ H locs → lv_has ls 6 [(0, .ref (q 29)), (1, .int (np_i x1)), (2, .int (np_i x2)), (3, .int (np_i x3)), (4, .int (np_i x4)), (5, .int (np_i x5))] → W p l e R s m args below meth c H locs 0 0 Q (F0 m 107 ls [])) : ∀ (x1 x2 x3 x5 : Int) (σ : np_S) (H : Heap) (locs : List Loc) (ls : Array Slot), f_M_mayBeTerm_144 k107 x1 x2 x3 x5 σ = some out → np_At D np_cl A (nc_wd q cA) s σ H locs → lv_has ls 6 [(0, .ref (q 29)), (1, .int (np_i x1)), (2, .int (np_i x2)), (3, .int (np_i x3)), (5, .int (np_i x5))] → W p l e R s m args below meth c H locs 0 0 Q (F0 m 144 ls []) := by
  intro x1 x2 x3 x5 σ H locs ls hf hat hl
  unfold f_M_mayBeTerm_144 at hf
  refine lv_iconst (v := np_i 1) C.x C.b dd_M_mayBeTerm_144 rfl ?_
  refine lv_goto (tgt := 149) C.x C.b dd_M_mayBeTerm_145 (by decide) ?_
  exact w_f_M_mayBeTerm_149 C hQ h107 _ _ _ _ _ _ _ _ _ hf hat (lv_sub hl [0, 1, 2, 3, 4] rfl)
set_option maxHeartbeats 4000000 in
set_option maxRecDepth 100000 in
theorem w_f_M_mayBeTerm_148 (C : np_Cx gA p R s m args c D np_cl (np_ty cA) A np_al "NotationParseModel" prog_9_method_25_code 6 { frames := 3, cells := 0, slots := 0, locals := 62 }) (hQ : ∀ (pc : Nat) (ls : Array Slot) (H : Heap) (locs : List Loc) (v : Int) {σ : np_S}, decode prog_9_method_25_code pc = .ok (.ireturn, 1) → np_ck (v = 0 ∨ v = 1) (some (v, σ)) = some out → np_At D np_cl A (nc_wd q cA) s σ H locs → W p l e R s m args below meth c H locs 0 0 Q (F0 m pc ls [.int (np_i v)])) {k107 : (Int → Int → Int → Int → Int → np_S → Option np_O)} (h107 : ∀ (x1 x2 x3 x4 x5 : Int) (σ : np_S) (H : Heap) (locs : List Loc) (ls : Array Slot), k107 x1 x2 x3 x4 x5 σ = some out → np_At D np_cl A (nc_wd q cA) s σ H locs → lv_has ls 6 [(0, .ref (q 29)), (1, .int (np_i x1)), (2, .int (np_i x2)), (3, .int (np_i x3)), (4, .int (np_i x4)), (5, .int (np_i x5))] → W p l e R s m args below meth c H locs 0 0 Q (F0 m 107 ls [])) : ∀ (x1 x2 x3 x5 : Int) (σ : np_S) (H : Heap) (locs : List Loc) (ls : Array Slot), f_M_mayBeTerm_148 k107 x1 x2 x3 x5 σ = some out → np_At D np_cl A (nc_wd q cA) s σ H locs → lv_has ls 6 [(0, .ref (q 29)), (1, .int (np_i x1)), (2, .int (np_i x2)), (3, .int (np_i x3)), (5, .int (np_i x5))] → W p l e R s m args below meth c H locs 0 0 Q (F0 m 148 ls []) := by
  intro x1 x2 x3 x5 σ H locs ls hf hat hl
  unfold f_M_mayBeTerm_148 at hf
  refine lv_iconst (v := np_i 0) C.x C.b dd_M_mayBeTerm_148 rfl ?_
  exact w_f_M_mayBeTerm_149 C hQ h107 _ _ _ _ _ _ _ _ _ hf hat (lv_sub hl [0, 1, 2, 3, 4] rfl)
set_option maxHeartbeats 4000000 in
set_option maxRecDepth 100000 in
theorem w_f_M_mayBeTerm_107 (C : np_Cx gA p R s m args c D np_cl (np_ty cA) A np_al "NotationParseModel" prog_9_method_25_code 6 { frames := 3, cells := 0, slots := 0, locals := 62 }) (hQ : ∀ (pc : Nat) (ls : Array Slot) (H : Heap) (locs : List Loc) (v : Int) {σ : np_S}, decode prog_9_method_25_code pc = .ok (.ireturn, 1) → np_ck (v = 0 ∨ v = 1) (some (v, σ)) = some out → np_At D np_cl A (nc_wd q cA) s σ H locs → W p l e R s m args below meth c H locs 0 0 Q (F0 m pc ls [.int (np_i v)]))   : ∀ (n : Nat), ∀ (x1 x2 x3 x4 x5 : Int) (σ : np_S) (H : Heap) (locs : List Loc) (ls : Array Slot), f_M_mayBeTerm_107  n x1 x2 x3 x4 x5 σ = some out → np_At D np_cl A (nc_wd q cA) s σ H locs → lv_has ls 6 [(0, .ref (q 29)), (1, .int (np_i x1)), (2, .int (np_i x2)), (3, .int (np_i x3)), (4, .int (np_i x4)), (5, .int (np_i x5))] → W p l e R s m args below meth c H locs 0 0 Q (F0 m 107 ls []) := by
  intro n
  induction n with
  | zero => intro x1 x2 x3 x4 x5 σ H locs ls hf; cases hf
  | succ n ih =>
    intro x1 x2 x3 x4 x5 σ H locs ls hf hat hl
    have h107 := ih
    have hf : f_M_mayBeTerm_107_b  (fun x1 x2 x3 x4 x5 σ => f_M_mayBeTerm_107  n x1 x2 x3 x4 x5 σ) x1 x2 x3 x4 x5 σ = some out := hf
    unfold f_M_mayBeTerm_107_b at hf
    refine lv_iload C.x C.b dd_M_mayBeTerm_107 (lv_at hl 5 rfl) ?_
    refine lv_aload_n C.x C.b dd_M_mayBeTerm_109 rfl (lv_at hl 0 rfl) ?_
    refine np_get (v := .int (np_i (σ 29 2))) C i_M hat.1 29 (nc_o29 _) rfl 2 (by decide) tw_925 rfl rfl dd_M_mayBeTerm_110 ?_
    refine np_icmp_ge (tgt := 157) C dd_M_mayBeTerm_113 (by decide) hf (fun _ hf => ?_) (fun _ hf => ?_)
    · refine lv_iload C.x C.b dd_M_mayBeTerm_157 (lv_at hl 4 rfl) ?_
      exact hQ _ _ _ _ _ dd_M_mayBeTerm_159 hf hat
    · refine lv_iload C.x C.b dd_M_mayBeTerm_116 (lv_at hl 4 rfl) ?_
      refine np_if_ne (tgt := 144) C dd_M_mayBeTerm_118 (by decide) hf (fun _ hf => ?_) (fun _ hf => ?_)
      · exact w_f_M_mayBeTerm_144 C hQ h107 _ _ _ _ _ _ _ _ hf hat (lv_sub hl [0, 1, 2, 3, 5] rfl)
      · refine lv_aload_n C.x C.b dd_M_mayBeTerm_121 rfl (lv_at hl 0 rfl) ?_
        refine np_get (v := .ref (q 33)) C i_M hat.1 29 (nc_o29 _) rfl 6 (by decide) tw_929 rfl rfl dd_M_mayBeTerm_122 ?_
        refine lv_iload C.x C.b dd_M_mayBeTerm_125 (lv_at hl 5 rfl) ?_
        refine np_iaload C hat.1 33 (nc_a33 _) 0 rfl (by decide) dd_M_mayBeTerm_127 hf (fun hf => ?_)
        refine lv_iload_n C.x C.b dd_M_mayBeTerm_128 rfl (lv_at hl 1 rfl) ?_
        refine np_icmp_lt (tgt := 148) C dd_M_mayBeTerm_129 (by decide) hf (fun _ hf => ?_) (fun _ hf => ?_)
        · exact w_f_M_mayBeTerm_148 C hQ h107 _ _ _ _ _ _ _ _ hf hat (lv_sub hl [0, 1, 2, 3, 5] rfl)
        · refine lv_aload_n C.x C.b dd_M_mayBeTerm_132 rfl (lv_at hl 0 rfl) ?_
          refine lv_iload C.x C.b dd_M_mayBeTerm_133 (lv_at hl 5 rfl) ?_
          refine lv_iconst (v := np_i 0) C.x C.b dd_M_mayBeTerm_135 rfl ?_
          refine lv_iload_n C.x C.b dd_M_mayBeTerm_136 rfl (lv_at hl 2 rfl) ?_
          refine lv_iload_n C.x C.b dd_M_mayBeTerm_137 rfl (lv_at hl 3 rfl) ?_
          refine np_callVi (As := [.int (np_i x5), .int (np_i 0), .int (np_i x2), .int (np_i x3)]) (rest := []) C (c_M_mayBegin l x5 0 x2 x3 _) np_allgood tw_1115 tw_1117 tp_38 tw_8 tw_1118 (nA := 4) (by decide +kernel) rfl ⟨rfl, rfl, Nat.le_of_ble_eq_true rfl, Nat.le_of_ble_eq_true rfl⟩ (va_recv C.k hat.1 (ci := 6) (q0 := 29) rfl (nc_o29 _)) hat rfl hl.1 (Nat.le_of_ble_eq_true rfl) dd_M_mayBeTerm_138 hf (fun o1 H locs hf hat => ?_)
          refine np_if_eq (tgt := 148) C dd_M_mayBeTerm_141 (by decide) hf (fun _ hf => ?_) (fun _ hf => ?_)
          · exact w_f_M_mayBeTerm_148 C hQ h107 _ _ _ _ _ _ _ _ hf hat (lv_sub hl [0, 1, 2, 3, 5] rfl)
          · exact w_f_M_mayBeTerm_144 C hQ h107 _ _ _ _ _ _ _ _ hf hat (lv_sub hl [0, 1, 2, 3, 5] rfl)
set_option maxHeartbeats 4000000 in
set_option maxRecDepth 100000 in
theorem w_f_M_mayBeTerm_104 (C : np_Cx gA p R s m args c D np_cl (np_ty cA) A np_al "NotationParseModel" prog_9_method_25_code 6 { frames := 3, cells := 0, slots := 0, locals := 62 }) (hQ : ∀ (pc : Nat) (ls : Array Slot) (H : Heap) (locs : List Loc) (v : Int) {σ : np_S}, decode prog_9_method_25_code pc = .ok (.ireturn, 1) → np_ck (v = 0 ∨ v = 1) (some (v, σ)) = some out → np_At D np_cl A (nc_wd q cA) s σ H locs → W p l e R s m args below meth c H locs 0 0 Q (F0 m pc ls [.int (np_i v)]))   : ∀ (x1 x2 x3 x4 : Int) (σ : np_S) (H : Heap) (locs : List Loc) (ls : Array Slot), f_M_mayBeTerm_104  x1 x2 x3 x4 σ = some out → np_At D np_cl A (nc_wd q cA) s σ H locs → lv_has ls 6 [(0, .ref (q 29)), (1, .int (np_i x1)), (2, .int (np_i x2)), (3, .int (np_i x3)), (4, .int (np_i x4))] → W p l e R s m args below meth c H locs 0 0 Q (F0 m 104 ls []) := by
  intro x1 x2 x3 x4 σ H locs ls hf hat hl
  unfold f_M_mayBeTerm_104 at hf
  refine lv_iconst (v := np_i 0) C.x C.b dd_M_mayBeTerm_104 rfl ?_
  refine lv_istore (lv' := [(5, .int (np_i 0)), (0, .ref (q 29)), (1, .int (np_i x1)), (2, .int (np_i x2)), (3, .int (np_i x3)), (4, .int (np_i x4))]) C.x C.b dd_M_mayBeTerm_105 hl (by decide) rfl (fun ls hl => ?_)
  exact w_f_M_mayBeTerm_107 C hQ  20000 _ _ _ _ _ _ _ _ _ hf hat (lv_sub hl [1, 2, 3, 4, 5, 0] rfl)
set_option maxHeartbeats 4000000 in
set_option maxRecDepth 100000 in
theorem w_f_M_mayBeTerm_102 (C : np_Cx gA p R s m args c D np_cl (np_ty cA) A np_al "NotationParseModel" prog_9_method_25_code 6 { frames := 3, cells := 0, slots := 0, locals := 62 }) (hQ : ∀ (pc : Nat) (ls : Array Slot) (H : Heap) (locs : List Loc) (v : Int) {σ : np_S}, decode prog_9_method_25_code pc = .ok (.ireturn, 1) → np_ck (v = 0 ∨ v = 1) (some (v, σ)) = some out → np_At D np_cl A (nc_wd q cA) s σ H locs → W p l e R s m args below meth c H locs 0 0 Q (F0 m pc ls [.int (np_i v)]))   : ∀ (x1 x2 x3 t0 : Int) (σ : np_S) (H : Heap) (locs : List Loc) (ls : Array Slot), f_M_mayBeTerm_102  x1 x2 x3 t0 σ = some out → np_At D np_cl A (nc_wd q cA) s σ H locs → lv_has ls 6 [(0, .ref (q 29)), (1, .int (np_i x1)), (2, .int (np_i x2)), (3, .int (np_i x3))] → W p l e R s m args below meth c H locs 0 0 Q (F0 m 102 ls [.int (np_i t0)]) := by
  intro x1 x2 x3 t0 σ H locs ls hf hat hl
  unfold f_M_mayBeTerm_102 at hf
  refine lv_istore (lv' := [(4, .int (np_i t0)), (0, .ref (q 29)), (1, .int (np_i x1)), (2, .int (np_i x2)), (3, .int (np_i x3))]) C.x C.b dd_M_mayBeTerm_102 hl (by decide) rfl (fun ls hl => ?_)
  exact w_f_M_mayBeTerm_104 C hQ  _ _ _ _ _ _ _ _ hf hat (lv_sub hl [1, 2, 3, 4, 0] rfl)
set_option maxHeartbeats 4000000 in
set_option maxRecDepth 100000 in
theorem w_f_M_mayBeTerm_97 (C : np_Cx gA p R s m args c D np_cl (np_ty cA) A np_al "NotationParseModel" prog_9_method_25_code 6 { frames := 3, cells := 0, slots := 0, locals := 62 }) (hQ : ∀ (pc : Nat) (ls : Array Slot) (H : Heap) (locs : List Loc) (v : Int) {σ : np_S}, decode prog_9_method_25_code pc = .ok (.ireturn, 1) → np_ck (v = 0 ∨ v = 1) (some (v, σ)) = some out → np_At D np_cl A (nc_wd q cA) s σ H locs → W p l e R s m args below meth c H locs 0 0 Q (F0 m pc ls [.int (np_i v)]))   : ∀ (x1 x2 x3 : Int) (σ : np_S) (H : Heap) (locs : List Loc) (ls : Array Slot), f_M_mayBeTerm_97  x1 x2 x3 σ = some out → np_At D np_cl A (nc_wd q cA) s σ H locs → lv_has ls 6 [(0, .ref (q 29)), (1, .int (np_i x1)), (2, .int (np_i x2)), (3, .int (np_i x3))] → W p l e R s m args below meth c H locs 0 0 Q (F0 m 97 ls []) := by
  intro x1 x2 x3 σ H locs ls hf hat hl
  unfold f_M_mayBeTerm_97 at hf
  refine lv_iconst (v := np_i 1) C.x C.b dd_M_mayBeTerm_97 rfl ?_
  refine lv_goto (tgt := 102) C.x C.b dd_M_mayBeTerm_98 (by decide) ?_
  exact w_f_M_mayBeTerm_102 C hQ  _ _ _ _ _ _ _ _ hf hat (lv_sub hl [0, 1, 2, 3] rfl)
set_option maxHeartbeats 4000000 in
set_option maxRecDepth 100000 in
theorem w_f_M_mayBeTerm_101 (C : np_Cx gA p R s m args c D np_cl (np_ty cA) A np_al "NotationParseModel" prog_9_method_25_code 6 { frames := 3, cells := 0, slots := 0, locals := 62 }) (hQ : ∀ (pc : Nat) (ls : Array Slot) (H : Heap) (locs : List Loc) (v : Int) {σ : np_S}, decode prog_9_method_25_code pc = .ok (.ireturn, 1) → np_ck (v = 0 ∨ v = 1) (some (v, σ)) = some out → np_At D np_cl A (nc_wd q cA) s σ H locs → W p l e R s m args below meth c H locs 0 0 Q (F0 m pc ls [.int (np_i v)]))   : ∀ (x1 x2 x3 : Int) (σ : np_S) (H : Heap) (locs : List Loc) (ls : Array Slot), f_M_mayBeTerm_101  x1 x2 x3 σ = some out → np_At D np_cl A (nc_wd q cA) s σ H locs → lv_has ls 6 [(0, .ref (q 29)), (1, .int (np_i x1)), (2, .int (np_i x2)), (3, .int (np_i x3))] → W p l e R s m args below meth c H locs 0 0 Q (F0 m 101 ls []) := by
  intro x1 x2 x3 σ H locs ls hf hat hl
  unfold f_M_mayBeTerm_101 at hf
  refine lv_iconst (v := np_i 0) C.x C.b dd_M_mayBeTerm_101 rfl ?_
  exact w_f_M_mayBeTerm_102 C hQ  _ _ _ _ _ _ _ _ hf hat (lv_sub hl [0, 1, 2, 3] rfl)
set_option maxHeartbeats 4000000 in
set_option maxRecDepth 100000 in
theorem w_f_M_mayBeTerm_53 (C : np_Cx gA p R s m args c D np_cl (np_ty cA) A np_al "NotationParseModel" prog_9_method_25_code 6 { frames := 3, cells := 0, slots := 0, locals := 62 }) (hQ : ∀ (pc : Nat) (ls : Array Slot) (H : Heap) (locs : List Loc) (v : Int) {σ : np_S}, decode prog_9_method_25_code pc = .ok (.ireturn, 1) → np_ck (v = 0 ∨ v = 1) (some (v, σ)) = some out → np_At D np_cl A (nc_wd q cA) s σ H locs → W p l e R s m args below meth c H locs 0 0 Q (F0 m pc ls [.int (np_i v)]))   : ∀ (x1 x2 x3 t0 : Int) (σ : np_S) (H : Heap) (locs : List Loc) (ls : Array Slot), f_M_mayBeTerm_53  x1 x2 x3 t0 σ = some out → np_At D np_cl A (nc_wd q cA) s σ H locs → lv_has ls 6 [(0, .ref (q 29)), (1, .int (np_i x1)), (2, .int (np_i x2)), (3, .int (np_i x3))] → W p l e R s m args below meth c H locs 0 0 Q (F0 m 53 ls [.int (np_i t0)]) := by
  intro x1 x2 x3 t0 σ H locs ls hf hat hl
  unfold f_M_mayBeTerm_53 at hf
  refine lv_istore (lv' := [(4, .int (np_i t0)), (0, .ref (q 29)), (1, .int (np_i x1)), (2, .int (np_i x2)), (3, .int (np_i x3))]) C.x C.b dd_M_mayBeTerm_53 hl (by decide) rfl (fun ls hl => ?_)
  refine lv_iload C.x C.b dd_M_mayBeTerm_55 (lv_at hl 0 rfl) ?_
  refine np_if_ne (tgt := 97) C dd_M_mayBeTerm_57 (by decide) hf (fun _ hf => ?_) (fun _ hf => ?_)
  · exact w_f_M_mayBeTerm_97 C hQ  _ _ _ _ _ _ _ hf hat (lv_sub hl [1, 2, 3, 4] rfl)
  · refine lv_aload_n C.x C.b dd_M_mayBeTerm_60 rfl (lv_at hl 1 rfl) ?_
    refine lv_iload_n C.x C.b dd_M_mayBeTerm_61 rfl (lv_at hl 4 rfl) ?_
    refine lv_iconst (v := np_i 1) C.x C.b dd_M_mayBeTerm_62 rfl ?_
    refine np_isub C dd_M_mayBeTerm_63 ?_
    refine lv_bipush (v := np_i 41) C.x C.b dd_M_mayBeTerm_64 (by decide +kernel) ?_
    refine np_callVi (As := [.int (np_i (x3 - 1)), .int (np_i 41)]) (rest := []) C (c_M_is l (x3 - 1) 41 _) np_allgood tw_1103 tw_1105 tp_35 tw_8 tw_1106 (nA := 2) (by decide +kernel) rfl ⟨rfl, rfl, Nat.le_of_ble_eq_true rfl, Nat.le_of_ble_eq_true rfl⟩ (va_recv C.k hat.1 (ci := 6) (q0 := 29) rfl (nc_o29 _)) hat rfl hl.1 (Nat.le_of_ble_eq_true rfl) dd_M_mayBeTerm_66 hf (fun o2 H locs hf hat => ?_)
    refine np_if_eq (tgt := 101) C dd_M_mayBeTerm_69 (by decide) hf (fun _ hf => ?_) (fun _ hf => ?_)
    · exact w_f_M_mayBeTerm_101 C hQ  _ _ _ _ _ _ _ hf hat (lv_sub hl [1, 2, 3, 4] rfl)
    · refine lv_iload_n C.x C.b dd_M_mayBeTerm_72 rfl (lv_at hl 4 rfl) ?_
      refine lv_iload_n C.x C.b dd_M_mayBeTerm_73 rfl (lv_at hl 3 rfl) ?_
      refine lv_iconst (v := np_i 2) C.x C.b dd_M_mayBeTerm_74 rfl ?_
      refine np_iadd C dd_M_mayBeTerm_75 ?_
      refine np_icmp_le (tgt := 101) C dd_M_mayBeTerm_76 (by decide) hf (fun _ hf => ?_) (fun _ hf => ?_)
      · exact w_f_M_mayBeTerm_101 C hQ  _ _ _ _ _ _ _ hf hat (lv_sub hl [1, 2, 3, 4] rfl)
      · refine lv_aload_n C.x C.b dd_M_mayBeTerm_79 rfl (lv_at hl 1 rfl) ?_
        refine np_get (v := .ref (q 37)) C i_M hat.1 29 (nc_o29 _) rfl 14 (by decide) tw_937 rfl rfl dd_M_mayBeTerm_80 ?_
        refine lv_iconst (v := np_i 0) C.x C.b dd_M_mayBeTerm_83 rfl ?_
        refine lv_iload_n C.x C.b dd_M_mayBeTerm_84 rfl (lv_at hl 3 rfl) ?_
        refine lv_iconst (v := np_i 1) C.x C.b dd_M_mayBeTerm_85 rfl ?_
        refine np_iadd C dd_M_mayBeTerm_86 ?_
        refine lv_iload_n C.x C.b dd_M_mayBeTerm_87 rfl (lv_at hl 4 rfl) ?_
        refine lv_iconst (v := np_i 1) C.x C.b dd_M_mayBeTerm_88 rfl ?_
        refine np_isub C dd_M_mayBeTerm_89 ?_
        refine np_callSi (As := [.int (np_i 0), .int (np_i (x2 + 1)), .int (np_i (x3 - 1))]) (rest := [.ref (q 37)]) C (c_M_cell l 0 (x2 + 1) (x3 - 1) _) np_allgood tw_1079 tw_1080 tw_8 tw_1081 (nA := 3) (by decide +kernel) rfl ⟨rfl, rfl, Nat.le_of_ble_eq_true rfl, Nat.le_of_ble_eq_true rfl⟩ hat rfl hl.1 (Nat.le_of_ble_eq_true rfl) dd_M_mayBeTerm_90 hf (fun o3 H locs hf hat => ?_)
        refine np_iaload C hat.1 37 (nc_a37 _) 0 rfl (by decide) dd_M_mayBeTerm_93 hf (fun hf => ?_)
        refine np_if_le (tgt := 101) C dd_M_mayBeTerm_94 (by decide) hf (fun _ hf => ?_) (fun _ hf => ?_)
        · exact w_f_M_mayBeTerm_101 C hQ  _ _ _ _ _ _ _ hf hat (lv_sub hl [1, 2, 3, 4] rfl)
        · exact w_f_M_mayBeTerm_97 C hQ  _ _ _ _ _ _ _ hf hat (lv_sub hl [1, 2, 3, 4] rfl)
set_option maxHeartbeats 4000000 in
set_option maxRecDepth 100000 in
theorem w_f_M_mayBeTerm_48 (C : np_Cx gA p R s m args c D np_cl (np_ty cA) A np_al "NotationParseModel" prog_9_method_25_code 6 { frames := 3, cells := 0, slots := 0, locals := 62 }) (hQ : ∀ (pc : Nat) (ls : Array Slot) (H : Heap) (locs : List Loc) (v : Int) {σ : np_S}, decode prog_9_method_25_code pc = .ok (.ireturn, 1) → np_ck (v = 0 ∨ v = 1) (some (v, σ)) = some out → np_At D np_cl A (nc_wd q cA) s σ H locs → W p l e R s m args below meth c H locs 0 0 Q (F0 m pc ls [.int (np_i v)]))   : ∀ (x1 x2 x3 : Int) (σ : np_S) (H : Heap) (locs : List Loc) (ls : Array Slot), f_M_mayBeTerm_48  x1 x2 x3 σ = some out → np_At D np_cl A (nc_wd q cA) s σ H locs → lv_has ls 6 [(0, .ref (q 29)), (1, .int (np_i x1)), (2, .int (np_i x2)), (3, .int (np_i x3))] → W p l e R s m args below meth c H locs 0 0 Q (F0 m 48 ls []) := by
  intro x1 x2 x3 σ H locs ls hf hat hl
  unfold f_M_mayBeTerm_48 at hf
  refine lv_iconst (v := np_i 1) C.x C.b dd_M_mayBeTerm_48 rfl ?_
  refine lv_goto (tgt := 53) C.x C.b dd_M_mayBeTerm_49 (by decide) ?_
  exact w_f_M_mayBeTerm_53 C hQ  _ _ _ _ _ _ _ _ hf hat (lv_sub hl [0, 1, 2, 3] rfl)
set_option maxHeartbeats 4000000 in
set_option maxRecDepth 100000 in
theorem w_f_M_mayBeTerm_20 (C : np_Cx gA p R s m args c D np_cl (np_ty cA) A np_al "NotationParseModel" prog_9_method_25_code 6 { frames := 3, cells := 0, slots := 0, locals := 62 }) (hQ : ∀ (pc : Nat) (ls : Array Slot) (H : Heap) (locs : List Loc) (v : Int) {σ : np_S}, decode prog_9_method_25_code pc = .ok (.ireturn, 1) → np_ck (v = 0 ∨ v = 1) (some (v, σ)) = some out → np_At D np_cl A (nc_wd q cA) s σ H locs → W p l e R s m args below meth c H locs 0 0 Q (F0 m pc ls [.int (np_i v)]))   : ∀ (x1 x2 x3 t0 : Int) (σ : np_S) (H : Heap) (locs : List Loc) (ls : Array Slot), f_M_mayBeTerm_20  x1 x2 x3 t0 σ = some out → np_At D np_cl A (nc_wd q cA) s σ H locs → lv_has ls 6 [(0, .ref (q 29)), (1, .int (np_i x1)), (2, .int (np_i x2)), (3, .int (np_i x3))] → W p l e R s m args below meth c H locs 0 0 Q (F0 m 20 ls [.int (np_i t0)]) := by
  intro x1 x2 x3 t0 σ H locs ls hf hat hl
  unfold f_M_mayBeTerm_20 at hf
  refine lv_istore (lv' := [(4, .int (np_i t0)), (0, .ref (q 29)), (1, .int (np_i x1)), (2, .int (np_i x2)), (3, .int (np_i x3))]) C.x C.b dd_M_mayBeTerm_20 hl (by decide) rfl (fun ls hl => ?_)
  refine lv_aload_n C.x C.b dd_M_mayBeTerm_22 rfl (lv_at hl 1 rfl) ?_
  refine lv_iload_n C.x C.b dd_M_mayBeTerm_23 rfl (lv_at hl 3 rfl) ?_
  refine lv_bipush (v := np_i 40) C.x C.b dd_M_mayBeTerm_24 (by decide +kernel) ?_
  refine np_callVi (As := [.int (np_i x2), .int (np_i 40)]) (rest := []) C (c_M_is l x2 40 _) np_allgood tw_1103 tw_1105 tp_35 tw_8 tw_1106 (nA := 2) (by decide +kernel) rfl ⟨rfl, rfl, Nat.le_of_ble_eq_true rfl, Nat.le_of_ble_eq_true rfl⟩ (va_recv C.k hat.1 (ci := 6) (q0 := 29) rfl (nc_o29 _)) hat rfl hl.1 (Nat.le_of_ble_eq_true rfl) dd_M_mayBeTerm_26 hf (fun o4 H locs hf hat => ?_)
  refine np_if_eq (tgt := 104) C dd_M_mayBeTerm_29 (by decide) hf (fun _ hf => ?_) (fun _ hf => ?_)
  · exact w_f_M_mayBeTerm_104 C hQ  _ _ _ _ _ _ _ _ hf hat (lv_sub hl [1, 2, 3, 4, 0] rfl)
  · refine lv_iload C.x C.b dd_M_mayBeTerm_32 (lv_at hl 0 rfl) ?_
    refine np_if_ne (tgt := 48) C dd_M_mayBeTerm_34 (by decide) hf (fun _ hf => ?_) (fun _ hf => ?_)
    · exact w_f_M_mayBeTerm_48 C hQ  _ _ _ _ _ _ _ hf hat (lv_sub hl [1, 2, 3, 4] rfl)
    · refine lv_aload_n C.x C.b dd_M_mayBeTerm_37 rfl (lv_at hl 1 rfl) ?_
      refine np_get (v := .ref (q 39)) C i_M hat.1 29 (nc_o29 _) rfl 16 (by decide) tw_939 rfl rfl dd_M_mayBeTerm_38 ?_
      refine lv_iload_n C.x C.b dd_M_mayBeTerm_41 rfl (lv_at hl 3 rfl) ?_
      refine lv_iconst (v := np_i 1) C.x C.b dd_M_mayBeTerm_42 rfl ?_
      refine np_iadd C dd_M_mayBeTerm_43 ?_
      refine np_zaload C hat.1 39 (nc_a39 _) 3 rfl (by decide) dd_M_mayBeTerm_44 hf (fun hf => ?_)
      refine np_if_eq (tgt := 52) C dd_M_mayBeTerm_45 (by decide) hf (fun _ hf => ?_) (fun _ hf => ?_)
      · refine lv_iconst (v := np_i 0) C.x C.b dd_M_mayBeTerm_52 rfl ?_
        exact w_f_M_mayBeTerm_53 C hQ  _ _ _ _ _ _ _ _ hf hat (lv_sub hl [1, 2, 3, 4] rfl)
      · exact w_f_M_mayBeTerm_48 C hQ  _ _ _ _ _ _ _ hf hat (lv_sub hl [1, 2, 3, 4] rfl)
set_option maxHeartbeats 4000000 in
set_option maxRecDepth 100000 in
theorem w_f_M_mayBeTerm_19 (C : np_Cx gA p R s m args c D np_cl (np_ty cA) A np_al "NotationParseModel" prog_9_method_25_code 6 { frames := 3, cells := 0, slots := 0, locals := 62 }) (hQ : ∀ (pc : Nat) (ls : Array Slot) (H : Heap) (locs : List Loc) (v : Int) {σ : np_S}, decode prog_9_method_25_code pc = .ok (.ireturn, 1) → np_ck (v = 0 ∨ v = 1) (some (v, σ)) = some out → np_At D np_cl A (nc_wd q cA) s σ H locs → W p l e R s m args below meth c H locs 0 0 Q (F0 m pc ls [.int (np_i v)]))   : ∀ (x1 x2 x3 : Int) (σ : np_S) (H : Heap) (locs : List Loc) (ls : Array Slot), f_M_mayBeTerm_19  x1 x2 x3 σ = some out → np_At D np_cl A (nc_wd q cA) s σ H locs → lv_has ls 6 [(0, .ref (q 29)), (1, .int (np_i x1)), (2, .int (np_i x2)), (3, .int (np_i x3))] → W p l e R s m args below meth c H locs 0 0 Q (F0 m 19 ls []) := by
  intro x1 x2 x3 σ H locs ls hf hat hl
  unfold f_M_mayBeTerm_19 at hf
  refine lv_iconst (v := np_i 0) C.x C.b dd_M_mayBeTerm_19 rfl ?_
  exact w_f_M_mayBeTerm_20 C hQ  _ _ _ _ _ _ _ _ hf hat (lv_sub hl [0, 1, 2, 3] rfl)
set_option maxHeartbeats 4000000 in
set_option maxRecDepth 100000 in
theorem w_f_M_mayBeTerm (C : np_Cx gA p R s m args c D np_cl (np_ty cA) A np_al "NotationParseModel" prog_9_method_25_code 6 { frames := 3, cells := 0, slots := 0, locals := 62 }) (hQ : ∀ (pc : Nat) (ls : Array Slot) (H : Heap) (locs : List Loc) (v : Int) {σ : np_S}, decode prog_9_method_25_code pc = .ok (.ireturn, 1) → np_ck (v = 0 ∨ v = 1) (some (v, σ)) = some out → np_At D np_cl A (nc_wd q cA) s σ H locs → W p l e R s m args below meth c H locs 0 0 Q (F0 m pc ls [.int (np_i v)]))   : ∀ (x1 x2 x3 : Int) (σ : np_S) (H : Heap) (locs : List Loc) (ls : Array Slot), f_M_mayBeTerm  x1 x2 x3 σ = some out → np_At D np_cl A (nc_wd q cA) s σ H locs → lv_has ls 6 [(0, .ref (q 29)), (1, .int (np_i x1)), (2, .int (np_i x2)), (3, .int (np_i x3))] → W p l e R s m args below meth c H locs 0 0 Q (F0 m 0 ls []) := by
  intro x1 x2 x3 σ H locs ls hf hat hl
  unfold f_M_mayBeTerm at hf
  refine lv_iload_n C.x C.b dd_M_mayBeTerm_0 rfl (lv_at hl 3 rfl) ?_
  refine lv_iload_n C.x C.b dd_M_mayBeTerm_1 rfl (lv_at hl 2 rfl) ?_
  refine lv_iconst (v := np_i 1) C.x C.b dd_M_mayBeTerm_2 rfl ?_
  refine np_iadd C dd_M_mayBeTerm_3 ?_
  refine np_icmp_ne (tgt := 19) C dd_M_mayBeTerm_4 (by decide) hf (fun _ hf => ?_) (fun _ hf => ?_)
  · exact w_f_M_mayBeTerm_19 C hQ  _ _ _ _ _ _ _ hf hat (lv_sub hl [0, 1, 2, 3] rfl)
  · refine lv_aload_n C.x C.b dd_M_mayBeTerm_7 rfl (lv_at hl 0 rfl) ?_
    refine lv_iload_n C.x C.b dd_M_mayBeTerm_8 rfl (lv_at hl 2 rfl) ?_
    refine np_callVi (As := [.int (np_i x2)]) (rest := []) C (c_M_isAtom l x2 _) np_allgood tw_1095 tw_1097 tp_33 tw_8 tw_1098 (nA := 1) (by decide +kernel) rfl ⟨rfl, rfl, Nat.le_of_ble_eq_true rfl, Nat.le_of_ble_eq_true rfl⟩ (va_recv C.k hat.1 (ci := 6) (q0 := 29) rfl (nc_o29 _)) hat rfl hl.1 (Nat.le_of_ble_eq_true rfl) dd_M_mayBeTerm_9 hf (fun o5 H locs hf hat => ?_)
    refine np_if_eq (tgt := 19) C dd_M_mayBeTerm_12 (by decide) hf (fun _ hf => ?_) (fun _ hf => ?_)
    · exact w_f_M_mayBeTerm_19 C hQ  _ _ _ _ _ _ _ hf hat (lv_sub hl [0, 1, 2, 3] rfl)
    · refine lv_iconst (v := np_i 1) C.x C.b dd_M_mayBeTerm_15 rfl ?_
      refine lv_goto (tgt := 20) C.x C.b dd_M_mayBeTerm_16 (by decide) ?_
      exact w_f_M_mayBeTerm_20 C hQ  _ _ _ _ _ _ _ _ hf hat (lv_sub hl [0, 1, 2, 3] rfl)
set_option maxHeartbeats 4000000 in
set_option maxRecDepth 100000 in
theorem c_M_mayBeTerm (l : Launch) {gA : Nat → Nat} {D : va_G} {q : Nat → Nat} {cA : Nat → ClassId} (x1 x2 x3 : Int) (σ : np_S) : np_Mi gA l D np_cl (np_ty cA) (nc_wd q cA) yy_M_mayBeTerm (.code yy_M_mayBeTerm prog_9_method_25_code 6 (some .boolean) :: np_al) { frames := 3, cells := 0, slots := 0, locals := 62 } [.ref (q 29), .int (np_i x1), .int (np_i x2), .int (np_i x3)] σ (f_M_mayBeTerm x1 x2 x3 σ) :=
  np_mkz (by decide +kernel) (Nat.le_of_ble_eq_true rfl) (fun o p e R s m args below meth c Q A ls hf C hQ hat hl => w_f_M_mayBeTerm C hQ x1 x2 x3 σ _ _ _ hf hat (lv_sub hl [0, 1, 2, 3] rfl))
set_option maxHeartbeats 4000000 in
set_option maxRecDepth 100000 in
theorem w_f_M_canBegin_192 (C : np_Cx gA p R s m args c D np_cl (np_ty cA) A np_al "NotationParseModel" prog_9_method_26_code 5 { frames := 4, cells := 0, slots := 0, locals := 87 }) (hQ : ∀ (pc : Nat) (ls : Array Slot) (H : Heap) (locs : List Loc) (v : Int) {σ : np_S}, decode prog_9_method_26_code pc = .ok (.ireturn, 1) → np_ck (v = 0 ∨ v = 1) (some (v, σ)) = some out → np_At D np_cl A (nc_wd q cA) s σ H locs → W p l e R s m args below meth c H locs 0 0 Q (F0 m pc ls [.int (np_i v)])) {k125 : (Int → Int → np_S → Option np_O)} {k181 : (Int → Int → Int → np_S → Option np_O)} (h125 : ∀ (x1 x2 : Int) (σ : np_S) (H : Heap) (locs : List Loc) (ls : Array Slot), k125 x1 x2 σ = some out → np_At D np_cl A (nc_wd q cA) s σ H locs → lv_has ls 5 [(0, .ref (q 29)), (1, .int (np_i x1)), (2, .int (np_i x2))] → W p l e R s m args below meth c H locs 0 0 Q (F0 m 125 ls [])) (h181 : ∀ (x1 x2 x3 : Int) (σ : np_S) (H : Heap) (locs : List Loc) (ls : Array Slot), k181 x1 x2 x3 σ = some out → np_At D np_cl A (nc_wd q cA) s σ H locs → lv_has ls 5 [(0, .ref (q 29)), (1, .int (np_i x1)), (2, .int (np_i x2)), (3, .int (np_i x3))] → W p l e R s m args below meth c H locs 0 0 Q (F0 m 181 ls [])) : ∀ (n : Nat), ∀ (x1 x2 x3 x4 : Int) (σ : np_S) (H : Heap) (locs : List Loc) (ls : Array Slot), f_M_canBegin_192 k125 k181 n x1 x2 x3 x4 σ = some out → np_At D np_cl A (nc_wd q cA) s σ H locs → lv_has ls 5 [(0, .ref (q 29)), (1, .int (np_i x1)), (2, .int (np_i x2)), (3, .int (np_i x3)), (4, .int (np_i x4))] → W p l e R s m args below meth c H locs 0 0 Q (F0 m 192 ls []) := by
  intro n
  induction n with
  | zero => intro x1 x2 x3 x4 σ H locs ls hf; cases hf
  | succ n ih =>
    intro x1 x2 x3 x4 σ H locs ls hf hat hl
    have h192 := ih
    have hf : f_M_canBegin_192_b k125 k181 (fun x1 x2 x3 x4 σ => f_M_canBegin_192 k125 k181 n x1 x2 x3 x4 σ) x1 x2 x3 x4 σ = some out := hf
    unfold f_M_canBegin_192_b at hf
    refine lv_iload C.x C.b dd_M_canBegin_192 (lv_at hl 4 rfl) ?_
    refine lv_aload_n C.x C.b dd_M_canBegin_194 rfl (lv_at hl 0 rfl) ?_
    refine np_get (v := .ref (q 32)) C i_M hat.1 29 (nc_o29 _) rfl 5 (by decide) tw_928 rfl rfl dd_M_canBegin_195 ?_
    refine lv_iload_n C.x C.b dd_M_canBegin_198 rfl (lv_at hl 3 rfl) ?_
    refine np_iaload C hat.1 32 (nc_a32 _) 0 rfl (by decide) dd_M_canBegin_199 hf (fun hf => ?_)
    refine np_icmp_gt (tgt := 235) C dd_M_canBegin_200 (by decide) hf (fun _ hf => ?_) (fun _ hf => ?_)
    · refine lv_iinc (v := np_i (x3 + 1)) (lv' := [(3, .int (np_i (x3 + 1))), (0, .ref (q 29)), (1, .int (np_i x1)), (2, .int (np_i x2)), (4, .int (np_i x4))]) C.x C.b dd_M_canBegin_235 hl (k := 3) rfl (np_inc _ _) (by decide) rfl (fun ls hl => ?_)
      refine lv_goto (tgt := 181) C.x C.b dd_M_canBegin_238 (by decide) ?_
      exact h181 _ _ _ _ _ _ _ hf hat (lv_sub hl [1, 2, 3, 0] rfl)
    · refine lv_aload_n C.x C.b dd_M_canBegin_203 rfl (lv_at hl 0 rfl) ?_
      refine np_get (v := .ref (q 40)) C i_M hat.1 29 (nc_o29 _) rfl 17 (by decide) tw_940 rfl rfl dd_M_canBegin_204 ?_
      refine lv_bipush (v := np_i 31) C.x C.b dd_M_canBegin_207 (by decide +kernel) ?_
      refine lv_bipush (v := np_i 7) C.x C.b dd_M_canBegin_209 (by decide +kernel) ?_
      refine lv_iload_n C.x C.b dd_M_canBegin_211 rfl (lv_at hl 3 rfl) ?_
      refine np_imul C dd_M_canBegin_212 ?_
      refine lv_iload C.x C.b dd_M_canBegin_213 (lv_at hl 4 rfl) ?_
      refine np_iadd C dd_M_canBegin_215 ?_
      refine np_imul C dd_M_canBegin_216 ?_
      refine lv_iload_n C.x C.b dd_M_canBegin_217 rfl (lv_at hl 2 rfl) ?_
      refine np_iadd C dd_M_canBegin_218 ?_
      refine lv_aload_n C.x C.b dd_M_canBegin_219 rfl (lv_at hl 0 rfl) ?_
      refine lv_iload_n C.x C.b dd_M_canBegin_220 rfl (lv_at hl 3 rfl) ?_
      refine lv_iload C.x C.b dd_M_canBegin_221 (lv_at hl 4 rfl) ?_
      refine lv_iload_n C.x C.b dd_M_canBegin_223 rfl (lv_at hl 2 rfl) ?_
      refine lv_iload_n C.x C.b dd_M_canBegin_224 rfl (lv_at hl 1 rfl) ?_
      refine np_callVi (As := [.int (np_i x3), .int (np_i x4), .int (np_i x2), .int (np_i x1)]) (rest := [.int (np_i ((31 * ((7 * x3) + x4)) + x2)), .ref (q 40)]) C (c_M_mayBegin l x3 x4 x2 x1 _) np_allgood tw_1115 tw_1117 tp_38 tw_8 tw_1118 (nA := 4) (by decide +kernel) rfl ⟨rfl, rfl, Nat.le_of_ble_eq_true rfl, Nat.le_of_ble_eq_true rfl⟩ (va_recv C.k hat.1 (ci := 6) (q0 := 29) rfl (nc_o29 _)) hat rfl hl.1 (Nat.le_of_ble_eq_true rfl) dd_M_canBegin_225 hf (fun o1 H locs hf hat => ?_)
      refine np_zastore C hat 40 (nc_a40 _) 3 rfl (by decide) (nc_s40 _ _ _) dd_M_canBegin_228 hf (fun H locs hat hf => ?_)
      refine lv_iinc (v := np_i (x4 + 1)) (lv' := [(4, .int (np_i (x4 + 1))), (0, .ref (q 29)), (1, .int (np_i x1)), (2, .int (np_i x2)), (3, .int (np_i x3))]) C.x C.b dd_M_canBegin_229 hl (k := 4) rfl (np_inc _ _) (by decide) rfl (fun ls hl => ?_)
      refine lv_goto (tgt := 192) C.x C.b dd_M_canBegin_232 (by decide) ?_
      exact h192 _ _ _ _ _ _ _ _ hf hat (lv_sub hl [1, 2, 3, 4, 0] rfl)
set_option maxHeartbeats 4000000 in
set_option maxRecDepth 100000 in
theorem w_f_M_canBegin_181 (C : np_Cx gA p R s m args c D np_cl (np_ty cA) A np_al "NotationParseModel" prog_9_method_26_code 5 { frames := 4, cells := 0, slots := 0, locals := 87 }) (hQ : ∀ (pc : Nat) (ls : Array Slot) (H : Heap) (locs : List Loc) (v : Int) {σ : np_S}, decode prog_9_method_26_code pc = .ok (.ireturn, 1) → np_ck (v = 0 ∨ v = 1) (some (v, σ)) = some out → np_At D np_cl A (nc_wd q cA) s σ H locs → W p l e R s m args below meth c H locs 0 0 Q (F0 m pc ls [.int (np_i v)])) {k125 : (Int → Int → np_S → Option np_O)} (h125 : ∀ (x1 x2 : Int) (σ : np_S) (H : Heap) (locs : List Loc) (ls : Array Slot), k125 x1 x2 σ = some out → np_At D np_cl A (nc_wd q cA) s σ H locs → lv_has ls 5 [(0, .ref (q 29)), (1, .int (np_i x1)), (2, .int (np_i x2))] → W p l e R s m args below meth c H locs 0 0 Q (F0 m 125 ls [])) : ∀ (n : Nat), ∀ (x1 x2 x3 : Int) (σ : np_S) (H : Heap) (locs : List Loc) (ls : Array Slot), f_M_canBegin_181 k125 n x1 x2 x3 σ = some out → np_At D np_cl A (nc_wd q cA) s σ H locs → lv_has ls 5 [(0, .ref (q 29)), (1, .int (np_i x1)), (2, .int (np_i x2)), (3, .int (np_i x3))] → W p l e R s m args below meth c H locs 0 0 Q (F0 m 181 ls []) := by
  intro n
  induction n with
  | zero => intro x1 x2 x3 σ H locs ls hf; cases hf
  | succ n ih =>
    intro x1 x2 x3 σ H locs ls hf hat hl
    have h181 := ih
    have hf : f_M_canBegin_181_b k125 (fun x1 x2 x3 σ => f_M_canBegin_181 k125 n x1 x2 x3 σ) x1 x2 x3 σ = some out := hf
    unfold f_M_canBegin_181_b at hf
    refine lv_iload_n C.x C.b dd_M_canBegin_181 rfl (lv_at hl 3 rfl) ?_
    refine lv_aload_n C.x C.b dd_M_canBegin_182 rfl (lv_at hl 0 rfl) ?_
    refine np_get (v := .int (np_i (σ 29 2))) C i_M hat.1 29 (nc_o29 _) rfl 2 (by decide) tw_925 rfl rfl dd_M_canBegin_183 ?_
    refine np_icmp_ge (tgt := 241) C dd_M_canBegin_186 (by decide) hf (fun _ hf => ?_) (fun _ hf => ?_)
    · refine lv_iinc (v := np_i (x2 + (-1))) (lv' := [(2, .int (np_i (x2 + (-1)))), (0, .ref (q 29)), (1, .int (np_i x1)), (3, .int (np_i x3))]) C.x C.b dd_M_canBegin_241 hl (k := 2) rfl (np_inc _ _) (by decide) rfl (fun ls hl => ?_)
      refine lv_goto (tgt := 125) C.x C.b dd_M_canBegin_244 (by decide) ?_
      exact h125 _ _ _ _ _ _ hf hat (lv_sub hl [1, 2, 0] rfl)
    · refine lv_iconst (v := np_i 0) C.x C.b dd_M_canBegin_189 rfl ?_
      refine lv_istore (lv' := [(4, .int (np_i 0)), (0, .ref (q 29)), (1, .int (np_i x1)), (2, .int (np_i x2)), (3, .int (np_i x3))]) C.x C.b dd_M_canBegin_190 hl (by decide) rfl (fun ls hl => ?_)
      exact w_f_M_canBegin_192 C hQ h125 h181 20000 _ _ _ _ _ _ _ _ hf hat (lv_sub hl [1, 2, 3, 4, 0] rfl)
set_option maxHeartbeats 4000000 in
set_option maxRecDepth 100000 in
theorem w_f_M_canBegin_140 (C : np_Cx gA p R s m args c D np_cl (np_ty cA) A np_al "NotationParseModel" prog_9_method_26_code 5 { frames := 4, cells := 0, slots := 0, locals := 87 }) (hQ : ∀ (pc : Nat) (ls : Array Slot) (H : Heap) (locs : List Loc) (v : Int) {σ : np_S}, decode prog_9_method_26_code pc = .ok (.ireturn, 1) → np_ck (v = 0 ∨ v = 1) (some (v, σ)) = some out → np_At D np_cl A (nc_wd q cA) s σ H locs → W p l e R s m args below meth c H locs 0 0 Q (F0 m pc ls [.int (np_i v)])) {k125 : (Int → Int → np_S → Option np_O)} {k131 : (Int → Int → Int → np_S → Option np_O)} (h125 : ∀ (x1 x2 : Int) (σ : np_S) (H : Heap) (locs : List Loc) (ls : Array Slot), k125 x1 x2 σ = some out → np_At D np_cl A (nc_wd q cA) s σ H locs → lv_has ls 5 [(0, .ref (q 29)), (1, .int (np_i x1)), (2, .int (np_i x2))] → W p l e R s m args below meth c H locs 0 0 Q (F0 m 125 ls [])) (h131 : ∀ (x1 x2 x3 : Int) (σ : np_S) (H : Heap) (locs : List Loc) (ls : Array Slot), k131 x1 x2 x3 σ = some out → np_At D np_cl A (nc_wd q cA) s σ H locs → lv_has ls 5 [(0, .ref (q 29)), (1, .int (np_i x1)), (2, .int (np_i x2)), (3, .int (np_i x3))] → W p l e R s m args below meth c H locs 0 0 Q (F0 m 131 ls [])) : ∀ (n : Nat), ∀ (x1 x2 x3 x4 : Int) (σ : np_S) (H : Heap) (locs : List Loc) (ls : Array Slot), f_M_canBegin_140 k125 k131 n x1 x2 x3 x4 σ = some out → np_At D np_cl A (nc_wd q cA) s σ H locs → lv_has ls 5 [(0, .ref (q 29)), (1, .int (np_i x1)), (2, .int (np_i x2)), (3, .int (np_i x3)), (4, .int (np_i x4))] → W p l e R s m args below meth c H locs 0 0 Q (F0 m 140 ls []) := by
  intro n
  induction n with
  | zero => intro x1 x2 x3 x4 σ H locs ls hf; cases hf
  | succ n ih =>
    intro x1 x2 x3 x4 σ H locs ls hf hat hl
    have h140 := ih
    have hf : f_M_canBegin_140_b k125 k131 (fun x1 x2 x3 x4 σ => f_M_canBegin_140 k125 k131 n x1 x2 x3 x4 σ) x1 x2 x3 x4 σ = some out := hf
    unfold f_M_canBegin_140_b at hf
    refine lv_iload C.x C.b dd_M_canBegin_140 (lv_at hl 4 rfl) ?_
    refine lv_bipush (v := np_i 11) C.x C.b dd_M_canBegin_142 (by decide +kernel) ?_
    refine np_icmp_ge (tgt := 173) C dd_M_canBegin_144 (by decide) hf (fun _ hf => ?_) (fun _ hf => ?_)
    · refine lv_iinc (v := np_i (x3 + 1)) (lv' := [(3, .int (np_i (x3 + 1))), (0, .ref (q 29)), (1, .int (np_i x1)), (2, .int (np_i x2)), (4, .int (np_i x4))]) C.x C.b dd_M_canBegin_173 hl (k := 3) rfl (np_inc _ _) (by decide) rfl (fun ls hl => ?_)
      refine lv_goto (tgt := 131) C.x C.b dd_M_canBegin_176 (by decide) ?_
      exact h131 _ _ _ _ _ _ _ hf hat (lv_sub hl [1, 2, 3, 0] rfl)
    · refine lv_aload_n C.x C.b dd_M_canBegin_147 rfl (lv_at hl 0 rfl) ?_
      refine np_get (v := .ref (q 39)) C i_M hat.1 29 (nc_o29 _) rfl 16 (by decide) tw_939 rfl rfl dd_M_canBegin_148 ?_
      refine lv_bipush (v := np_i 31) C.x C.b dd_M_canBegin_151 (by decide +kernel) ?_
      refine lv_iload C.x C.b dd_M_canBegin_153 (lv_at hl 4 rfl) ?_
      refine np_imul C dd_M_canBegin_155 ?_
      refine lv_iload_n C.x C.b dd_M_canBegin_156 rfl (lv_at hl 2 rfl) ?_
      refine np_iadd C dd_M_canBegin_157 ?_
      refine lv_aload_n C.x C.b dd_M_canBegin_158 rfl (lv_at hl 0 rfl) ?_
      refine lv_iload C.x C.b dd_M_canBegin_159 (lv_at hl 4 rfl) ?_
      refine lv_iload_n C.x C.b dd_M_canBegin_161 rfl (lv_at hl 2 rfl) ?_
      refine lv_iload_n C.x C.b dd_M_canBegin_162 rfl (lv_at hl 1 rfl) ?_
      refine np_callVi (As := [.int (np_i x4), .int (np_i x2), .int (np_i x1)]) (rest := [.int (np_i ((31 * x4) + x2)), .ref (q 39)]) C (c_M_mayBeTerm l x4 x2 x1 _) np_allgood tw_1111 tw_1113 tp_37 tw_8 tw_1114 (nA := 3) (by decide +kernel) rfl ⟨rfl, rfl, Nat.le_of_ble_eq_true rfl, Nat.le_of_ble_eq_true rfl⟩ (va_recv C.k hat.1 (ci := 6) (q0 := 29) rfl (nc_o29 _)) hat rfl hl.1 (Nat.le_of_ble_eq_true rfl) dd_M_canBegin_163 hf (fun o2 H locs hf hat => ?_)
      refine np_zastore C hat 39 (nc_a39 _) 3 rfl (by decide) (nc_s39 _ _ _) dd_M_canBegin_166 hf (fun H locs hat hf => ?_)
      refine lv_iinc (v := np_i (x4 + 1)) (lv' := [(4, .int (np_i (x4 + 1))), (0, .ref (q 29)), (1, .int (np_i x1)), (2, .int (np_i x2)), (3, .int (np_i x3))]) C.x C.b dd_M_canBegin_167 hl (k := 4) rfl (np_inc _ _) (by decide) rfl (fun ls hl => ?_)
      refine lv_goto (tgt := 140) C.x C.b dd_M_canBegin_170 (by decide) ?_
      exact h140 _ _ _ _ _ _ _ _ hf hat (lv_sub hl [1, 2, 3, 4, 0] rfl)
set_option maxHeartbeats 4000000 in
set_option maxRecDepth 100000 in
theorem w_f_M_canBegin_131 (C : np_Cx gA p R s m args c D np_cl (np_ty cA) A np_al "NotationParseModel" prog_9_method_26_code 5 { frames := 4, cells := 0, slots := 0, locals := 87 }) (hQ : ∀ (pc : Nat) (ls : Array Slot) (H : Heap) (locs : List Loc) (v : Int) {σ : np_S}, decode prog_9_method_26_code pc = .ok (.ireturn, 1) → np_ck (v = 0 ∨ v = 1) (some (v, σ)) = some out → np_At D np_cl A (nc_wd q cA) s σ H locs → W p l e R s m args below meth c H locs 0 0 Q (F0 m pc ls [.int (np_i v)])) {k125 : (Int → Int → np_S → Option np_O)} (h125 : ∀ (x1 x2 : Int) (σ : np_S) (H : Heap) (locs : List Loc) (ls : Array Slot), k125 x1 x2 σ = some out → np_At D np_cl A (nc_wd q cA) s σ H locs → lv_has ls 5 [(0, .ref (q 29)), (1, .int (np_i x1)), (2, .int (np_i x2))] → W p l e R s m args below meth c H locs 0 0 Q (F0 m 125 ls [])) : ∀ (n : Nat), ∀ (x1 x2 x3 : Int) (σ : np_S) (H : Heap) (locs : List Loc) (ls : Array Slot), f_M_canBegin_131 k125 n x1 x2 x3 σ = some out → np_At D np_cl A (nc_wd q cA) s σ H locs → lv_has ls 5 [(0, .ref (q 29)), (1, .int (np_i x1)), (2, .int (np_i x2)), (3, .int (np_i x3))] → W p l e R s m args below meth c H locs 0 0 Q (F0 m 131 ls []) := by
  intro n
  induction n with
  | zero => intro x1 x2 x3 σ H locs ls hf; cases hf
  | succ n ih =>
    intro x1 x2 x3 σ H locs ls hf hat hl
    have h131 := ih
    have hf : f_M_canBegin_131_b k125 (fun x1 x2 x3 σ => f_M_canBegin_131 k125 n x1 x2 x3 σ) x1 x2 x3 σ = some out := hf
    unfold f_M_canBegin_131_b at hf
    refine lv_iload_n C.x C.b dd_M_canBegin_131 rfl (lv_at hl 3 rfl) ?_
    refine lv_bipush (v := np_i 11) C.x C.b dd_M_canBegin_132 (by decide +kernel) ?_
    refine np_icmp_ge (tgt := 179) C dd_M_canBegin_134 (by decide) hf (fun _ hf => ?_) (fun _ hf => ?_)
    · refine lv_iconst (v := np_i 0) C.x C.b dd_M_canBegin_179 rfl ?_
      refine lv_istore_n (lv' := [(3, .int (np_i 0)), (0, .ref (q 29)), (1, .int (np_i x1)), (2, .int (np_i x2))]) C.x C.b dd_M_canBegin_180 rfl hl (by decide) rfl (fun ls hl => ?_)
      exact w_f_M_canBegin_181 C hQ h125 20000 _ _ _ _ _ _ _ hf hat (lv_sub hl [1, 2, 3, 0] rfl)
    · refine lv_iconst (v := np_i 0) C.x C.b dd_M_canBegin_137 rfl ?_
      refine lv_istore (lv' := [(4, .int (np_i 0)), (0, .ref (q 29)), (1, .int (np_i x1)), (2, .int (np_i x2)), (3, .int (np_i x3))]) C.x C.b dd_M_canBegin_138 hl (by decide) rfl (fun ls hl => ?_)
      exact w_f_M_canBegin_140 C hQ h125 h131 20000 _ _ _ _ _ _ _ _ hf hat (lv_sub hl [1, 2, 3, 4, 0] rfl)
set_option maxHeartbeats 4000000 in
set_option maxRecDepth 100000 in
theorem w_f_M_canBegin_125 (C : np_Cx gA p R s m args c D np_cl (np_ty cA) A np_al "NotationParseModel" prog_9_method_26_code 5 { frames := 4, cells := 0, slots := 0, locals := 87 }) (hQ : ∀ (pc : Nat) (ls : Array Slot) (H : Heap) (locs : List Loc) (v : Int) {σ : np_S}, decode prog_9_method_26_code pc = .ok (.ireturn, 1) → np_ck (v = 0 ∨ v = 1) (some (v, σ)) = some out → np_At D np_cl A (nc_wd q cA) s σ H locs → W p l e R s m args below meth c H locs 0 0 Q (F0 m pc ls [.int (np_i v)]))   : ∀ (n : Nat), ∀ (x1 x2 : Int) (σ : np_S) (H : Heap) (locs : List Loc) (ls : Array Slot), f_M_canBegin_125  n x1 x2 σ = some out → np_At D np_cl A (nc_wd q cA) s σ H locs → lv_has ls 5 [(0, .ref (q 29)), (1, .int (np_i x1)), (2, .int (np_i x2))] → W p l e R s m args below meth c H locs 0 0 Q (F0 m 125 ls []) := by
  intro n
  induction n with
  | zero => intro x1 x2 σ H locs ls hf; cases hf
  | succ n ih =>
    intro x1 x2 σ H locs ls hf hat hl
    have h125 := ih
    have hf : f_M_canBegin_125_b  (fun x1 x2 σ => f_M_canBegin_125  n x1 x2 σ) x1 x2 σ = some out := hf
    unfold f_M_canBegin_125_b at hf
    refine lv_iload_n C.x C.b dd_M_canBegin_125 rfl (lv_at hl 2 rfl) ?_
    refine np_if_lt (tgt := 247) C dd_M_canBegin_126 (by decide) hf (fun _ hf => ?_) (fun _ hf => ?_)
    · refine lv_aload_n C.x C.b dd_M_canBegin_247 rfl (lv_at hl 0 rfl) ?_
      refine np_get (v := .ref (q 39)) C i_M hat.1 29 (nc_o29 _) rfl 16 (by decide) tw_939 rfl rfl dd_M_canBegin_248 ?_
      refine lv_iconst (v := np_i 0) C.x C.b dd_M_canBegin_251 rfl ?_
      refine np_zaload C hat.1 39 (nc_a39 _) 3 rfl (by decide) dd_M_canBegin_252 hf (fun hf => ?_)
      exact hQ _ _ _ _ _ dd_M_canBegin_253 hf hat
    · refine lv_iconst (v := np_i 0) C.x C.b dd_M_canBegin_129 rfl ?_
      refine lv_istore_n (lv' := [(3, .int (np_i 0)), (0, .ref (q 29)), (1, .int (np_i x1)), (2, .int (np_i x2))]) C.x C.b dd_M_canBegin_130 rfl hl (by decide) rfl (fun ls hl => ?_)
      exact w_f_M_canBegin_131 C hQ h125 20000 _ _ _ _ _ _ _ hf hat (lv_sub hl [1, 2, 3, 0] rfl)
set_option maxHeartbeats 4000000 in
set_option maxRecDepth 100000 in
theorem w_f_M_canBegin_82 (C : np_Cx gA p R s m args c D np_cl (np_ty cA) A np_al "NotationParseModel" prog_9_method_26_code 5 { frames := 4, cells := 0, slots := 0, locals := 87 }) (hQ : ∀ (pc : Nat) (ls : Array Slot) (H : Heap) (locs : List Loc) (v : Int) {σ : np_S}, decode prog_9_method_26_code pc = .ok (.ireturn, 1) → np_ck (v = 0 ∨ v = 1) (some (v, σ)) = some out → np_At D np_cl A (nc_wd q cA) s σ H locs → W p l e R s m args below meth c H locs 0 0 Q (F0 m pc ls [.int (np_i v)])) {k72 : (Int → Int → np_S → Option np_O)} (h72 : ∀ (x1 x2 : Int) (σ : np_S) (H : Heap) (locs : List Loc) (ls : Array Slot), k72 x1 x2 σ = some out → np_At D np_cl A (nc_wd q cA) s σ H locs → lv_has ls 5 [(0, .ref (q 29)), (1, .int (np_i x1)), (2, .int (np_i x2))] → W p l e R s m args below meth c H locs 0 0 Q (F0 m 72 ls [])) : ∀ (n : Nat), ∀ (x1 x2 x3 : Int) (σ : np_S) (H : Heap) (locs : List Loc) (ls : Array Slot), f_M_canBegin_82 k72 n x1 x2 x3 σ = some out → np_At D np_cl A (nc_wd q cA) s σ H locs → lv_has ls 5 [(0, .ref (q 29)), (1, .int (np_i x1)), (2, .int (np_i x2)), (3, .int (np_i x3))] → W p l e R s m args below meth c H locs 0 0 Q (F0 m 82 ls []) := by
  intro n
  induction n with
  | zero => intro x1 x2 x3 σ H locs ls hf; cases hf
  | succ n ih =>
    intro x1 x2 x3 σ H locs ls hf hat hl
    have h82 := ih
    have hf : f_M_canBegin_82_b k72 (fun x1 x2 x3 σ => f_M_canBegin_82 k72 n x1 x2 x3 σ) x1 x2 x3 σ = some out := hf
    unfold f_M_canBegin_82_b at hf
    refine lv_iload_n C.x C.b dd_M_canBegin_82 rfl (lv_at hl 3 rfl) ?_
    refine lv_aload_n C.x C.b dd_M_canBegin_83 rfl (lv_at hl 0 rfl) ?_
    refine np_get (v := .ref (q 32)) C i_M hat.1 29 (nc_o29 _) rfl 5 (by decide) tw_928 rfl rfl dd_M_canBegin_84 ?_
    refine lv_iload_n C.x C.b dd_M_canBegin_87 rfl (lv_at hl 2 rfl) ?_
    refine np_iaload C hat.1 32 (nc_a32 _) 0 rfl (by decide) dd_M_canBegin_88 hf (fun hf => ?_)
    refine np_icmp_gt (tgt := 115) C dd_M_canBegin_89 (by decide) hf (fun _ hf => ?_) (fun _ hf => ?_)
    · refine lv_iinc (v := np_i (x2 + 1)) (lv' := [(2, .int (np_i (x2 + 1))), (0, .ref (q 29)), (1, .int (np_i x1)), (3, .int (np_i x3))]) C.x C.b dd_M_canBegin_115 hl (k := 2) rfl (np_inc _ _) (by decide) rfl (fun ls hl => ?_)
      refine lv_goto (tgt := 72) C.x C.b dd_M_canBegin_118 (by decide) ?_
      exact h72 _ _ _ _ _ _ hf hat (lv_sub hl [1, 2, 0] rfl)
    · refine lv_aload_n C.x C.b dd_M_canBegin_92 rfl (lv_at hl 0 rfl) ?_
      refine np_get (v := .ref (q 40)) C i_M hat.1 29 (nc_o29 _) rfl 17 (by decide) tw_940 rfl rfl dd_M_canBegin_93 ?_
      refine lv_bipush (v := np_i 31) C.x C.b dd_M_canBegin_96 (by decide +kernel) ?_
      refine lv_bipush (v := np_i 7) C.x C.b dd_M_canBegin_98 (by decide +kernel) ?_
      refine lv_iload_n C.x C.b dd_M_canBegin_100 rfl (lv_at hl 2 rfl) ?_
      refine np_imul C dd_M_canBegin_101 ?_
      refine lv_iload_n C.x C.b dd_M_canBegin_102 rfl (lv_at hl 3 rfl) ?_
      refine np_iadd C dd_M_canBegin_103 ?_
      refine np_imul C dd_M_canBegin_104 ?_
      refine lv_iload_n C.x C.b dd_M_canBegin_105 rfl (lv_at hl 1 rfl) ?_
      refine np_iadd C dd_M_canBegin_106 ?_
      refine lv_iconst (v := np_i 1) C.x C.b dd_M_canBegin_107 rfl ?_
      refine np_zastore C hat 40 (nc_a40 _) 3 rfl (by decide) (nc_s40 _ _ _) dd_M_canBegin_108 hf (fun H locs hat hf => ?_)
      refine lv_iinc (v := np_i (x3 + 1)) (lv' := [(3, .int (np_i (x3 + 1))), (0, .ref (q 29)), (1, .int (np_i x1)), (2, .int (np_i x2))]) C.x C.b dd_M_canBegin_109 hl (k := 3) rfl (np_inc _ _) (by decide) rfl (fun ls hl => ?_)
      refine lv_goto (tgt := 82) C.x C.b dd_M_canBegin_112 (by decide) ?_
      exact h82 _ _ _ _ _ _ _ hf hat (lv_sub hl [1, 2, 3, 0] rfl)
set_option maxHeartbeats 4000000 in
set_option maxRecDepth 100000 in
theorem w_f_M_canBegin_72 (C : np_Cx gA p R s m args c D np_cl (np_ty cA) A np_al "NotationParseModel" prog_9_method_26_code 5 { frames := 4, cells := 0, slots := 0, locals := 87 }) (hQ : ∀ (pc : Nat) (ls : Array Slot) (H : Heap) (locs : List Loc) (v : Int) {σ : np_S}, decode prog_9_method_26_code pc = .ok (.ireturn, 1) → np_ck (v = 0 ∨ v = 1) (some (v, σ)) = some out → np_At D np_cl A (nc_wd q cA) s σ H locs → W p l e R s m args below meth c H locs 0 0 Q (F0 m pc ls [.int (np_i v)]))   : ∀ (n : Nat), ∀ (x1 x2 : Int) (σ : np_S) (H : Heap) (locs : List Loc) (ls : Array Slot), f_M_canBegin_72  n x1 x2 σ = some out → np_At D np_cl A (nc_wd q cA) s σ H locs → lv_has ls 5 [(0, .ref (q 29)), (1, .int (np_i x1)), (2, .int (np_i x2))] → W p l e R s m args below meth c H locs 0 0 Q (F0 m 72 ls []) := by
  intro n
  induction n with
  | zero => intro x1 x2 σ H locs ls hf; cases hf
  | succ n ih =>
    intro x1 x2 σ H locs ls hf hat hl
    have h72 := ih
    have hf : f_M_canBegin_72_b  (fun x1 x2 σ => f_M_canBegin_72  n x1 x2 σ) x1 x2 σ = some out := hf
    unfold f_M_canBegin_72_b at hf
    refine lv_iload_n C.x C.b dd_M_canBegin_72 rfl (lv_at hl 2 rfl) ?_
    refine lv_aload_n C.x C.b dd_M_canBegin_73 rfl (lv_at hl 0 rfl) ?_
    refine np_get (v := .int (np_i (σ 29 2))) C i_M hat.1 29 (nc_o29 _) rfl 2 (by decide) tw_925 rfl rfl dd_M_canBegin_74 ?_
    refine np_icmp_ge (tgt := 121) C dd_M_canBegin_77 (by decide) hf (fun _ hf => ?_) (fun _ hf => ?_)
    · refine lv_iload_n C.x C.b dd_M_canBegin_121 rfl (lv_at hl 1 rfl) ?_
      refine lv_iconst (v := np_i 1) C.x C.b dd_M_canBegin_122 rfl ?_
      refine np_isub C dd_M_canBegin_123 ?_
      refine lv_istore_n (lv' := [(2, .int (np_i (x1 - 1))), (0, .ref (q 29)), (1, .int (np_i x1))]) C.x C.b dd_M_canBegin_124 rfl hl (by decide) rfl (fun ls hl => ?_)
      exact w_f_M_canBegin_125 C hQ  20000 _ _ _ _ _ _ hf hat (lv_sub hl [1, 2, 0] rfl)
    · refine lv_iconst (v := np_i 0) C.x C.b dd_M_canBegin_80 rfl ?_
      refine lv_istore_n (lv' := [(3, .int (np_i 0)), (0, .ref (q 29)), (1, .int (np_i x1)), (2, .int (np_i x2))]) C.x C.b dd_M_canBegin_81 rfl hl (by decide) rfl (fun ls hl => ?_)
      exact w_f_M_canBegin_82 C hQ h72 20000 _ _ _ _ _ _ _ hf hat (lv_sub hl [1, 2, 3, 0] rfl)
set_option maxHeartbeats 4000000 in
set_option maxRecDepth 100000 in
theorem w_f_M_canBegin_46 (C : np_Cx gA p R s m args c D np_cl (np_ty cA) A np_al "NotationParseModel" prog_9_method_26_code 5 { frames := 4, cells := 0, slots := 0, locals := 87 }) (hQ : ∀ (pc : Nat) (ls : Array Slot) (H : Heap) (locs : List Loc) (v : Int) {σ : np_S}, decode prog_9_method_26_code pc = .ok (.ireturn, 1) → np_ck (v = 0 ∨ v = 1) (some (v, σ)) = some out → np_At D np_cl A (nc_wd q cA) s σ H locs → W p l e R s m args below meth c H locs 0 0 Q (F0 m pc ls [.int (np_i v)]))   : ∀ (n : Nat), ∀ (x1 x2 : Int) (σ : np_S) (H : Heap) (locs : List Loc) (ls : Array Slot), f_M_canBegin_46  n x1 x2 σ = some out → np_At D np_cl A (nc_wd q cA) s σ H locs → lv_has ls 5 [(0, .ref (q 29)), (1, .int (np_i x1)), (2, .int (np_i x2))] → W p l e R s m args below meth c H locs 0 0 Q (F0 m 46 ls []) := by
  intro n
  induction n with
  | zero => intro x1 x2 σ H locs ls hf; cases hf
  | succ n ih =>
    intro x1 x2 σ H locs ls hf hat hl
    have h46 := ih
    have hf : f_M_canBegin_46_b  (fun x1 x2 σ => f_M_canBegin_46  n x1 x2 σ) x1 x2 σ = some out := hf
    unfold f_M_canBegin_46_b at hf
    refine lv_iload_n C.x C.b dd_M_canBegin_46 rfl (lv_at hl 2 rfl) ?_
    refine lv_bipush (v := np_i 11) C.x C.b dd_M_canBegin_47 (by decide +kernel) ?_
    refine np_icmp_ge (tgt := 70) C dd_M_canBegin_49 (by decide) hf (fun _ hf => ?_) (fun _ hf => ?_)
    · refine lv_iconst (v := np_i 0) C.x C.b dd_M_canBegin_70 rfl ?_
      refine lv_istore_n (lv' := [(2, .int (np_i 0)), (0, .ref (q 29)), (1, .int (np_i x1))]) C.x C.b dd_M_canBegin_71 rfl hl (by decide) rfl (fun ls hl => ?_)
      exact w_f_M_canBegin_72 C hQ  20000 _ _ _ _ _ _ hf hat (lv_sub hl [1, 2, 0] rfl)
    · refine lv_aload_n C.x C.b dd_M_canBegin_52 rfl (lv_at hl 0 rfl) ?_
      refine np_get (v := .ref (q 39)) C i_M hat.1 29 (nc_o29 _) rfl 16 (by decide) tw_939 rfl rfl dd_M_canBegin_53 ?_
      refine lv_bipush (v := np_i 31) C.x C.b dd_M_canBegin_56 (by decide +kernel) ?_
      refine lv_iload_n C.x C.b dd_M_canBegin_58 rfl (lv_at hl 2 rfl) ?_
      refine np_imul C dd_M_canBegin_59 ?_
      refine lv_iload_n C.x C.b dd_M_canBegin_60 rfl (lv_at hl 1 rfl) ?_
      refine np_iadd C dd_M_canBegin_61 ?_
      refine lv_iconst (v := np_i 1) C.x C.b dd_M_canBegin_62 rfl ?_
      refine np_zastore C hat 39 (nc_a39 _) 3 rfl (by decide) (nc_s39 _ _ _) dd_M_canBegin_63 hf (fun H locs hat hf => ?_)
      refine lv_iinc (v := np_i (x2 + 1)) (lv' := [(2, .int (np_i (x2 + 1))), (0, .ref (q 29)), (1, .int (np_i x1))]) C.x C.b dd_M_canBegin_64 hl (k := 2) rfl (np_inc _ _) (by decide) rfl (fun ls hl => ?_)
      refine lv_goto (tgt := 46) C.x C.b dd_M_canBegin_67 (by decide) ?_
      exact h46 _ _ _ _ _ _ hf hat (lv_sub hl [1, 2, 0] rfl)
set_option maxHeartbeats 4000000 in
set_option maxRecDepth 100000 in
theorem w_f_M_canBegin_24 (C : np_Cx gA p R s m args c D np_cl (np_ty cA) A np_al "NotationParseModel" prog_9_method_26_code 5 { frames := 4, cells := 0, slots := 0, locals := 87 }) (hQ : ∀ (pc : Nat) (ls : Array Slot) (H : Heap) (locs : List Loc) (v : Int) {σ : np_S}, decode prog_9_method_26_code pc = .ok (.ireturn, 1) → np_ck (v = 0 ∨ v = 1) (some (v, σ)) = some out → np_At D np_cl A (nc_wd q cA) s σ H locs → W p l e R s m args below meth c H locs 0 0 Q (F0 m pc ls [.int (np_i v)]))   : ∀ (n : Nat), ∀ (x1 x2 : Int) (σ : np_S) (H : Heap) (locs : List Loc) (ls : Array Slot), f_M_canBegin_24  n x1 x2 σ = some out → np_At D np_cl A (nc_wd q cA) s σ H locs → lv_has ls 5 [(0, .ref (q 29)), (1, .int (np_i x1)), (2, .int (np_i x2))] → W p l e R s m args below meth c H locs 0 0 Q (F0 m 24 ls []) := by
  intro n
  induction n with
  | zero => intro x1 x2 σ H locs ls hf; cases hf
  | succ n ih =>
    intro x1 x2 σ H locs ls hf hat hl
    have h24 := ih
    have hf : f_M_canBegin_24_b  (fun x1 x2 σ => f_M_canBegin_24  n x1 x2 σ) x1 x2 σ = some out := hf
    unfold f_M_canBegin_24_b at hf
    refine lv_iload_n C.x C.b dd_M_canBegin_24 rfl (lv_at hl 2 rfl) ?_
    refine lv_sipush (v := np_i 341) C.x C.b dd_M_canBegin_25 (by decide +kernel) ?_
    refine np_icmp_ge (tgt := 44) C dd_M_canBegin_28 (by decide) hf (fun _ hf => ?_) (fun _ hf => ?_)
    · refine lv_iconst (v := np_i 0) C.x C.b dd_M_canBegin_44 rfl ?_
      refine lv_istore_n (lv' := [(2, .int (np_i 0)), (0, .ref (q 29)), (1, .int (np_i x1))]) C.x C.b dd_M_canBegin_45 rfl hl (by decide) rfl (fun ls hl => ?_)
      exact w_f_M_canBegin_46 C hQ  20000 _ _ _ _ _ _ hf hat (lv_sub hl [1, 2, 0] rfl)
    · refine lv_aload_n C.x C.b dd_M_canBegin_31 rfl (lv_at hl 0 rfl) ?_
      refine np_get (v := .ref (q 39)) C i_M hat.1 29 (nc_o29 _) rfl 16 (by decide) tw_939 rfl rfl dd_M_canBegin_32 ?_
      refine lv_iload_n C.x C.b dd_M_canBegin_35 rfl (lv_at hl 2 rfl) ?_
      refine lv_iconst (v := np_i 0) C.x C.b dd_M_canBegin_36 rfl ?_
      refine np_zastore C hat 39 (nc_a39 _) 3 rfl (by decide) (nc_s39 _ _ _) dd_M_canBegin_37 hf (fun H locs hat hf => ?_)
      refine lv_iinc (v := np_i (x2 + 1)) (lv' := [(2, .int (np_i (x2 + 1))), (0, .ref (q 29)), (1, .int (np_i x1))]) C.x C.b dd_M_canBegin_38 hl (k := 2) rfl (np_inc _ _) (by decide) rfl (fun ls hl => ?_)
      refine lv_goto (tgt := 24) C.x C.b dd_M_canBegin_41 (by decide) ?_
      exact h24 _ _ _ _ _ _ hf hat (lv_sub hl [1, 2, 0] rfl)
set_option maxHeartbeats 4000000 in
set_option maxRecDepth 100000 in
theorem w_f_M_canBegin_2 (C : np_Cx gA p R s m args c D np_cl (np_ty cA) A np_al "NotationParseModel" prog_9_method_26_code 5 { frames := 4, cells := 0, slots := 0, locals := 87 }) (hQ : ∀ (pc : Nat) (ls : Array Slot) (H : Heap) (locs : List Loc) (v : Int) {σ : np_S}, decode prog_9_method_26_code pc = .ok (.ireturn, 1) → np_ck (v = 0 ∨ v = 1) (some (v, σ)) = some out → np_At D np_cl A (nc_wd q cA) s σ H locs → W p l e R s m args below meth c H locs 0 0 Q (F0 m pc ls [.int (np_i v)]))   : ∀ (n : Nat), ∀ (x1 x2 : Int) (σ : np_S) (H : Heap) (locs : List Loc) (ls : Array Slot), f_M_canBegin_2  n x1 x2 σ = some out → np_At D np_cl A (nc_wd q cA) s σ H locs → lv_has ls 5 [(0, .ref (q 29)), (1, .int (np_i x1)), (2, .int (np_i x2))] → W p l e R s m args below meth c H locs 0 0 Q (F0 m 2 ls []) := by
  intro n
  induction n with
  | zero => intro x1 x2 σ H locs ls hf; cases hf
  | succ n ih =>
    intro x1 x2 σ H locs ls hf hat hl
    have h2 := ih
    have hf : f_M_canBegin_2_b  (fun x1 x2 σ => f_M_canBegin_2  n x1 x2 σ) x1 x2 σ = some out := hf
    unfold f_M_canBegin_2_b at hf
    refine lv_iload_n C.x C.b dd_M_canBegin_2 rfl (lv_at hl 2 rfl) ?_
    refine lv_sipush (v := np_i 2604) C.x C.b dd_M_canBegin_3 (by decide +kernel) ?_
    refine np_icmp_ge (tgt := 22) C dd_M_canBegin_6 (by decide) hf (fun _ hf => ?_) (fun _ hf => ?_)
    · refine lv_iconst (v := np_i 0) C.x C.b dd_M_canBegin_22 rfl ?_
      refine lv_istore_n (lv' := [(2, .int (np_i 0)), (0, .ref (q 29)), (1, .int (np_i x1))]) C.x C.b dd_M_canBegin_23 rfl hl (by decide) rfl (fun ls hl => ?_)
      exact w_f_M_canBegin_24 C hQ  20000 _ _ _ _ _ _ hf hat (lv_sub hl [1, 2, 0] rfl)
    · refine lv_aload_n C.x C.b dd_M_canBegin_9 rfl (lv_at hl 0 rfl) ?_
      refine np_get (v := .ref (q 40)) C i_M hat.1 29 (nc_o29 _) rfl 17 (by decide) tw_940 rfl rfl dd_M_canBegin_10 ?_
      refine lv_iload_n C.x C.b dd_M_canBegin_13 rfl (lv_at hl 2 rfl) ?_
      refine lv_iconst (v := np_i 0) C.x C.b dd_M_canBegin_14 rfl ?_
      refine np_zastore C hat 40 (nc_a40 _) 3 rfl (by decide) (nc_s40 _ _ _) dd_M_canBegin_15 hf (fun H locs hat hf => ?_)
      refine lv_iinc (v := np_i (x2 + 1)) (lv' := [(2, .int (np_i (x2 + 1))), (0, .ref (q 29)), (1, .int (np_i x1))]) C.x C.b dd_M_canBegin_16 hl (k := 2) rfl (np_inc _ _) (by decide) rfl (fun ls hl => ?_)
      refine lv_goto (tgt := 2) C.x C.b dd_M_canBegin_19 (by decide) ?_
      exact h2 _ _ _ _ _ _ hf hat (lv_sub hl [1, 2, 0] rfl)
set_option maxHeartbeats 4000000 in
set_option maxRecDepth 100000 in
theorem w_f_M_canBegin (C : np_Cx gA p R s m args c D np_cl (np_ty cA) A np_al "NotationParseModel" prog_9_method_26_code 5 { frames := 4, cells := 0, slots := 0, locals := 87 }) (hQ : ∀ (pc : Nat) (ls : Array Slot) (H : Heap) (locs : List Loc) (v : Int) {σ : np_S}, decode prog_9_method_26_code pc = .ok (.ireturn, 1) → np_ck (v = 0 ∨ v = 1) (some (v, σ)) = some out → np_At D np_cl A (nc_wd q cA) s σ H locs → W p l e R s m args below meth c H locs 0 0 Q (F0 m pc ls [.int (np_i v)]))   : ∀ (x1 : Int) (σ : np_S) (H : Heap) (locs : List Loc) (ls : Array Slot), f_M_canBegin  x1 σ = some out → np_At D np_cl A (nc_wd q cA) s σ H locs → lv_has ls 5 [(0, .ref (q 29)), (1, .int (np_i x1))] → W p l e R s m args below meth c H locs 0 0 Q (F0 m 0 ls []) := by
  intro x1 σ H locs ls hf hat hl
  unfold f_M_canBegin at hf
  refine lv_iconst (v := np_i 0) C.x C.b dd_M_canBegin_0 rfl ?_
  refine lv_istore_n (lv' := [(2, .int (np_i 0)), (0, .ref (q 29)), (1, .int (np_i x1))]) C.x C.b dd_M_canBegin_1 rfl hl (by decide) rfl (fun ls hl => ?_)
  exact w_f_M_canBegin_2 C hQ  20000 _ _ _ _ _ _ hf hat (lv_sub hl [1, 2, 0] rfl)
set_option maxHeartbeats 4000000 in
set_option maxRecDepth 100000 in
theorem c_M_canBegin (l : Launch) {gA : Nat → Nat} {D : va_G} {q : Nat → Nat} {cA : Nat → ClassId} (x1 : Int) (σ : np_S) : np_Mi gA l D np_cl (np_ty cA) (nc_wd q cA) yy_M_canBegin (.code yy_M_canBegin prog_9_method_26_code 5 (some .boolean) :: np_al) { frames := 4, cells := 0, slots := 0, locals := 87 } [.ref (q 29), .int (np_i x1)] σ (f_M_canBegin x1 σ) :=
  np_mkz (by decide +kernel) (Nat.le_of_ble_eq_true rfl) (fun o p e R s m args below meth c Q A ls hf C hQ hat hl => w_f_M_canBegin C hQ x1 σ _ _ _ hf hat (lv_sub hl [0, 1] rfl))
set_option maxHeartbeats 4000000 in
set_option maxRecDepth 100000 in
theorem w_f_M_faulty (C : np_Cx gA p R s m args c D np_cl (np_ty cA) A np_al "NotationParseModel" prog_9_method_27_code 3 { frames := 0, cells := 0, slots := 0, locals := 0 }) (hQ : ∀ (pc : Nat) (ls : Array Slot) (H : Heap) (locs : List Loc) {σ : np_S}, decode prog_9_method_27_code pc = .ok (.return_, 1) → some ((0 : Int), σ) = some out → np_At D np_cl A (nc_wd q cA) s σ H locs → W p l e R s m args below meth c H locs 0 0 Q (F0 m pc ls []))   : ∀ (x1 x2 : Int) (σ : np_S) (H : Heap) (locs : List Loc) (ls : Array Slot), f_M_faulty  x1 x2 σ = some out → np_At D np_cl A (nc_wd q cA) s σ H locs → lv_has ls 3 [(0, .ref (q 29)), (1, .int (np_i x1)), (2, .int (np_i x2))] → W p l e R s m args below meth c H locs 0 0 Q (F0 m 0 ls []) := by
  intro x1 x2 σ H locs ls hf hat hl
  unfold f_M_faulty at hf
  refine lv_aload_n C.x C.b dd_M_faulty_0 rfl (lv_at hl 0 rfl) ?_
  refine lv_iload_n C.x C.b dd_M_faulty_1 rfl (lv_at hl 1 rfl) ?_
  refine np_put C i_M t_M tok_M n_M hat 29 (nc_o29 _) rfl 9 (by decide) tw_932 rfl rfl (by decide +kernel) (np_narI x1) (np_fitI x1) (Nat.le_of_ble_eq_true rfl) (nc_s29_9 _ _) dd_M_faulty_2 (fun H locs hat => ?_)
  refine lv_aload_n C.x C.b dd_M_faulty_5 rfl (lv_at hl 0 rfl) ?_
  refine lv_iload_n C.x C.b dd_M_faulty_6 rfl (lv_at hl 2 rfl) ?_
  refine np_put C i_M t_M tok_M n_M hat 29 (nc_o29 _) rfl 10 (by decide) tw_933 rfl rfl (by decide +kernel) (np_narI x2) (np_fitI x2) (Nat.le_of_ble_eq_true rfl) (nc_s29_10 _ _) dd_M_faulty_7 (fun H locs hat => ?_)
  refine lv_aload_n C.x C.b dd_M_faulty_10 rfl (lv_at hl 0 rfl) ?_
  refine lv_iconst (v := np_i 1) C.x C.b dd_M_faulty_11 rfl ?_
  refine np_put C i_M t_M tok_M n_M hat 29 (nc_o29 _) rfl 0 (by decide) tw_923 rfl rfl (by decide +kernel) (np_narI 1) (np_fitI 1) (Nat.le_of_ble_eq_true rfl) (nc_s29_0 _ _) dd_M_faulty_12 (fun H locs hat => ?_)
  exact hQ _ _ _ _ dd_M_faulty_15 hf hat
set_option maxHeartbeats 4000000 in
set_option maxRecDepth 100000 in
theorem c_M_faulty (l : Launch) {gA : Nat → Nat} {D : va_G} {q : Nat → Nat} {cA : Nat → ClassId} (x1 x2 : Int) (σ : np_S) : np_Mv gA l D np_cl (np_ty cA) (nc_wd q cA) yy_M_faulty (.code yy_M_faulty prog_9_method_27_code 3 none :: np_al) { frames := 0, cells := 0, slots := 0, locals := 0 } [.ref (q 29), .int (np_i x1), .int (np_i x2)] σ (f_M_faulty x1 x2 σ) :=
  np_mkv (by decide +kernel) (Nat.le_of_ble_eq_true rfl) (fun o p e R s m args below meth c Q A ls hf C hQ hat hl => w_f_M_faulty C hQ x1 x2 σ _ _ _ hf hat (lv_sub hl [0, 1, 2] rfl))
set_option maxHeartbeats 4000000 in
set_option maxRecDepth 100000 in
theorem w_f_M_change (C : np_Cx gA p R s m args c D np_cl (np_ty cA) A np_al "NotationParseModel" prog_9_method_34_code 6 { frames := 0, cells := 0, slots := 0, locals := 0 }) (hQ : ∀ (pc : Nat) (ls : Array Slot) (H : Heap) (locs : List Loc) {σ : np_S}, decode prog_9_method_34_code pc = .ok (.return_, 1) → some ((0 : Int), σ) = some out → np_At D np_cl A (nc_wd q cA) s σ H locs → W p l e R s m args below meth c H locs 0 0 Q (F0 m pc ls []))   : ∀ (x1 x2 : Int) (σ : np_S) (H : Heap) (locs : List Loc) (ls : Array Slot), f_M_change  x1 x2 σ = some out → np_At D np_cl A (nc_wd q cA) s σ H locs → lv_has ls 6 [(0, .ref (q 29)), (1, .int (np_i x1)), (2, .int (np_i x2))] → W p l e R s m args below meth c H locs 0 0 Q (F0 m 0 ls []) := by
  intro x1 x2 σ H locs ls hf hat hl
  unfold f_M_change at hf
  refine lv_aload_n C.x C.b dd_M_change_0 rfl (lv_at hl 0 rfl) ?_
  refine np_get (v := .ref (q 45)) C i_M hat.1 29 (nc_o29 _) rfl 23 (by decide) tw_946 rfl rfl dd_M_change_1 ?_
  refine lv_iload_n C.x C.b dd_M_change_4 rfl (lv_at hl 1 rfl) ?_
  refine np_iaload C hat.1 45 (nc_a45 _) 0 rfl (by decide) dd_M_change_5 hf (fun hf => ?_)
  refine lv_istore_n (lv' := [(3, .int (np_i (σ 45 x1))), (0, .ref (q 29)), (1, .int (np_i x1)), (2, .int (np_i x2))]) C.x C.b dd_M_change_6 rfl hl (by decide) rfl (fun ls hl => ?_)
  refine lv_aload_n C.x C.b dd_M_change_7 rfl (lv_at hl 1 rfl) ?_
  refine np_get (v := .ref (q 46)) C i_M hat.1 29 (nc_o29 _) rfl 24 (by decide) tw_947 rfl rfl dd_M_change_8 ?_
  refine lv_iload_n C.x C.b dd_M_change_11 rfl (lv_at hl 2 rfl) ?_
  refine np_iaload C hat.1 46 (nc_a46 _) 0 rfl (by decide) dd_M_change_12 hf (fun hf => ?_)
  refine lv_istore (lv' := [(4, .int (np_i (σ 46 x1))), (3, .int (np_i (σ 45 x1))), (0, .ref (q 29)), (1, .int (np_i x1)), (2, .int (np_i x2))]) C.x C.b dd_M_change_13 hl (by decide) rfl (fun ls hl => ?_)
  refine lv_aload_n C.x C.b dd_M_change_15 rfl (lv_at hl 2 rfl) ?_
  refine np_get (v := .ref (q 47)) C i_M hat.1 29 (nc_o29 _) rfl 25 (by decide) tw_948 rfl rfl dd_M_change_16 ?_
  refine lv_iload_n C.x C.b dd_M_change_19 rfl (lv_at hl 3 rfl) ?_
  refine np_iaload C hat.1 47 (nc_a47 _) 0 rfl (by decide) dd_M_change_20 hf (fun hf => ?_)
  refine lv_istore (lv' := [(5, .int (np_i (σ 47 x1))), (4, .int (np_i (σ 46 x1))), (3, .int (np_i (σ 45 x1))), (0, .ref (q 29)), (1, .int (np_i x1)), (2, .int (np_i x2))]) C.x C.b dd_M_change_21 hl (by decide) rfl (fun ls hl => ?_)
  refine lv_aload_n C.x C.b dd_M_change_23 rfl (lv_at hl 3 rfl) ?_
  refine np_get (v := .ref (q 45)) C i_M hat.1 29 (nc_o29 _) rfl 23 (by decide) tw_946 rfl rfl dd_M_change_24 ?_
  refine lv_iload_n C.x C.b dd_M_change_27 rfl (lv_at hl 4 rfl) ?_
  refine lv_aload_n C.x C.b dd_M_change_28 rfl (lv_at hl 3 rfl) ?_
  refine np_get (v := .ref (q 45)) C i_M hat.1 29 (nc_o29 _) rfl 23 (by decide) tw_946 rfl rfl dd_M_change_29 ?_
  refine lv_iload_n C.x C.b dd_M_change_32 rfl (lv_at hl 5 rfl) ?_
  refine np_iaload C hat.1 45 (nc_a45 _) 0 rfl (by decide) dd_M_change_33 hf (fun hf => ?_)
  refine np_iastore C hat 45 (nc_a45 _) 0 rfl (by decide) (nc_s45 _ _ _) dd_M_change_34 hf (fun H locs hat hf => ?_)
  refine lv_aload_n C.x C.b dd_M_change_35 rfl (lv_at hl 3 rfl) ?_
  refine np_get (v := .ref (q 46)) C i_M hat.1 29 (nc_o29 _) rfl 24 (by decide) tw_947 rfl rfl dd_M_change_36 ?_
  refine lv_iload_n C.x C.b dd_M_change_39 rfl (lv_at hl 4 rfl) ?_
  refine lv_aload_n C.x C.b dd_M_change_40 rfl (lv_at hl 3 rfl) ?_
  refine np_get (v := .ref (q 46)) C i_M hat.1 29 (nc_o29 _) rfl 24 (by decide) tw_947 rfl rfl dd_M_change_41 ?_
  refine lv_iload_n C.x C.b dd_M_change_44 rfl (lv_at hl 5 rfl) ?_
  refine np_iaload C hat.1 46 (nc_a46 _) 0 rfl (by decide) dd_M_change_45 hf (fun hf => ?_)
  refine np_iastore C hat 46 (nc_a46 _) 0 rfl (by decide) (nc_s46 _ _ _) dd_M_change_46 hf (fun H locs hat hf => ?_)
  refine lv_aload_n C.x C.b dd_M_change_47 rfl (lv_at hl 3 rfl) ?_
  refine np_get (v := .ref (q 47)) C i_M hat.1 29 (nc_o29 _) rfl 25 (by decide) tw_948 rfl rfl dd_M_change_48 ?_
  refine lv_iload_n C.x C.b dd_M_change_51 rfl (lv_at hl 4 rfl) ?_
  refine lv_aload_n C.x C.b dd_M_change_52 rfl (lv_at hl 3 rfl) ?_
  refine np_get (v := .ref (q 47)) C i_M hat.1 29 (nc_o29 _) rfl 25 (by decide) tw_948 rfl rfl dd_M_change_53 ?_
  refine lv_iload_n C.x C.b dd_M_change_56 rfl (lv_at hl 5 rfl) ?_
  refine np_iaload C hat.1 47 (nc_a47 _) 0 rfl (by decide) dd_M_change_57 hf (fun hf => ?_)
  refine np_iastore C hat 47 (nc_a47 _) 0 rfl (by decide) (nc_s47 _ _ _) dd_M_change_58 hf (fun H locs hat hf => ?_)
  refine lv_aload_n C.x C.b dd_M_change_59 rfl (lv_at hl 3 rfl) ?_
  refine np_get (v := .ref (q 45)) C i_M hat.1 29 (nc_o29 _) rfl 23 (by decide) tw_946 rfl rfl dd_M_change_60 ?_
  refine lv_iload_n C.x C.b dd_M_change_63 rfl (lv_at hl 5 rfl) ?_
  refine lv_iload_n C.x C.b dd_M_change_64 rfl (lv_at hl 2 rfl) ?_
  refine np_iastore C hat 45 (nc_a45 _) 0 rfl (by decide) (nc_s45 _ _ _) dd_M_change_65 hf (fun H locs hat hf => ?_)
  refine lv_aload_n C.x C.b dd_M_change_66 rfl (lv_at hl 3 rfl) ?_
  refine np_get (v := .ref (q 46)) C i_M hat.1 29 (nc_o29 _) rfl 24 (by decide) tw_947 rfl rfl dd_M_change_67 ?_
  refine lv_iload_n C.x C.b dd_M_change_70 rfl (lv_at hl 5 rfl) ?_
  refine lv_iload C.x C.b dd_M_change_71 (lv_at hl 1 rfl) ?_
  refine np_iastore C hat 46 (nc_a46 _) 0 rfl (by decide) (nc_s46 _ _ _) dd_M_change_73 hf (fun H locs hat hf => ?_)
  refine lv_aload_n C.x C.b dd_M_change_74 rfl (lv_at hl 3 rfl) ?_
  refine np_get (v := .ref (q 47)) C i_M hat.1 29 (nc_o29 _) rfl 25 (by decide) tw_948 rfl rfl dd_M_change_75 ?_
  refine lv_iload_n C.x C.b dd_M_change_78 rfl (lv_at hl 5 rfl) ?_
  refine lv_iload C.x C.b dd_M_change_79 (lv_at hl 0 rfl) ?_
  refine np_iastore C hat 47 (nc_a47 _) 0 rfl (by decide) (nc_s47 _ _ _) dd_M_change_81 hf (fun H locs hat hf => ?_)
  exact hQ _ _ _ _ dd_M_change_82 hf hat
set_option maxHeartbeats 4000000 in
set_option maxRecDepth 100000 in
theorem c_M_change (l : Launch) {gA : Nat → Nat} {D : va_G} {q : Nat → Nat} {cA : Nat → ClassId} (x1 x2 : Int) (σ : np_S) : np_Mv gA l D np_cl (np_ty cA) (nc_wd q cA) yy_M_change (.code yy_M_change prog_9_method_34_code 6 none :: np_al) { frames := 0, cells := 0, slots := 0, locals := 0 } [.ref (q 29), .int (np_i x1), .int (np_i x2)] σ (f_M_change x1 x2 σ) :=
  np_mkv (by decide +kernel) (Nat.le_of_ble_eq_true rfl) (fun o p e R s m args below meth c Q A ls hf C hQ hat hl => w_f_M_change C hQ x1 x2 σ _ _ _ hf hat (lv_sub hl [0, 1, 2] rfl))
set_option maxHeartbeats 4000000 in
set_option maxRecDepth 100000 in
theorem w_f_M_later (C : np_Cx gA p R s m args c D np_cl (np_ty cA) A np_al "NotationParseModel" prog_9_method_30_code 5 { frames := 0, cells := 0, slots := 0, locals := 0 }) (hQ : ∀ (pc : Nat) (ls : Array Slot) (H : Heap) (locs : List Loc) {σ : np_S}, decode prog_9_method_30_code pc = .ok (.return_, 1) → some ((0 : Int), σ) = some out → np_At D np_cl A (nc_wd q cA) s σ H locs → W p l e R s m args below meth c H locs 0 0 Q (F0 m pc ls []))   : ∀ (x1 x2 x3 x4 : Int) (σ : np_S) (H : Heap) (locs : List Loc) (ls : Array Slot), f_M_later  x1 x2 x3 x4 σ = some out → np_At D np_cl A (nc_wd q cA) s σ H locs → lv_has ls 5 [(0, .ref (q 29)), (1, .int (np_i x1)), (2, .int (np_i x2)), (3, .int (np_i x3)), (4, .int (np_i x4))] → W p l e R s m args below meth c H locs 0 0 Q (F0 m 0 ls []) := by
  intro x1 x2 x3 x4 σ H locs ls hf hat hl
  unfold f_M_later at hf
  refine lv_aload_n C.x C.b dd_M_later_0 rfl (lv_at hl 0 rfl) ?_
  refine np_get (v := .ref (q 45)) C i_M hat.1 29 (nc_o29 _) rfl 23 (by decide) tw_946 rfl rfl dd_M_later_1 ?_
  refine lv_aload_n C.x C.b dd_M_later_4 rfl (lv_at hl 0 rfl) ?_
  refine np_get (v := .int (np_i (σ 29 27))) C i_M hat.1 29 (nc_o29 _) rfl 27 (by decide) tw_950 rfl rfl dd_M_later_5 ?_
  refine lv_iload_n C.x C.b dd_M_later_8 rfl (lv_at hl 1 rfl) ?_
  refine np_iastore C hat 45 (nc_a45 _) 0 rfl (by decide) (nc_s45 _ _ _) dd_M_later_9 hf (fun H locs hat hf => ?_)
  refine lv_aload_n C.x C.b dd_M_later_10 rfl (lv_at hl 0 rfl) ?_
  refine np_get (v := .ref (q 46)) C i_M hat.1 29 (nc_o29 _) rfl 24 (by decide) tw_947 rfl rfl dd_M_later_11 ?_
  refine lv_aload_n C.x C.b dd_M_later_14 rfl (lv_at hl 0 rfl) ?_
  refine np_get (v := .int (np_i ((np_st σ 45 (σ 29 27) x1) 29 27))) C i_M hat.1 29 (nc_o29 _) rfl 27 (by decide) tw_950 rfl rfl dd_M_later_15 ?_
  refine lv_iload_n C.x C.b dd_M_later_18 rfl (lv_at hl 2 rfl) ?_
  refine np_iastore C hat 46 (nc_a46 _) 0 rfl (by decide) (nc_s46 _ _ _) dd_M_later_19 hf (fun H locs hat hf => ?_)
  refine lv_aload_n C.x C.b dd_M_later_20 rfl (lv_at hl 0 rfl) ?_
  refine np_get (v := .ref (q 47)) C i_M hat.1 29 (nc_o29 _) rfl 25 (by decide) tw_948 rfl rfl dd_M_later_21 ?_
  refine lv_aload_n C.x C.b dd_M_later_24 rfl (lv_at hl 0 rfl) ?_
  refine np_get (v := .int (np_i ((np_st (np_st σ 45 (σ 29 27) x1) 46 ((np_st σ 45 (σ 29 27) x1) 29 27) x2) 29 27))) C i_M hat.1 29 (nc_o29 _) rfl 27 (by decide) tw_950 rfl rfl dd_M_later_25 ?_
  refine lv_iload_n C.x C.b dd_M_later_28 rfl (lv_at hl 3 rfl) ?_
  refine np_iastore C hat 47 (nc_a47 _) 0 rfl (by decide) (nc_s47 _ _ _) dd_M_later_29 hf (fun H locs hat hf => ?_)
  refine lv_aload_n C.x C.b dd_M_later_30 rfl (lv_at hl 0 rfl) ?_
  refine np_get (v := .ref (q 48)) C i_M hat.1 29 (nc_o29 _) rfl 26 (by decide) tw_949 rfl rfl dd_M_later_31 ?_
  refine lv_aload_n C.x C.b dd_M_later_34 rfl (lv_at hl 0 rfl) ?_
  refine np_get (v := .int (np_i ((np_st (np_st (np_st σ 45 (σ 29 27) x1) 46 ((np_st σ 45 (σ 29 27) x1) 29 27) x2) 47 ((np_st (np_st σ 45 (σ 29 27) x1) 46 ((np_st σ 45 (σ 29 27) x1) 29 27) x2) 29 27) x3) 29 27))) C i_M hat.1 29 (nc_o29 _) rfl 27 (by decide) tw_950 rfl rfl dd_M_later_35 ?_
  refine lv_iload C.x C.b dd_M_later_38 (lv_at hl 4 rfl) ?_
  refine np_iastore C hat 48 (nc_a48 _) 0 rfl (by decide) (nc_s48 _ _ _) dd_M_later_40 hf (fun H locs hat hf => ?_)
  refine lv_aload_n C.x C.b dd_M_later_41 rfl (lv_at hl 0 rfl) ?_
  refine lv_dup C.x C.b dd_M_later_42 rfl ?_
  refine np_get (v := .int (np_i ((np_st (np_st (np_st (np_st σ 45 (σ 29 27) x1) 46 ((np_st σ 45 (σ 29 27) x1) 29 27) x2) 47 ((np_st (np_st σ 45 (σ 29 27) x1) 46 ((np_st σ 45 (σ 29 27) x1) 29 27) x2) 29 27) x3) 48 ((np_st (np_st (np_st σ 45 (σ 29 27) x1) 46 ((np_st σ 45 (σ 29 27) x1) 29 27) x2) 47 ((np_st (np_st σ 45 (σ 29 27) x1) 46 ((np_st σ 45 (σ 29 27) x1) 29 27) x2) 29 27) x3) 29 27) x4) 29 27))) C i_M hat.1 29 (nc_o29 _) rfl 27 (by decide) tw_950 rfl rfl dd_M_later_43 ?_
  refine lv_iconst (v := np_i 1) C.x C.b dd_M_later_46 rfl ?_
  refine np_iadd C dd_M_later_47 ?_
  refine np_put C i_M t_M tok_M n_M hat 29 (nc_o29 _) rfl 27 (by decide) tw_950 rfl rfl (by decide +kernel) (np_narI (((np_st (np_st (np_st (np_st σ 45 (σ 29 27) x1) 46 ((np_st σ 45 (σ 29 27) x1) 29 27) x2) 47 ((np_st (np_st σ 45 (σ 29 27) x1) 46 ((np_st σ 45 (σ 29 27) x1) 29 27) x2) 29 27) x3) 48 ((np_st (np_st (np_st σ 45 (σ 29 27) x1) 46 ((np_st σ 45 (σ 29 27) x1) 29 27) x2) 47 ((np_st (np_st σ 45 (σ 29 27) x1) 46 ((np_st σ 45 (σ 29 27) x1) 29 27) x2) 29 27) x3) 29 27) x4) 29 27) + 1)) (np_fitI (((np_st (np_st (np_st (np_st σ 45 (σ 29 27) x1) 46 ((np_st σ 45 (σ 29 27) x1) 29 27) x2) 47 ((np_st (np_st σ 45 (σ 29 27) x1) 46 ((np_st σ 45 (σ 29 27) x1) 29 27) x2) 29 27) x3) 48 ((np_st (np_st (np_st σ 45 (σ 29 27) x1) 46 ((np_st σ 45 (σ 29 27) x1) 29 27) x2) 47 ((np_st (np_st σ 45 (σ 29 27) x1) 46 ((np_st σ 45 (σ 29 27) x1) 29 27) x2) 29 27) x3) 29 27) x4) 29 27) + 1)) (Nat.le_of_ble_eq_true rfl) (nc_s29_27 _ _) dd_M_later_48 (fun H locs hat => ?_)
  exact hQ _ _ _ _ dd_M_later_51 hf hat
set_option maxHeartbeats 4000000 in
set_option maxRecDepth 100000 in
theorem c_M_later (l : Launch) {gA : Nat → Nat} {D : va_G} {q : Nat → Nat} {cA : Nat → ClassId} (x1 x2 x3 x4 : Int) (σ : np_S) : np_Mv gA l D np_cl (np_ty cA) (nc_wd q cA) yy_M_later (.code yy_M_later prog_9_method_30_code 5 none :: np_al) { frames := 0, cells := 0, slots := 0, locals := 0 } [.ref (q 29), .int (np_i x1), .int (np_i x2), .int (np_i x3), .int (np_i x4)] σ (f_M_later x1 x2 x3 x4 σ) :=
  np_mkv (by decide +kernel) (Nat.le_of_ble_eq_true rfl) (fun o p e R s m args below meth c Q A ls hf C hQ hat hl => w_f_M_later C hQ x1 x2 x3 x4 σ _ _ _ hf hat (lv_sub hl [0, 1, 2, 3, 4] rfl))
set_option maxHeartbeats 4000000 in
set_option maxRecDepth 100000 in
theorem w_f_M_fillHoles_168 (C : np_Cx gA p R s m args c D np_cl (np_ty cA) A np_al "NotationParseModel" prog_9_method_33_code 8 { frames := 1, cells := 0, slots := 0, locals := 25 }) (hQ : ∀ (pc : Nat) (ls : Array Slot) (H : Heap) (locs : List Loc) {σ : np_S}, decode prog_9_method_33_code pc = .ok (.return_, 1) → some ((0 : Int), σ) = some out → np_At D np_cl A (nc_wd q cA) s σ H locs → W p l e R s m args below meth c H locs 0 0 Q (F0 m pc ls []))   : ∀ (n : Nat), ∀ (x5 x6 : Int) (σ : np_S) (H : Heap) (locs : List Loc) (ls : Array Slot), f_M_fillHoles_168  n x5 x6 σ = some out → np_At D np_cl A (nc_wd q cA) s σ H locs → lv_has ls 8 [(0, .ref (q 29)), (5, .int (np_i x5)), (6, .int (np_i x6))] → W p l e R s m args below meth c H locs 0 0 Q (F0 m 168 ls []) := by
  intro n
  induction n with
  | zero => intro x5 x6 σ H locs ls hf; cases hf
  | succ n ih =>
    intro x5 x6 σ H locs ls hf hat hl
    have h168 := ih
    have hf : f_M_fillHoles_168_b  (fun x5 x6 σ => f_M_fillHoles_168  n x5 x6 σ) x5 x6 σ = some out := hf
    unfold f_M_fillHoles_168_b at hf
    refine lv_iload C.x C.b dd_M_fillHoles_168 (lv_at hl 1 rfl) ?_
    refine lv_iload C.x C.b dd_M_fillHoles_170 (lv_at hl 2 rfl) ?_
    refine np_icmp_ge (tgt := 192) C dd_M_fillHoles_172 (by decide) hf (fun _ hf => ?_) (fun _ hf => ?_)
    · exact hQ _ _ _ _ dd_M_fillHoles_192 hf hat
    · refine lv_aload_n C.x C.b dd_M_fillHoles_175 rfl (lv_at hl 0 rfl) ?_
      refine lv_iload C.x C.b dd_M_fillHoles_176 (lv_at hl 1 rfl) ?_
      refine lv_iload C.x C.b dd_M_fillHoles_178 (lv_at hl 2 rfl) ?_
      refine np_callVv (As := [.int (np_i x5), .int (np_i x6)]) (rest := []) C (c_M_change l x5 x6 _) np_allgood tw_1139 tw_1141 tp_44 tw_8 tw_1142 (nA := 2) (by decide +kernel) rfl ⟨rfl, rfl, Nat.le_of_ble_eq_true rfl, Nat.le_of_ble_eq_true rfl⟩ (va_recv C.k hat.1 (ci := 6) (q0 := 29) rfl (nc_o29 _)) hat rfl hl.1 (Nat.le_of_ble_eq_true rfl) dd_M_fillHoles_180 hf (fun o1 H locs hf hat => ?_)
      refine lv_iinc (v := np_i (x5 + 1)) (lv' := [(5, .int (np_i (x5 + 1))), (0, .ref (q 29)), (6, .int (np_i x6))]) C.x C.b dd_M_fillHoles_183 hl (k := 1) rfl (np_inc _ _) (by decide) rfl (fun ls hl => ?_)
      refine lv_iinc (v := np_i (x6 + (-1))) (lv' := [(6, .int (np_i (x6 + (-1)))), (5, .int (np_i (x5 + 1))), (0, .ref (q 29))]) C.x C.b dd_M_fillHoles_186 hl (k := 2) rfl (np_inc _ _) (by decide) rfl (fun ls hl => ?_)
      refine lv_goto (tgt := 168) C.x C.b dd_M_fillHoles_189 (by decide) ?_
      exact h168 _ _ _ _ _ _ hf hat (lv_sub hl [2, 1, 0] rfl)
set_option maxHeartbeats 4000000 in
set_option maxRecDepth 100000 in
theorem w_f_M_fillHoles_148 (C : np_Cx gA p R s m args c D np_cl (np_ty cA) A np_al "NotationParseModel" prog_9_method_33_code 8 { frames := 1, cells := 0, slots := 0, locals := 25 }) (hQ : ∀ (pc : Nat) (ls : Array Slot) (H : Heap) (locs : List Loc) {σ : np_S}, decode prog_9_method_33_code pc = .ok (.return_, 1) → some ((0 : Int), σ) = some out → np_At D np_cl A (nc_wd q cA) s σ H locs → W p l e R s m args below meth c H locs 0 0 Q (F0 m pc ls [])) {k30 : (Int → Int → Int → Int → Int → np_S → Option np_O)} (h30 : ∀ (x1 x2 x3 x4 x5 : Int) (σ : np_S) (H : Heap) (locs : List Loc) (ls : Array Slot), k30 x1 x2 x3 x4 x5 σ = some out → np_At D np_cl A (nc_wd q cA) s σ H locs → lv_has ls 8 [(0, .ref (q 29)), (1, .int (np_i x1)), (2, .int (np_i x2)), (3, .int (np_i x3)), (4, .int (np_i x4)), (5, .int (np_i x5))] → W p l e R s m args below meth c H locs 0 0 Q (F0 m 30 ls [])) : ∀ (x1 x2 x4 x5 x7 : Int) (σ : np_S) (H : Heap) (locs : List Loc) (ls : Array Slot), f_M_fillHoles_148 k30 x1 x2 x4 x5 x7 σ = some out → np_At D np_cl A (nc_wd q cA) s σ H locs → lv_has ls 8 [(0, .ref (q 29)), (1, .int (np_i x1)), (2, .int (np_i x2)), (4, .int (np_i x4)), (5, .int (np_i x5)), (7, .int (np_i x7))] → W p l e R s m args below meth c H locs 0 0 Q (F0 m 148 ls []) := by
  intro x1 x2 x4 x5 x7 σ H locs ls hf hat hl
  unfold f_M_fillHoles_148 at hf
  refine lv_iload C.x C.b dd_M_fillHoles_148 (lv_at hl 5 rfl) ?_
  refine lv_istore_n (lv' := [(3, .int (np_i x7)), (0, .ref (q 29)), (1, .int (np_i x1)), (2, .int (np_i x2)), (4, .int (np_i x4)), (5, .int (np_i x5)), (7, .int (np_i x7))]) C.x C.b dd_M_fillHoles_150 rfl hl (by decide) rfl (fun ls hl => ?_)
  refine lv_iinc (v := np_i (x5 + 1)) (lv' := [(5, .int (np_i (x5 + 1))), (3, .int (np_i x7)), (0, .ref (q 29)), (1, .int (np_i x1)), (2, .int (np_i x2)), (4, .int (np_i x4)), (7, .int (np_i x7))]) C.x C.b dd_M_fillHoles_151 hl (k := 5) rfl (np_inc _ _) (by decide) rfl (fun ls hl => ?_)
  refine lv_goto (tgt := 30) C.x C.b dd_M_fillHoles_154 (by decide) ?_
  exact h30 _ _ _ _ _ _ _ _ _ hf hat (lv_sub hl [2, 3, 4, 1, 5, 0] rfl)
set_option maxHeartbeats 4000000 in
set_option maxRecDepth 100000 in
theorem w_f_M_fillHoles_122 (C : np_Cx gA p R s m args c D np_cl (np_ty cA) A np_al "NotationParseModel" prog_9_method_33_code 8 { frames := 1, cells := 0, slots := 0, locals := 25 }) (hQ : ∀ (pc : Nat) (ls : Array Slot) (H : Heap) (locs : List Loc) {σ : np_S}, decode prog_9_method_33_code pc = .ok (.return_, 1) → some ((0 : Int), σ) = some out → np_At D np_cl A (nc_wd q cA) s σ H locs → W p l e R s m args below meth c H locs 0 0 Q (F0 m pc ls [])) {k30 : (Int → Int → Int → Int → Int → np_S → Option np_O)} (h30 : ∀ (x1 x2 x3 x4 x5 : Int) (σ : np_S) (H : Heap) (locs : List Loc) (ls : Array Slot), k30 x1 x2 x3 x4 x5 σ = some out → np_At D np_cl A (nc_wd q cA) s σ H locs → lv_has ls 8 [(0, .ref (q 29)), (1, .int (np_i x1)), (2, .int (np_i x2)), (3, .int (np_i x3)), (4, .int (np_i x4)), (5, .int (np_i x5))] → W p l e R s m args below meth c H locs 0 0 Q (F0 m 30 ls [])) : ∀ (x1 x2 x3 x4 x5 x6 x7 : Int) (σ : np_S) (H : Heap) (locs : List Loc) (ls : Array Slot), f_M_fillHoles_122 k30 x1 x2 x3 x4 x5 x6 x7 σ = some out → np_At D np_cl A (nc_wd q cA) s σ H locs → lv_has ls 8 [(0, .ref (q 29)), (1, .int (np_i x1)), (2, .int (np_i x2)), (3, .int (np_i x3)), (4, .int (np_i x4)), (5, .int (np_i x5)), (6, .int (np_i x6)), (7, .int (np_i x7))] → W p l e R s m args below meth c H locs 0 0 Q (F0 m 122 ls []) := by
  intro x1 x2 x3 x4 x5 x6 x7 σ H locs ls hf hat hl
  unfold f_M_fillHoles_122 at hf
  refine lv_aload_n C.x C.b dd_M_fillHoles_122 rfl (lv_at hl 0 rfl) ?_
  refine np_get (v := .ref (q 30)) C i_M hat.1 29 (nc_o29 _) rfl 3 (by decide) tw_926 rfl rfl dd_M_fillHoles_123 ?_
  refine lv_iload C.x C.b dd_M_fillHoles_126 (lv_at hl 6 rfl) ?_
  refine np_iaload C hat.1 30 (nc_a30 _) 0 rfl (by decide) dd_M_fillHoles_128 hf (fun hf => ?_)
  refine lv_iconst (v := np_i (-1)) C.x C.b dd_M_fillHoles_129 rfl ?_
  refine np_icmp_eq (tgt := 148) C dd_M_fillHoles_130 (by decide) hf (fun _ hf => ?_) (fun _ hf => ?_)
  · exact w_f_M_fillHoles_148 C hQ h30 _ _ _ _ _ _ _ _ _ hf hat (lv_sub hl [0, 1, 2, 4, 5, 7] rfl)
  · refine lv_aload_n C.x C.b dd_M_fillHoles_133 rfl (lv_at hl 0 rfl) ?_
    refine lv_aload_n C.x C.b dd_M_fillHoles_134 rfl (lv_at hl 0 rfl) ?_
    refine np_get (v := .ref (q 30)) C i_M hat.1 29 (nc_o29 _) rfl 3 (by decide) tw_926 rfl rfl dd_M_fillHoles_135 ?_
    refine lv_iload C.x C.b dd_M_fillHoles_138 (lv_at hl 6 rfl) ?_
    refine np_iaload C hat.1 30 (nc_a30 _) 0 rfl (by decide) dd_M_fillHoles_140 hf (fun hf => ?_)
    refine lv_iload_n C.x C.b dd_M_fillHoles_141 rfl (lv_at hl 3 rfl) ?_
    refine lv_iload C.x C.b dd_M_fillHoles_142 (lv_at hl 7 rfl) ?_
    refine lv_iload_n C.x C.b dd_M_fillHoles_144 rfl (lv_at hl 1 rfl) ?_
    refine np_callVv (As := [.int (np_i (σ 30 x6)), .int (np_i x3), .int (np_i x7), .int (np_i x1)]) (rest := []) C (c_M_later l (σ 30 x6) x3 x7 x1 _) np_allgood tw_1127 tw_1129 tp_41 tw_8 tw_1130 (nA := 4) (by decide +kernel) rfl ⟨rfl, rfl, Nat.le_of_ble_eq_true rfl, Nat.le_of_ble_eq_true rfl⟩ (va_recv C.k hat.1 (ci := 6) (q0 := 29) rfl (nc_o29 _)) hat rfl hl.1 (Nat.le_of_ble_eq_true rfl) dd_M_fillHoles_145 hf (fun o2 H locs hf hat => ?_)
    exact w_f_M_fillHoles_148 C hQ h30 _ _ _ _ _ _ _ _ _ hf hat (lv_sub hl [0, 1, 2, 4, 5, 7] rfl)
set_option maxHeartbeats 4000000 in
set_option maxRecDepth 100000 in
theorem w_f_M_fillHoles_116 (C : np_Cx gA p R s m args c D np_cl (np_ty cA) A np_al "NotationParseModel" prog_9_method_33_code 8 { frames := 1, cells := 0, slots := 0, locals := 25 }) (hQ : ∀ (pc : Nat) (ls : Array Slot) (H : Heap) (locs : List Loc) {σ : np_S}, decode prog_9_method_33_code pc = .ok (.return_, 1) → some ((0 : Int), σ) = some out → np_At D np_cl A (nc_wd q cA) s σ H locs → W p l e R s m args below meth c H locs 0 0 Q (F0 m pc ls [])) {k30 : (Int → Int → Int → Int → Int → np_S → Option np_O)} {k65 : (Int → Int → Int → Int → Int → Int → Int → np_S → Option np_O)} (h30 : ∀ (x1 x2 x3 x4 x5 : Int) (σ : np_S) (H : Heap) (locs : List Loc) (ls : Array Slot), k30 x1 x2 x3 x4 x5 σ = some out → np_At D np_cl A (nc_wd q cA) s σ H locs → lv_has ls 8 [(0, .ref (q 29)), (1, .int (np_i x1)), (2, .int (np_i x2)), (3, .int (np_i x3)), (4, .int (np_i x4)), (5, .int (np_i x5))] → W p l e R s m args below meth c H locs 0 0 Q (F0 m 30 ls [])) (h65 : ∀ (x1 x2 x3 x4 x5 x6 x7 : Int) (σ : np_S) (H : Heap) (locs : List Loc) (ls : Array Slot), k65 x1 x2 x3 x4 x5 x6 x7 σ = some out → np_At D np_cl A (nc_wd q cA) s σ H locs → lv_has ls 8 [(0, .ref (q 29)), (1, .int (np_i x1)), (2, .int (np_i x2)), (3, .int (np_i x3)), (4, .int (np_i x4)), (5, .int (np_i x5)), (6, .int (np_i x6)), (7, .int (np_i x7))] → W p l e R s m args below meth c H locs 0 0 Q (F0 m 65 ls [])) : ∀ (x1 x2 x3 x4 x5 x6 x7 : Int) (σ : np_S) (H : Heap) (locs : List Loc) (ls : Array Slot), f_M_fillHoles_116 k30 k65 x1 x2 x3 x4 x5 x6 x7 σ = some out → np_At D np_cl A (nc_wd q cA) s σ H locs → lv_has ls 8 [(0, .ref (q 29)), (1, .int (np_i x1)), (2, .int (np_i x2)), (3, .int (np_i x3)), (4, .int (np_i x4)), (5, .int (np_i x5)), (6, .int (np_i x6)), (7, .int (np_i x7))] → W p l e R s m args below meth c H locs 0 0 Q (F0 m 116 ls []) := by
  intro x1 x2 x3 x4 x5 x6 x7 σ H locs ls hf hat hl
  unfold f_M_fillHoles_116 at hf
  refine lv_iinc (v := np_i (x7 + 1)) (lv' := [(7, .int (np_i (x7 + 1))), (0, .ref (q 29)), (1, .int (np_i x1)), (2, .int (np_i x2)), (3, .int (np_i x3)), (4, .int (np_i x4)), (5, .int (np_i x5)), (6, .int (np_i x6))]) C.x C.b dd_M_fillHoles_116 hl (k := 7) rfl (np_inc _ _) (by decide) rfl (fun ls hl => ?_)
  refine lv_goto (tgt := 65) C.x C.b dd_M_fillHoles_119 (by decide) ?_
  exact h65 _ _ _ _ _ _ _ _ _ _ _ hf hat (lv_sub hl [1, 2, 3, 4, 5, 6, 7, 0] rfl)
set_option maxHeartbeats 4000000 in
set_option maxRecDepth 100000 in
theorem w_f_M_fillHoles_65 (C : np_Cx gA p R s m args c D np_cl (np_ty cA) A np_al "NotationParseModel" prog_9_method_33_code 8 { frames := 1, cells := 0, slots := 0, locals := 25 }) (hQ : ∀ (pc : Nat) (ls : Array Slot) (H : Heap) (locs : List Loc) {σ : np_S}, decode prog_9_method_33_code pc = .ok (.return_, 1) → some ((0 : Int), σ) = some out → np_At D np_cl A (nc_wd q cA) s σ H locs → W p l e R s m args below meth c H locs 0 0 Q (F0 m pc ls [])) {k30 : (Int → Int → Int → Int → Int → np_S → Option np_O)} (h30 : ∀ (x1 x2 x3 x4 x5 : Int) (σ : np_S) (H : Heap) (locs : List Loc) (ls : Array Slot), k30 x1 x2 x3 x4 x5 σ = some out → np_At D np_cl A (nc_wd q cA) s σ H locs → lv_has ls 8 [(0, .ref (q 29)), (1, .int (np_i x1)), (2, .int (np_i x2)), (3, .int (np_i x3)), (4, .int (np_i x4)), (5, .int (np_i x5))] → W p l e R s m args below meth c H locs 0 0 Q (F0 m 30 ls [])) : ∀ (n : Nat), ∀ (x1 x2 x3 x4 x5 x6 x7 : Int) (σ : np_S) (H : Heap) (locs : List Loc) (ls : Array Slot), f_M_fillHoles_65 k30 n x1 x2 x3 x4 x5 x6 x7 σ = some out → np_At D np_cl A (nc_wd q cA) s σ H locs → lv_has ls 8 [(0, .ref (q 29)), (1, .int (np_i x1)), (2, .int (np_i x2)), (3, .int (np_i x3)), (4, .int (np_i x4)), (5, .int (np_i x5)), (6, .int (np_i x6)), (7, .int (np_i x7))] → W p l e R s m args below meth c H locs 0 0 Q (F0 m 65 ls []) := by
  intro n
  induction n with
  | zero => intro x1 x2 x3 x4 x5 x6 x7 σ H locs ls hf; cases hf
  | succ n ih =>
    intro x1 x2 x3 x4 x5 x6 x7 σ H locs ls hf hat hl
    have h65 := ih
    have hf : f_M_fillHoles_65_b k30 (fun x1 x2 x3 x4 x5 x6 x7 σ => f_M_fillHoles_65 k30 n x1 x2 x3 x4 x5 x6 x7 σ) x1 x2 x3 x4 x5 x6 x7 σ = some out := hf
    unfold f_M_fillHoles_65_b at hf
    refine lv_aload_n C.x C.b dd_M_fillHoles_65 rfl (lv_at hl 0 rfl) ?_
    refine np_get (v := .ref (q 30)) C i_M hat.1 29 (nc_o29 _) rfl 3 (by decide) tw_926 rfl rfl dd_M_fillHoles_66 ?_
    refine lv_iload C.x C.b dd_M_fillHoles_69 (lv_at hl 6 rfl) ?_
    refine np_iaload C hat.1 30 (nc_a30 _) 0 rfl (by decide) dd_M_fillHoles_71 hf (fun hf => ?_)
    refine lv_iconst (v := np_i (-1)) C.x C.b dd_M_fillHoles_72 rfl ?_
    refine np_icmp_eq (tgt := 122) C dd_M_fillHoles_73 (by decide) hf (fun _ hf => ?_) (fun _ hf => ?_)
    · exact w_f_M_fillHoles_122 C hQ h30 _ _ _ _ _ _ _ _ _ _ _ hf hat (lv_sub hl [0, 1, 2, 3, 4, 5, 6, 7] rfl)
    · refine lv_aload_n C.x C.b dd_M_fillHoles_76 rfl (lv_at hl 0 rfl) ?_
      refine np_get (v := .ref (q 37)) C i_M hat.1 29 (nc_o29 _) rfl 14 (by decide) tw_937 rfl rfl dd_M_fillHoles_77 ?_
      refine lv_aload_n C.x C.b dd_M_fillHoles_80 rfl (lv_at hl 0 rfl) ?_
      refine np_get (v := .ref (q 30)) C i_M hat.1 29 (nc_o29 _) rfl 3 (by decide) tw_926 rfl rfl dd_M_fillHoles_81 ?_
      refine lv_iload C.x C.b dd_M_fillHoles_84 (lv_at hl 6 rfl) ?_
      refine np_iaload C hat.1 30 (nc_a30 _) 0 rfl (by decide) dd_M_fillHoles_86 hf (fun hf => ?_)
      refine lv_iload_n C.x C.b dd_M_fillHoles_87 rfl (lv_at hl 3 rfl) ?_
      refine lv_iload C.x C.b dd_M_fillHoles_88 (lv_at hl 7 rfl) ?_
      refine np_callSi (As := [.int (np_i (σ 30 x6)), .int (np_i x3), .int (np_i x7)]) (rest := [.ref (q 37)]) C (c_M_cell l (σ 30 x6) x3 x7 _) np_allgood tw_1079 tw_1080 tw_8 tw_1081 (nA := 3) (by decide +kernel) rfl ⟨rfl, rfl, Nat.le_of_ble_eq_true rfl, Nat.le_of_ble_eq_true rfl⟩ hat rfl hl.1 (Nat.le_of_ble_eq_true rfl) dd_M_fillHoles_90 hf (fun o3 H locs hf hat => ?_)
      refine np_iaload C hat.1 37 (nc_a37 _) 0 rfl (by decide) dd_M_fillHoles_93 hf (fun hf => ?_)
      refine np_if_eq (tgt := 116) C dd_M_fillHoles_94 (by decide) hf (fun _ hf => ?_) (fun _ hf => ?_)
      · exact w_f_M_fillHoles_116 C hQ h30 h65 _ _ _ _ _ _ _ _ _ _ _ hf hat (lv_sub hl [0, 1, 2, 3, 4, 5, 6, 7] rfl)
      · refine lv_aload_n C.x C.b dd_M_fillHoles_97 rfl (lv_at hl 0 rfl) ?_
        refine np_get (v := .ref (q 38)) C i_M hat.1 29 (nc_o29 _) rfl 15 (by decide) tw_938 rfl rfl dd_M_fillHoles_98 ?_
        refine lv_iload C.x C.b dd_M_fillHoles_101 (lv_at hl 6 rfl) ?_
        refine lv_iconst (v := np_i 1) C.x C.b dd_M_fillHoles_103 rfl ?_
        refine np_iadd C dd_M_fillHoles_104 ?_
        refine lv_iload C.x C.b dd_M_fillHoles_105 (lv_at hl 7 rfl) ?_
        refine lv_iload C.x C.b dd_M_fillHoles_107 (lv_at hl 4 rfl) ?_
        refine np_callSi (As := [.int (np_i (x6 + 1)), .int (np_i x7), .int (np_i x4)]) (rest := [.ref (q 38)]) C (c_M_cell l (x6 + 1) x7 x4 _) np_allgood tw_1079 tw_1080 tw_8 tw_1081 (nA := 3) (by decide +kernel) rfl ⟨rfl, rfl, Nat.le_of_ble_eq_true rfl, Nat.le_of_ble_eq_true rfl⟩ hat rfl hl.1 (Nat.le_of_ble_eq_true rfl) dd_M_fillHoles_109 hf (fun o4 H locs hf hat => ?_)
        refine np_iaload C hat.1 38 (nc_a38 _) 0 rfl (by decide) dd_M_fillHoles_112 hf (fun hf => ?_)
        refine np_if_ne (tgt := 122) C dd_M_fillHoles_113 (by decide) hf (fun _ hf => ?_) (fun _ hf => ?_)
        · exact w_f_M_fillHoles_122 C hQ h30 _ _ _ _ _ _ _ _ _ _ _ hf hat (lv_sub hl [0, 1, 2, 3, 4, 5, 6, 7] rfl)
        · exact w_f_M_fillHoles_116 C hQ h30 h65 _ _ _ _ _ _ _ _ _ _ _ hf hat (lv_sub hl [0, 1, 2, 3, 4, 5, 6, 7] rfl)
set_option maxHeartbeats 4000000 in
set_option maxRecDepth 100000 in
theorem w_f_M_fillHoles_30 (C : np_Cx gA p R s m args c D np_cl (np_ty cA) A np_al "NotationParseModel" prog_9_method_33_code 8 { frames := 1, cells := 0, slots := 0, locals := 25 }) (hQ : ∀ (pc : Nat) (ls : Array Slot) (H : Heap) (locs : List Loc) {σ : np_S}, decode prog_9_method_33_code pc = .ok (.return_, 1) → some ((0 : Int), σ) = some out → np_At D np_cl A (nc_wd q cA) s σ H locs → W p l e R s m args below meth c H locs 0 0 Q (F0 m pc ls []))   : ∀ (n : Nat), ∀ (x1 x2 x3 x4 x5 : Int) (σ : np_S) (H : Heap) (locs : List Loc) (ls : Array Slot), f_M_fillHoles_30  n x1 x2 x3 x4 x5 σ = some out → np_At D np_cl A (nc_wd q cA) s σ H locs → lv_has ls 8 [(0, .ref (q 29)), (1, .int (np_i x1)), (2, .int (np_i x2)), (3, .int (np_i x3)), (4, .int (np_i x4)), (5, .int (np_i x5))] → W p l e R s m args below meth c H locs 0 0 Q (F0 m 30 ls []) := by
  intro n
  induction n with
  | zero => intro x1 x2 x3 x4 x5 σ H locs ls hf; cases hf
  | succ n ih =>
    intro x1 x2 x3 x4 x5 σ H locs ls hf hat hl
    have h30 := ih
    have hf : f_M_fillHoles_30_b  (fun x1 x2 x3 x4 x5 σ => f_M_fillHoles_30  n x1 x2 x3 x4 x5 σ) x1 x2 x3 x4 x5 σ = some out := hf
    unfold f_M_fillHoles_30_b at hf
    refine lv_iload C.x C.b dd_M_fillHoles_30 (lv_at hl 5 rfl) ?_
    refine lv_aload_n C.x C.b dd_M_fillHoles_32 rfl (lv_at hl 0 rfl) ?_
    refine np_get (v := .ref (q 32)) C i_M hat.1 29 (nc_o29 _) rfl 5 (by decide) tw_928 rfl rfl dd_M_fillHoles_33 ?_
    refine lv_aload_n C.x C.b dd_M_fillHoles_36 rfl (lv_at hl 0 rfl) ?_
    refine np_get (v := .ref (q 41)) C i_M hat.1 29 (nc_o29 _) rfl 19 (by decide) tw_942 rfl rfl dd_M_fillHoles_37 ?_
    refine lv_iload_n C.x C.b dd_M_fillHoles_40 rfl (lv_at hl 1 rfl) ?_
    refine np_iaload C hat.1 41 (nc_a41 _) 0 rfl (by decide) dd_M_fillHoles_41 hf (fun hf => ?_)
    refine np_iaload C hat.1 32 (nc_a32 _) 0 rfl (by decide) dd_M_fillHoles_42 hf (fun hf => ?_)
    refine np_icmp_ge (tgt := 157) C dd_M_fillHoles_43 (by decide) hf (fun _ hf => ?_) (fun _ hf => ?_)
    · refine lv_iload_n C.x C.b dd_M_fillHoles_157 rfl (lv_at hl 2 rfl) ?_
      refine lv_istore (lv' := [(5, .int (np_i x2)), (0, .ref (q 29)), (1, .int (np_i x1)), (2, .int (np_i x2)), (3, .int (np_i x3)), (4, .int (np_i x4))]) C.x C.b dd_M_fillHoles_158 hl (by decide) rfl (fun ls hl => ?_)
      refine lv_aload_n C.x C.b dd_M_fillHoles_160 rfl (lv_at hl 1 rfl) ?_
      refine np_get (v := .int (np_i (σ 29 27))) C i_M hat.1 29 (nc_o29 _) rfl 27 (by decide) tw_950 rfl rfl dd_M_fillHoles_161 ?_
      refine lv_iconst (v := np_i 1) C.x C.b dd_M_fillHoles_164 rfl ?_
      refine np_isub C dd_M_fillHoles_165 ?_
      refine lv_istore (lv' := [(6, .int (np_i ((σ 29 27) - 1))), (5, .int (np_i x2)), (0, .ref (q 29)), (1, .int (np_i x1)), (2, .int (np_i x2)), (3, .int (np_i x3)), (4, .int (np_i x4))]) C.x C.b dd_M_fillHoles_166 hl (by decide) rfl (fun ls hl => ?_)
      exact w_f_M_fillHoles_168 C hQ  20000 _ _ _ _ _ _ hf hat (lv_sub hl [2, 1, 0] rfl)
    · refine lv_bipush (v := np_i 7) C.x C.b dd_M_fillHoles_46 (by decide +kernel) ?_
      refine lv_aload_n C.x C.b dd_M_fillHoles_48 rfl (lv_at hl 0 rfl) ?_
      refine np_get (v := .ref (q 41)) C i_M hat.1 29 (nc_o29 _) rfl 19 (by decide) tw_942 rfl rfl dd_M_fillHoles_49 ?_
      refine lv_iload_n C.x C.b dd_M_fillHoles_52 rfl (lv_at hl 1 rfl) ?_
      refine np_iaload C hat.1 41 (nc_a41 _) 0 rfl (by decide) dd_M_fillHoles_53 hf (fun hf => ?_)
      refine np_imul C dd_M_fillHoles_54 ?_
      refine lv_iload C.x C.b dd_M_fillHoles_55 (lv_at hl 5 rfl) ?_
      refine np_iadd C dd_M_fillHoles_57 ?_
      refine lv_istore (lv' := [(6, .int (np_i ((7 * (σ 41 x1)) + x5))), (0, .ref (q 29)), (1, .int (np_i x1)), (2, .int (np_i x2)), (3, .int (np_i x3)), (4, .int (np_i x4)), (5, .int (np_i x5))]) C.x C.b dd_M_fillHoles_58 hl (by decide) rfl (fun ls hl => ?_)
      refine lv_iload_n C.x C.b dd_M_fillHoles_60 rfl (lv_at hl 4 rfl) ?_
      refine lv_iconst (v := np_i 1) C.x C.b dd_M_fillHoles_61 rfl ?_
      refine np_iadd C dd_M_fillHoles_62 ?_
      refine lv_istore (lv' := [(7, .int (np_i (x3 + 1))), (6, .int (np_i ((7 * (σ 41 x1)) + x5))), (0, .ref (q 29)), (1, .int (np_i x1)), (2, .int (np_i x2)), (3, .int (np_i x3)), (4, .int (np_i x4)), (5, .int (np_i x5))]) C.x C.b dd_M_fillHoles_63 hl (by decide) rfl (fun ls hl => ?_)
      exact w_f_M_fillHoles_65 C hQ h30 20000 _ _ _ _ _ _ _ _ _ _ _ hf hat (lv_sub hl [2, 3, 4, 5, 6, 7, 1, 0] rfl)
set_option maxHeartbeats 4000000 in
set_option maxRecDepth 100000 in
theorem w_f_M_fillHoles (C : np_Cx gA p R s m args c D np_cl (np_ty cA) A np_al "NotationParseModel" prog_9_method_33_code 8 { frames := 1, cells := 0, slots := 0, locals := 25 }) (hQ : ∀ (pc : Nat) (ls : Array Slot) (H : Heap) (locs : List Loc) {σ : np_S}, decode prog_9_method_33_code pc = .ok (.return_, 1) → some ((0 : Int), σ) = some out → np_At D np_cl A (nc_wd q cA) s σ H locs → W p l e R s m args below meth c H locs 0 0 Q (F0 m pc ls []))   : ∀ (x1 : Int) (σ : np_S) (H : Heap) (locs : List Loc) (ls : Array Slot), f_M_fillHoles  x1 σ = some out → np_At D np_cl A (nc_wd q cA) s σ H locs → lv_has ls 8 [(0, .ref (q 29)), (1, .int (np_i x1))] → W p l e R s m args below meth c H locs 0 0 Q (F0 m 0 ls []) := by
  intro x1 σ H locs ls hf hat hl
  unfold f_M_fillHoles at hf
  refine lv_aload_n C.x C.b dd_M_fillHoles_0 rfl (lv_at hl 0 rfl) ?_
  refine np_get (v := .int (np_i (σ 29 27))) C i_M hat.1 29 (nc_o29 _) rfl 27 (by decide) tw_950 rfl rfl dd_M_fillHoles_1 ?_
  refine lv_istore_n (lv' := [(2, .int (np_i (σ 29 27))), (0, .ref (q 29)), (1, .int (np_i x1))]) C.x C.b dd_M_fillHoles_4 rfl hl (by decide) rfl (fun ls hl => ?_)
  refine lv_aload_n C.x C.b dd_M_fillHoles_5 rfl (lv_at hl 1 rfl) ?_
  refine np_get (v := .ref (q 42)) C i_M hat.1 29 (nc_o29 _) rfl 20 (by decide) tw_943 rfl rfl dd_M_fillHoles_6 ?_
  refine lv_iload_n C.x C.b dd_M_fillHoles_9 rfl (lv_at hl 2 rfl) ?_
  refine np_iaload C hat.1 42 (nc_a42 _) 0 rfl (by decide) dd_M_fillHoles_10 hf (fun hf => ?_)
  refine lv_istore_n (lv' := [(3, .int (np_i (σ 42 x1))), (2, .int (np_i (σ 29 27))), (0, .ref (q 29)), (1, .int (np_i x1))]) C.x C.b dd_M_fillHoles_11 rfl hl (by decide) rfl (fun ls hl => ?_)
  refine lv_aload_n C.x C.b dd_M_fillHoles_12 rfl (lv_at hl 2 rfl) ?_
  refine np_get (v := .ref (q 42)) C i_M hat.1 29 (nc_o29 _) rfl 20 (by decide) tw_943 rfl rfl dd_M_fillHoles_13 ?_
  refine lv_iload_n C.x C.b dd_M_fillHoles_16 rfl (lv_at hl 3 rfl) ?_
  refine np_iaload C hat.1 42 (nc_a42 _) 0 rfl (by decide) dd_M_fillHoles_17 hf (fun hf => ?_)
  refine lv_aload_n C.x C.b dd_M_fillHoles_18 rfl (lv_at hl 2 rfl) ?_
  refine np_get (v := .ref (q 43)) C i_M hat.1 29 (nc_o29 _) rfl 21 (by decide) tw_944 rfl rfl dd_M_fillHoles_19 ?_
  refine lv_iload_n C.x C.b dd_M_fillHoles_22 rfl (lv_at hl 3 rfl) ?_
  refine np_iaload C hat.1 43 (nc_a43 _) 0 rfl (by decide) dd_M_fillHoles_23 hf (fun hf => ?_)
  refine np_iadd C dd_M_fillHoles_24 ?_
  refine lv_istore (lv' := [(4, .int (np_i ((σ 42 x1) + (σ 43 x1)))), (3, .int (np_i (σ 42 x1))), (2, .int (np_i (σ 29 27))), (0, .ref (q 29)), (1, .int (np_i x1))]) C.x C.b dd_M_fillHoles_25 hl (by decide) rfl (fun ls hl => ?_)
  refine lv_iconst (v := np_i 0) C.x C.b dd_M_fillHoles_27 rfl ?_
  refine lv_istore (lv' := [(5, .int (np_i 0)), (4, .int (np_i ((σ 42 x1) + (σ 43 x1)))), (3, .int (np_i (σ 42 x1))), (2, .int (np_i (σ 29 27))), (0, .ref (q 29)), (1, .int (np_i x1))]) C.x C.b dd_M_fillHoles_28 hl (by decide) rfl (fun ls hl => ?_)
  exact w_f_M_fillHoles_30 C hQ  20000 _ _ _ _ _ _ _ _ _ hf hat (lv_sub hl [4, 5, 3, 2, 1, 0] rfl)
set_option maxHeartbeats 4000000 in
set_option maxRecDepth 100000 in
theorem c_M_fillHoles (l : Launch) {gA : Nat → Nat} {D : va_G} {q : Nat → Nat} {cA : Nat → ClassId} (x1 : Int) (σ : np_S) : np_Mv gA l D np_cl (np_ty cA) (nc_wd q cA) yy_M_fillHoles (.code yy_M_fillHoles prog_9_method_33_code 8 none :: np_al) { frames := 1, cells := 0, slots := 0, locals := 25 } [.ref (q 29), .int (np_i x1)] σ (f_M_fillHoles x1 σ) :=
  np_mkv (by decide +kernel) (Nat.le_of_ble_eq_true rfl) (fun o p e R s m args below meth c Q A ls hf C hQ hat hl => w_f_M_fillHoles C hQ x1 σ _ _ _ hf hat (lv_sub hl [0, 1] rfl))
end NW8
