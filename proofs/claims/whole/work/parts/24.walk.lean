section NW4
variable {p : Program} {l : Launch} {e : Env} {R : Room} {s : State} {m : MethodId} {args : Array Value} {below : List Frame} {meth : Method} {c : Code} {Q : State → Prop} {D : va_G} {A : Nat → Prop} {q : Nat → Nat} {cA : Nat → ClassId} {out : np_O} {gA : Nat → Nat}
set_option maxHeartbeats 4000000 in
set_option maxRecDepth 100000 in
theorem w_f_Chart_countTrees_52 (C : np_Cx gA p R s m args c D np_cl (np_ty cA) A np_al "NotationParse$Chart" prog_2_method_13_code 3 { frames := 4, cells := 0, slots := 0, locals := 101 }) (hQ : ∀ (pc : Nat) (ls : Array Slot) (H : Heap) (locs : List Loc) (v : Int) {σ : np_S}, decode prog_2_method_13_code pc = .ok (.ireturn, 1) → some (v, σ) = some out → np_At D np_cl A (nc_wd q cA) s σ H locs → W p l e R s m args below meth c H locs 0 0 Q (F0 m pc ls [.int (np_i v)]))   : ∀ (t0 : Int) (σ : np_S) (H : Heap) (locs : List Loc) (ls : Array Slot), f_Chart_countTrees_52  t0 σ = some out → np_At D np_cl A (nc_wd q cA) s σ H locs → lv_has ls 3 [] → W p l e R s m args below meth c H locs 0 0 Q (F0 m 52 ls [.int (np_i t0)]) := by
  intro t0 σ H locs ls hf hat hl
  unfold f_Chart_countTrees_52 at hf
  exact hQ _ _ _ _ _ dd_Chart_countTrees_52 hf hat
set_option maxHeartbeats 4000000 in
set_option maxRecDepth 100000 in
theorem w_f_Chart_countTrees_25 (C : np_Cx gA p R s m args c D np_cl (np_ty cA) A np_al "NotationParse$Chart" prog_2_method_13_code 3 { frames := 4, cells := 0, slots := 0, locals := 101 }) (hQ : ∀ (pc : Nat) (ls : Array Slot) (H : Heap) (locs : List Loc) (v : Int) {σ : np_S}, decode prog_2_method_13_code pc = .ok (.ireturn, 1) → some (v, σ) = some out → np_At D np_cl A (nc_wd q cA) s σ H locs → W p l e R s m args below meth c H locs 0 0 Q (F0 m pc ls [.int (np_i v)])) {k4 : (Int → Int → np_S → Option np_O)} (h4 : ∀ (x1 x2 : Int) (σ : np_S) (H : Heap) (locs : List Loc) (ls : Array Slot), k4 x1 x2 σ = some out → np_At D np_cl A (nc_wd q cA) s σ H locs → lv_has ls 3 [(0, .ref (q 11)), (1, .int (np_i x1)), (2, .int (np_i x2))] → W p l e R s m args below meth c H locs 0 0 Q (F0 m 4 ls [])) : ∀ (x1 x2 : Int) (σ : np_S) (H : Heap) (locs : List Loc) (ls : Array Slot), f_Chart_countTrees_25 k4 x1 x2 σ = some out → np_At D np_cl A (nc_wd q cA) s σ H locs → lv_has ls 3 [(0, .ref (q 11)), (1, .int (np_i x1)), (2, .int (np_i x2))] → W p l e R s m args below meth c H locs 0 0 Q (F0 m 25 ls []) := by
  intro x1 x2 σ H locs ls hf hat hl
  unfold f_Chart_countTrees_25 at hf
  refine lv_iinc (v := np_i (x2 + (-1))) (lv' := [(2, .int (np_i (x2 + (-1)))), (0, .ref (q 11)), (1, .int (np_i x1))]) C.x C.b dd_Chart_countTrees_25 hl (k := 2) rfl (np_inc _ _) (by decide) rfl (fun ls hl => ?_)
  refine lv_goto (tgt := 4) C.x C.b dd_Chart_countTrees_28 (by decide) ?_
  exact h4 _ _ _ _ _ _ hf hat (lv_sub hl [1, 2, 0] rfl)
set_option maxHeartbeats 4000000 in
set_option maxRecDepth 100000 in
theorem w_f_Chart_countTrees_4 (C : np_Cx gA p R s m args c D np_cl (np_ty cA) A np_al "NotationParse$Chart" prog_2_method_13_code 3 { frames := 4, cells := 0, slots := 0, locals := 101 }) (hQ : ∀ (pc : Nat) (ls : Array Slot) (H : Heap) (locs : List Loc) (v : Int) {σ : np_S}, decode prog_2_method_13_code pc = .ok (.ireturn, 1) → some (v, σ) = some out → np_At D np_cl A (nc_wd q cA) s σ H locs → W p l e R s m args below meth c H locs 0 0 Q (F0 m pc ls [.int (np_i v)]))   : ∀ (n : Nat), ∀ (x1 x2 : Int) (σ : np_S) (H : Heap) (locs : List Loc) (ls : Array Slot), f_Chart_countTrees_4  n x1 x2 σ = some out → np_At D np_cl A (nc_wd q cA) s σ H locs → lv_has ls 3 [(0, .ref (q 11)), (1, .int (np_i x1)), (2, .int (np_i x2))] → W p l e R s m args below meth c H locs 0 0 Q (F0 m 4 ls []) := by
  intro n
  induction n with
  | zero => intro x1 x2 σ H locs ls hf; cases hf
  | succ n ih =>
    intro x1 x2 σ H locs ls hf hat hl
    have h4 := ih
    have hf : f_Chart_countTrees_4_b  (fun x1 x2 σ => f_Chart_countTrees_4  n x1 x2 σ) x1 x2 σ = some out := hf
    unfold f_Chart_countTrees_4_b at hf
    refine lv_iload_n C.x C.b dd_Chart_countTrees_4 rfl (lv_at hl 2 rfl) ?_
    refine np_if_lt (tgt := 31) C dd_Chart_countTrees_5 (by decide) hf (fun _ hf => ?_) (fun _ hf => ?_)
    · refine lv_iload_n C.x C.b dd_Chart_countTrees_31 rfl (lv_at hl 1 rfl) ?_
      refine lv_iconst (v := np_i 1) C.x C.b dd_Chart_countTrees_32 rfl ?_
      refine np_icmp_ge (tgt := 40) C dd_Chart_countTrees_33 (by decide) hf (fun _ hf => ?_) (fun _ hf => ?_)
      · refine lv_aload_n C.x C.b dd_Chart_countTrees_40 rfl (lv_at hl 0 rfl) ?_
        refine np_get (v := .ref (q 14)) C i_Chart hat.1 11 (nc_o11 _) rfl 3 (by decide) tw_124 rfl rfl dd_Chart_countTrees_41 ?_
        refine lv_aload_n C.x C.b dd_Chart_countTrees_44 rfl (lv_at hl 0 rfl) ?_
        refine lv_iconst (v := np_i 0) C.x C.b dd_Chart_countTrees_45 rfl ?_
        refine lv_iload_n C.x C.b dd_Chart_countTrees_46 rfl (lv_at hl 1 rfl) ?_
        refine lv_iconst (v := np_i 0) C.x C.b dd_Chart_countTrees_47 rfl ?_
        refine np_callVi (As := [.int (np_i 0), .int (np_i x1), .int (np_i 0)]) (rest := [.ref (q 14)]) C (c_Chart_cell l 0 x1 0 _) np_allgood tw_816 tw_818 tp_18 tw_5 tw_819 (nA := 3) (by decide +kernel) rfl ⟨rfl, rfl, Nat.le_of_ble_eq_true rfl, Nat.le_of_ble_eq_true rfl⟩ (va_recv C.k hat.1 (ci := 3) (q0 := 11) rfl (nc_o11 _)) hat rfl hl.1 (Nat.le_of_ble_eq_true rfl) dd_Chart_countTrees_48 hf (fun o1 H locs hf hat => ?_)
        refine np_iaload C hat.1 14 (nc_a14 _) 0 rfl (by decide) dd_Chart_countTrees_51 hf (fun hf => ?_)
        exact w_f_Chart_countTrees_52 C hQ  _ _ _ _ _ hf hat (lv_sub hl [] rfl)
      · refine lv_iconst (v := np_i 0) C.x C.b dd_Chart_countTrees_36 rfl ?_
        refine lv_goto (tgt := 52) C.x C.b dd_Chart_countTrees_37 (by decide) ?_
        exact w_f_Chart_countTrees_52 C hQ  _ _ _ _ _ hf hat (lv_sub hl [] rfl)
    · refine lv_aload_n C.x C.b dd_Chart_countTrees_8 rfl (lv_at hl 0 rfl) ?_
      refine lv_iload_n C.x C.b dd_Chart_countTrees_9 rfl (lv_at hl 2 rfl) ?_
      refine lv_iload_n C.x C.b dd_Chart_countTrees_10 rfl (lv_at hl 2 rfl) ?_
      refine lv_bipush (v := np_i 7) C.x C.b dd_Chart_countTrees_11 (by decide +kernel) ?_
      refine np_callVi (As := [.int (np_i x2), .int (np_i x2), .int (np_i 7)]) (rest := []) C (c_Chart_isReached l x2 x2 7 _) np_allgood tw_779 tw_781 tp_11 tw_5 tw_782 (nA := 3) (by decide +kernel) rfl ⟨rfl, rfl, Nat.le_of_ble_eq_true rfl, Nat.le_of_ble_eq_true rfl⟩ (va_recv C.k hat.1 (ci := 3) (q0 := 11) rfl (nc_o11 _)) hat rfl hl.1 (Nat.le_of_ble_eq_true rfl) dd_Chart_countTrees_13 hf (fun o2 H locs hf hat => ?_)
      refine np_if_eq (tgt := 25) C dd_Chart_countTrees_16 (by decide) hf (fun _ hf => ?_) (fun _ hf => ?_)
      · exact w_f_Chart_countTrees_25 C hQ h4 _ _ _ _ _ _ hf hat (lv_sub hl [0, 1, 2] rfl)
      · refine lv_aload_n C.x C.b dd_Chart_countTrees_19 rfl (lv_at hl 0 rfl) ?_
        refine lv_iload_n C.x C.b dd_Chart_countTrees_20 rfl (lv_at hl 2 rfl) ?_
        refine lv_iload_n C.x C.b dd_Chart_countTrees_21 rfl (lv_at hl 1 rfl) ?_
        refine np_callVv (As := [.int (np_i x2), .int (np_i x1)]) (rest := []) C (c_Chart_countFrom l x2 x1 _) np_allgood tw_804 tw_806 tp_15 tw_5 tw_807 (nA := 2) (by decide +kernel) rfl ⟨rfl, rfl, Nat.le_of_ble_eq_true rfl, Nat.le_of_ble_eq_true rfl⟩ (va_recv C.k hat.1 (ci := 3) (q0 := 11) rfl (nc_o11 _)) hat rfl hl.1 (Nat.le_of_ble_eq_true rfl) dd_Chart_countTrees_22 hf (fun o3 H locs hf hat => ?_)
        exact w_f_Chart_countTrees_25 C hQ h4 _ _ _ _ _ _ hf hat (lv_sub hl [0, 1, 2] rfl)
set_option maxHeartbeats 4000000 in
set_option maxRecDepth 100000 in
theorem w_f_Chart_countTrees (C : np_Cx gA p R s m args c D np_cl (np_ty cA) A np_al "NotationParse$Chart" prog_2_method_13_code 3 { frames := 4, cells := 0, slots := 0, locals := 101 }) (hQ : ∀ (pc : Nat) (ls : Array Slot) (H : Heap) (locs : List Loc) (v : Int) {σ : np_S}, decode prog_2_method_13_code pc = .ok (.ireturn, 1) → some (v, σ) = some out → np_At D np_cl A (nc_wd q cA) s σ H locs → W p l e R s m args below meth c H locs 0 0 Q (F0 m pc ls [.int (np_i v)]))   : ∀ (x1 : Int) (σ : np_S) (H : Heap) (locs : List Loc) (ls : Array Slot), f_Chart_countTrees  x1 σ = some out → np_At D np_cl A (nc_wd q cA) s σ H locs → lv_has ls 3 [(0, .ref (q 11)), (1, .int (np_i x1))] → W p l e R s m args below meth c H locs 0 0 Q (F0 m 0 ls []) := by
  intro x1 σ H locs ls hf hat hl
  unfold f_Chart_countTrees at hf
  refine lv_iload_n C.x C.b dd_Chart_countTrees_0 rfl (lv_at hl 1 rfl) ?_
  refine lv_iconst (v := np_i 1) C.x C.b dd_Chart_countTrees_1 rfl ?_
  refine np_isub C dd_Chart_countTrees_2 ?_
  refine lv_istore_n (lv' := [(2, .int (np_i (x1 - 1))), (0, .ref (q 11)), (1, .int (np_i x1))]) C.x C.b dd_Chart_countTrees_3 rfl hl (by decide) rfl (fun ls hl => ?_)
  exact w_f_Chart_countTrees_4 C hQ  20000 _ _ _ _ _ _ hf hat (lv_sub hl [1, 2, 0] rfl)
set_option maxHeartbeats 4000000 in
set_option maxRecDepth 100000 in
theorem c_Chart_countTrees (l : Launch) {gA : Nat → Nat} {D : va_G} {q : Nat → Nat} {cA : Nat → ClassId} (x1 : Int) (σ : np_S) : np_Mi gA l D np_cl (np_ty cA) (nc_wd q cA) yy_Chart_countTrees (.code yy_Chart_countTrees prog_2_method_13_code 3 (some .int) :: np_al) { frames := 4, cells := 0, slots := 0, locals := 101 } [.ref (q 11), .int (np_i x1)] σ (f_Chart_countTrees x1 σ) :=
  np_mki (by decide +kernel) (Nat.le_of_ble_eq_true rfl) (fun o p e R s m args below meth c Q A ls hf C hQ hat hl => w_f_Chart_countTrees C hQ x1 σ _ _ _ hf hat (lv_sub hl [0, 1] rfl))
set_option maxHeartbeats 4000000 in
set_option maxRecDepth 100000 in
theorem w_f_Chart_onlyRule_51 (C : np_Cx gA p R s m args c D np_cl (np_ty cA) A np_al "NotationParse$Chart" prog_2_method_21_code 5 { frames := 1, cells := 0, slots := 0, locals := 23 }) (hQ : ∀ (pc : Nat) (ls : Array Slot) (H : Heap) (locs : List Loc) (v : Int) {σ : np_S}, decode prog_2_method_21_code pc = .ok (.ireturn, 1) → some (v, σ) = some out → np_At D np_cl A (nc_wd q cA) s σ H locs → W p l e R s m args below meth c H locs 0 0 Q (F0 m pc ls [.int (np_i v)])) {k11 : (Int → Int → Int → Int → np_S → Option np_O)} (h11 : ∀ (x1 x2 x3 x4 : Int) (σ : np_S) (H : Heap) (locs : List Loc) (ls : Array Slot), k11 x1 x2 x3 x4 σ = some out → np_At D np_cl A (nc_wd q cA) s σ H locs → lv_has ls 5 [(0, .ref (q 11)), (1, .int (np_i x1)), (2, .int (np_i x2)), (3, .int (np_i x3)), (4, .int (np_i x4))] → W p l e R s m args below meth c H locs 0 0 Q (F0 m 11 ls [])) : ∀ (x1 x2 x3 x4 : Int) (σ : np_S) (H : Heap) (locs : List Loc) (ls : Array Slot), f_Chart_onlyRule_51 k11 x1 x2 x3 x4 σ = some out → np_At D np_cl A (nc_wd q cA) s σ H locs → lv_has ls 5 [(0, .ref (q 11)), (1, .int (np_i x1)), (2, .int (np_i x2)), (3, .int (np_i x3)), (4, .int (np_i x4))] → W p l e R s m args below meth c H locs 0 0 Q (F0 m 51 ls []) := by
  intro x1 x2 x3 x4 σ H locs ls hf hat hl
  unfold f_Chart_onlyRule_51 at hf
  refine lv_iinc (v := np_i (x4 + (-1))) (lv' := [(4, .int (np_i (x4 + (-1)))), (0, .ref (q 11)), (1, .int (np_i x1)), (2, .int (np_i x2)), (3, .int (np_i x3))]) C.x C.b dd_Chart_onlyRule_51 hl (k := 4) rfl (np_inc _ _) (by decide) rfl (fun ls hl => ?_)
  refine lv_goto (tgt := 11) C.x C.b dd_Chart_onlyRule_54 (by decide) ?_
  exact h11 _ _ _ _ _ _ _ _ hf hat (lv_sub hl [1, 2, 3, 4, 0] rfl)
set_option maxHeartbeats 4000000 in
set_option maxRecDepth 100000 in
theorem w_f_Chart_onlyRule_11 (C : np_Cx gA p R s m args c D np_cl (np_ty cA) A np_al "NotationParse$Chart" prog_2_method_21_code 5 { frames := 1, cells := 0, slots := 0, locals := 23 }) (hQ : ∀ (pc : Nat) (ls : Array Slot) (H : Heap) (locs : List Loc) (v : Int) {σ : np_S}, decode prog_2_method_21_code pc = .ok (.ireturn, 1) → some (v, σ) = some out → np_At D np_cl A (nc_wd q cA) s σ H locs → W p l e R s m args below meth c H locs 0 0 Q (F0 m pc ls [.int (np_i v)]))   : ∀ (n : Nat), ∀ (x1 x2 x3 x4 : Int) (σ : np_S) (H : Heap) (locs : List Loc) (ls : Array Slot), f_Chart_onlyRule_11  n x1 x2 x3 x4 σ = some out → np_At D np_cl A (nc_wd q cA) s σ H locs → lv_has ls 5 [(0, .ref (q 11)), (1, .int (np_i x1)), (2, .int (np_i x2)), (3, .int (np_i x3)), (4, .int (np_i x4))] → W p l e R s m args below meth c H locs 0 0 Q (F0 m 11 ls []) := by
  intro n
  induction n with
  | zero => intro x1 x2 x3 x4 σ H locs ls hf; cases hf
  | succ n ih =>
    intro x1 x2 x3 x4 σ H locs ls hf hat hl
    have h11 := ih
    have hf : f_Chart_onlyRule_11_b  (fun x1 x2 x3 x4 σ => f_Chart_onlyRule_11  n x1 x2 x3 x4 σ) x1 x2 x3 x4 σ = some out := hf
    unfold f_Chart_onlyRule_11_b at hf
    refine lv_iload C.x C.b dd_Chart_onlyRule_11 (lv_at hl 4 rfl) ?_
    refine np_if_le (tgt := 57) C dd_Chart_onlyRule_13 (by decide) hf (fun _ hf => ?_) (fun _ hf => ?_)
    · refine lv_iconst (v := np_i 0) C.x C.b dd_Chart_onlyRule_57 rfl ?_
      exact hQ _ _ _ _ _ dd_Chart_onlyRule_58 hf hat
    · refine lv_aload_n C.x C.b dd_Chart_onlyRule_16 rfl (lv_at hl 0 rfl) ?_
      refine np_get (v := .ref (q 1)) C i_Chart hat.1 11 (nc_o11 _) rfl 0 (by decide) tw_121 rfl rfl dd_Chart_onlyRule_17 ?_
      refine np_get (v := .ref (q 4)) C i_Grammar hat.1 1 (nc_o1 _) rfl 2 (by decide) tw_56 rfl rfl dd_Chart_onlyRule_20 ?_
      refine lv_iload C.x C.b dd_Chart_onlyRule_23 (lv_at hl 4 rfl) ?_
      refine np_iaload C hat.1 4 (nc_a4 _) 0 rfl (by decide) dd_Chart_onlyRule_25 hf (fun hf => ?_)
      refine lv_iload_n C.x C.b dd_Chart_onlyRule_26 rfl (lv_at hl 3 rfl) ?_
      refine np_icmp_lt (tgt := 51) C dd_Chart_onlyRule_27 (by decide) hf (fun _ hf => ?_) (fun _ hf => ?_)
      · exact w_f_Chart_onlyRule_51 C hQ h11 _ _ _ _ _ _ _ _ hf hat (lv_sub hl [0, 1, 2, 3, 4] rfl)
      · refine lv_aload_n C.x C.b dd_Chart_onlyRule_30 rfl (lv_at hl 0 rfl) ?_
        refine lv_iload_n C.x C.b dd_Chart_onlyRule_31 rfl (lv_at hl 1 rfl) ?_
        refine lv_iload_n C.x C.b dd_Chart_onlyRule_32 rfl (lv_at hl 2 rfl) ?_
        refine lv_aload_n C.x C.b dd_Chart_onlyRule_33 rfl (lv_at hl 0 rfl) ?_
        refine np_get (v := .ref (q 1)) C i_Chart hat.1 11 (nc_o11 _) rfl 0 (by decide) tw_121 rfl rfl dd_Chart_onlyRule_34 ?_
        refine lv_iload C.x C.b dd_Chart_onlyRule_37 (lv_at hl 4 rfl) ?_
        refine np_callVi (As := [.int (np_i x4)]) (rest := [.int (np_i x2), .int (np_i x1), .ref (q 11)]) C (c_Grammar_lastDot l x4 _) np_allgood tw_775 tw_776 tw_777 tw_2 tw_778 (nA := 1) (by decide +kernel) rfl ⟨rfl, rfl, Nat.le_of_ble_eq_true rfl, Nat.le_of_ble_eq_true rfl⟩ (va_recv C.k hat.1 (ci := 1) (q0 := 1) rfl (nc_o1 _)) hat rfl hl.1 (Nat.le_of_ble_eq_true rfl) dd_Chart_onlyRule_39 hf (fun o1 H locs hf hat => ?_)
        refine np_callVi (As := [.int (np_i x1), .int (np_i x2), .int (np_i o1.1)]) (rest := []) C (c_Chart_isReached l x1 x2 o1.1 _) np_allgood tw_779 tw_781 tp_11 tw_5 tw_782 (nA := 3) (by decide +kernel) rfl ⟨rfl, rfl, Nat.le_of_ble_eq_true rfl, Nat.le_of_ble_eq_true rfl⟩ (va_recv C.k hat.1 (ci := 3) (q0 := 11) rfl (nc_o11 _)) hat rfl hl.1 (Nat.le_of_ble_eq_true rfl) dd_Chart_onlyRule_42 hf (fun o2 H locs hf hat => ?_)
        refine np_if_eq (tgt := 51) C dd_Chart_onlyRule_45 (by decide) hf (fun _ hf => ?_) (fun _ hf => ?_)
        · exact w_f_Chart_onlyRule_51 C hQ h11 _ _ _ _ _ _ _ _ hf hat (lv_sub hl [0, 1, 2, 3, 4] rfl)
        · refine lv_iload C.x C.b dd_Chart_onlyRule_48 (lv_at hl 4 rfl) ?_
          exact hQ _ _ _ _ _ dd_Chart_onlyRule_50 hf hat
set_option maxHeartbeats 4000000 in
set_option maxRecDepth 100000 in
theorem w_f_Chart_onlyRule (C : np_Cx gA p R s m args c D np_cl (np_ty cA) A np_al "NotationParse$Chart" prog_2_method_21_code 5 { frames := 1, cells := 0, slots := 0, locals := 23 }) (hQ : ∀ (pc : Nat) (ls : Array Slot) (H : Heap) (locs : List Loc) (v : Int) {σ : np_S}, decode prog_2_method_21_code pc = .ok (.ireturn, 1) → some (v, σ) = some out → np_At D np_cl A (nc_wd q cA) s σ H locs → W p l e R s m args below meth c H locs 0 0 Q (F0 m pc ls [.int (np_i v)]))   : ∀ (x1 x2 x3 : Int) (σ : np_S) (H : Heap) (locs : List Loc) (ls : Array Slot), f_Chart_onlyRule  x1 x2 x3 σ = some out → np_At D np_cl A (nc_wd q cA) s σ H locs → lv_has ls 5 [(0, .ref (q 11)), (1, .int (np_i x1)), (2, .int (np_i x2)), (3, .int (np_i x3))] → W p l e R s m args below meth c H locs 0 0 Q (F0 m 0 ls []) := by
  intro x1 x2 x3 σ H locs ls hf hat hl
  unfold f_Chart_onlyRule at hf
  refine lv_aload_n C.x C.b dd_Chart_onlyRule_0 rfl (lv_at hl 0 rfl) ?_
  refine np_get (v := .ref (q 1)) C i_Chart hat.1 11 (nc_o11 _) rfl 0 (by decide) tw_121 rfl rfl dd_Chart_onlyRule_1 ?_
  refine np_get (v := .int (np_i (σ 1 4))) C i_Grammar hat.1 1 (nc_o1 _) rfl 4 (by decide) tw_61 rfl rfl dd_Chart_onlyRule_4 ?_
  refine lv_iconst (v := np_i 1) C.x C.b dd_Chart_onlyRule_7 rfl ?_
  refine np_isub C dd_Chart_onlyRule_8 ?_
  refine lv_istore (lv' := [(4, .int (np_i ((σ 1 4) - 1))), (0, .ref (q 11)), (1, .int (np_i x1)), (2, .int (np_i x2)), (3, .int (np_i x3))]) C.x C.b dd_Chart_onlyRule_9 hl (by decide) rfl (fun ls hl => ?_)
  exact w_f_Chart_onlyRule_11 C hQ  20000 _ _ _ _ _ _ _ _ hf hat (lv_sub hl [1, 2, 3, 4, 0] rfl)
set_option maxHeartbeats 4000000 in
set_option maxRecDepth 100000 in
theorem c_Chart_onlyRule (l : Launch) {gA : Nat → Nat} {D : va_G} {q : Nat → Nat} {cA : Nat → ClassId} (x1 x2 x3 : Int) (σ : np_S) : np_Mi gA l D np_cl (np_ty cA) (nc_wd q cA) yy_Chart_onlyRule (.code yy_Chart_onlyRule prog_2_method_21_code 5 (some .int) :: np_al) { frames := 1, cells := 0, slots := 0, locals := 23 } [.ref (q 11), .int (np_i x1), .int (np_i x2), .int (np_i x3)] σ (f_Chart_onlyRule x1 x2 x3 σ) :=
  np_mki (by decide +kernel) (Nat.le_of_ble_eq_true rfl) (fun o p e R s m args below meth c Q A ls hf C hQ hat hl => w_f_Chart_onlyRule C hQ x1 x2 x3 σ _ _ _ hf hat (lv_sub hl [0, 1, 2, 3] rfl))
set_option maxHeartbeats 4000000 in
set_option maxRecDepth 100000 in
theorem w_f_Tree_await_60 (C : np_Cx gA p R s m args c D np_cl (np_ty cA) A np_al "NotationParse$Tree" prog_7_method_4_code 5 { frames := 0, cells := 0, slots := 0, locals := 0 }) (hQ : ∀ (pc : Nat) (ls : Array Slot) (H : Heap) (locs : List Loc) {σ : np_S}, decode prog_7_method_4_code pc = .ok (.return_, 1) → some ((0 : Int), σ) = some out → np_At D np_cl A (nc_wd q cA) s σ H locs → W p l e R s m args below meth c H locs 0 0 Q (F0 m pc ls []))   : ∀ (σ : np_S) (H : Heap) (locs : List Loc) (ls : Array Slot), f_Tree_await_60  σ = some out → np_At D np_cl A (nc_wd q cA) s σ H locs → lv_has ls 5 [] → W p l e R s m args below meth c H locs 0 0 Q (F0 m 60 ls []) := by
  intro σ H locs ls hf hat hl
  unfold f_Tree_await_60 at hf
  exact hQ _ _ _ _ dd_Tree_await_60 hf hat
set_option maxHeartbeats 4000000 in
set_option maxRecDepth 100000 in
theorem w_f_Tree_await (C : np_Cx gA p R s m args c D np_cl (np_ty cA) A np_al "NotationParse$Tree" prog_7_method_4_code 5 { frames := 0, cells := 0, slots := 0, locals := 0 }) (hQ : ∀ (pc : Nat) (ls : Array Slot) (H : Heap) (locs : List Loc) {σ : np_S}, decode prog_7_method_4_code pc = .ok (.return_, 1) → some ((0 : Int), σ) = some out → np_At D np_cl A (nc_wd q cA) s σ H locs → W p l e R s m args below meth c H locs 0 0 Q (F0 m pc ls []))   : ∀ (x1 x2 x3 x4 : Int) (σ : np_S) (H : Heap) (locs : List Loc) (ls : Array Slot), f_Tree_await  x1 x2 x3 x4 σ = some out → np_At D np_cl A (nc_wd q cA) s σ H locs → lv_has ls 5 [(0, .ref (q 15)), (1, .int (np_i x1)), (2, .int (np_i x2)), (3, .int (np_i x3)), (4, .int (np_i x4))] → W p l e R s m args below meth c H locs 0 0 Q (F0 m 0 ls []) := by
  intro x1 x2 x3 x4 σ H locs ls hf hat hl
  unfold f_Tree_await at hf
  refine lv_aload_n C.x C.b dd_Tree_await_0 rfl (lv_at hl 0 rfl) ?_
  refine np_get (v := .int (np_i (σ 15 9))) C i_Tree hat.1 15 (nc_o15 _) rfl 9 (by decide) tw_155 rfl rfl dd_Tree_await_1 ?_
  refine lv_bipush (v := np_i 30) C.x C.b dd_Tree_await_4 (by decide +kernel) ?_
  refine np_icmp_ge (tgt := 60) C dd_Tree_await_6 (by decide) hf (fun _ hf => ?_) (fun _ hf => ?_)
  · exact w_f_Tree_await_60 C hQ   _ _ _ _ hf hat (lv_sub hl [] rfl)
  · refine lv_aload_n C.x C.b dd_Tree_await_9 rfl (lv_at hl 0 rfl) ?_
    refine np_get (v := .ref (q 22)) C i_Tree hat.1 15 (nc_o15 _) rfl 10 (by decide) tw_156 rfl rfl dd_Tree_await_10 ?_
    refine lv_aload_n C.x C.b dd_Tree_await_13 rfl (lv_at hl 0 rfl) ?_
    refine np_get (v := .int (np_i (σ 15 9))) C i_Tree hat.1 15 (nc_o15 _) rfl 9 (by decide) tw_155 rfl rfl dd_Tree_await_14 ?_
    refine lv_iload_n C.x C.b dd_Tree_await_17 rfl (lv_at hl 1 rfl) ?_
    refine np_iastore C hat 22 (nc_a22 _) 0 rfl (by decide) (nc_s22 _ _ _) dd_Tree_await_18 hf (fun H locs hat hf => ?_)
    refine lv_aload_n C.x C.b dd_Tree_await_19 rfl (lv_at hl 0 rfl) ?_
    refine np_get (v := .ref (q 23)) C i_Tree hat.1 15 (nc_o15 _) rfl 11 (by decide) tw_157 rfl rfl dd_Tree_await_20 ?_
    refine lv_aload_n C.x C.b dd_Tree_await_23 rfl (lv_at hl 0 rfl) ?_
    refine np_get (v := .int (np_i ((np_st σ 22 (σ 15 9) x1) 15 9))) C i_Tree hat.1 15 (nc_o15 _) rfl 9 (by decide) tw_155 rfl rfl dd_Tree_await_24 ?_
    refine lv_iload_n C.x C.b dd_Tree_await_27 rfl (lv_at hl 2 rfl) ?_
    refine np_iastore C hat 23 (nc_a23 _) 0 rfl (by decide) (nc_s23 _ _ _) dd_Tree_await_28 hf (fun H locs hat hf => ?_)
    refine lv_aload_n C.x C.b dd_Tree_await_29 rfl (lv_at hl 0 rfl) ?_
    refine np_get (v := .ref (q 24)) C i_Tree hat.1 15 (nc_o15 _) rfl 12 (by decide) tw_158 rfl rfl dd_Tree_await_30 ?_
    refine lv_aload_n C.x C.b dd_Tree_await_33 rfl (lv_at hl 0 rfl) ?_
    refine np_get (v := .int (np_i ((np_st (np_st σ 22 (σ 15 9) x1) 23 ((np_st σ 22 (σ 15 9) x1) 15 9) x2) 15 9))) C i_Tree hat.1 15 (nc_o15 _) rfl 9 (by decide) tw_155 rfl rfl dd_Tree_await_34 ?_
    refine lv_iload_n C.x C.b dd_Tree_await_37 rfl (lv_at hl 3 rfl) ?_
    refine np_iastore C hat 24 (nc_a24 _) 0 rfl (by decide) (nc_s24 _ _ _) dd_Tree_await_38 hf (fun H locs hat hf => ?_)
    refine lv_aload_n C.x C.b dd_Tree_await_39 rfl (lv_at hl 0 rfl) ?_
    refine np_get (v := .ref (q 25)) C i_Tree hat.1 15 (nc_o15 _) rfl 13 (by decide) tw_159 rfl rfl dd_Tree_await_40 ?_
    refine lv_aload_n C.x C.b dd_Tree_await_43 rfl (lv_at hl 0 rfl) ?_
    refine np_get (v := .int (np_i ((np_st (np_st (np_st σ 22 (σ 15 9) x1) 23 ((np_st σ 22 (σ 15 9) x1) 15 9) x2) 24 ((np_st (np_st σ 22 (σ 15 9) x1) 23 ((np_st σ 22 (σ 15 9) x1) 15 9) x2) 15 9) x3) 15 9))) C i_Tree hat.1 15 (nc_o15 _) rfl 9 (by decide) tw_155 rfl rfl dd_Tree_await_44 ?_
    refine lv_iload C.x C.b dd_Tree_await_47 (lv_at hl 4 rfl) ?_
    refine np_iastore C hat 25 (nc_a25 _) 0 rfl (by decide) (nc_s25 _ _ _) dd_Tree_await_49 hf (fun H locs hat hf => ?_)
    refine lv_aload_n C.x C.b dd_Tree_await_50 rfl (lv_at hl 0 rfl) ?_
    refine lv_dup C.x C.b dd_Tree_await_51 rfl ?_
    refine np_get (v := .int (np_i ((np_st (np_st (np_st (np_st σ 22 (σ 15 9) x1) 23 ((np_st σ 22 (σ 15 9) x1) 15 9) x2) 24 ((np_st (np_st σ 22 (σ 15 9) x1) 23 ((np_st σ 22 (σ 15 9) x1) 15 9) x2) 15 9) x3) 25 ((np_st (np_st (np_st σ 22 (σ 15 9) x1) 23 ((np_st σ 22 (σ 15 9) x1) 15 9) x2) 24 ((np_st (np_st σ 22 (σ 15 9) x1) 23 ((np_st σ 22 (σ 15 9) x1) 15 9) x2) 15 9) x3) 15 9) x4) 15 9))) C i_Tree hat.1 15 (nc_o15 _) rfl 9 (by decide) tw_155 rfl rfl dd_Tree_await_52 ?_
    refine lv_iconst (v := np_i 1) C.x C.b dd_Tree_await_55 rfl ?_
    refine np_iadd C dd_Tree_await_56 ?_
    refine np_put C i_Tree t_Tree tok_Tree n_Tree hat 15 (nc_o15 _) rfl 9 (by decide) tw_155 rfl rfl (by decide +kernel) (np_narI (((np_st (np_st (np_st (np_st σ 22 (σ 15 9) x1) 23 ((np_st σ 22 (σ 15 9) x1) 15 9) x2) 24 ((np_st (np_st σ 22 (σ 15 9) x1) 23 ((np_st σ 22 (σ 15 9) x1) 15 9) x2) 15 9) x3) 25 ((np_st (np_st (np_st σ 22 (σ 15 9) x1) 23 ((np_st σ 22 (σ 15 9) x1) 15 9) x2) 24 ((np_st (np_st σ 22 (σ 15 9) x1) 23 ((np_st σ 22 (σ 15 9) x1) 15 9) x2) 15 9) x3) 15 9) x4) 15 9) + 1)) (np_fitI (((np_st (np_st (np_st (np_st σ 22 (σ 15 9) x1) 23 ((np_st σ 22 (σ 15 9) x1) 15 9) x2) 24 ((np_st (np_st σ 22 (σ 15 9) x1) 23 ((np_st σ 22 (σ 15 9) x1) 15 9) x2) 15 9) x3) 25 ((np_st (np_st (np_st σ 22 (σ 15 9) x1) 23 ((np_st σ 22 (σ 15 9) x1) 15 9) x2) 24 ((np_st (np_st σ 22 (σ 15 9) x1) 23 ((np_st σ 22 (σ 15 9) x1) 15 9) x2) 15 9) x3) 15 9) x4) 15 9) + 1)) (Nat.le_of_ble_eq_true rfl) (nc_s15_9 _ _) dd_Tree_await_57 (fun H locs hat => ?_)
    exact w_f_Tree_await_60 C hQ   _ _ _ _ hf hat (lv_sub hl [] rfl)
set_option maxHeartbeats 4000000 in
set_option maxRecDepth 100000 in
theorem c_Tree_await (l : Launch) {gA : Nat → Nat} {D : va_G} {q : Nat → Nat} {cA : Nat → ClassId} (x1 x2 x3 x4 : Int) (σ : np_S) : np_Mv gA l D np_cl (np_ty cA) (nc_wd q cA) yy_Tree_await (.code yy_Tree_await prog_7_method_4_code 5 none :: np_al) { frames := 0, cells := 0, slots := 0, locals := 0 } [.ref (q 15), .int (np_i x1), .int (np_i x2), .int (np_i x3), .int (np_i x4)] σ (f_Tree_await x1 x2 x3 x4 σ) :=
  np_mkv (by decide +kernel) (Nat.le_of_ble_eq_true rfl) (fun o p e R s m args below meth c Q A ls hf C hQ hat hl => w_f_Tree_await C hQ x1 x2 x3 x4 σ _ _ _ hf hat (lv_sub hl [0, 1, 2, 3, 4] rfl))
set_option maxHeartbeats 4000000 in
set_option maxRecDepth 100000 in
theorem w_f_Chart_onlySplit_53 (C : np_Cx gA p R s m args c D np_cl (np_ty cA) A np_al "NotationParse$Chart" prog_2_method_22_code 6 { frames := 1, cells := 0, slots := 0, locals := 23 }) (hQ : ∀ (pc : Nat) (ls : Array Slot) (H : Heap) (locs : List Loc) (v : Int) {σ : np_S}, decode prog_2_method_22_code pc = .ok (.ireturn, 1) → some (v, σ) = some out → np_At D np_cl A (nc_wd q cA) s σ H locs → W p l e R s m args below meth c H locs 0 0 Q (F0 m pc ls [.int (np_i v)])) {k16 : (Int → Int → Int → Int → Int → np_S → Option np_O)} (h16 : ∀ (x1 x2 x3 x4 x5 : Int) (σ : np_S) (H : Heap) (locs : List Loc) (ls : Array Slot), k16 x1 x2 x3 x4 x5 σ = some out → np_At D np_cl A (nc_wd q cA) s σ H locs → lv_has ls 6 [(0, .ref (q 11)), (1, .int (np_i x1)), (2, .int (np_i x2)), (3, .int (np_i x3)), (4, .int (np_i x4)), (5, .int (np_i x5))] → W p l e R s m args below meth c H locs 0 0 Q (F0 m 16 ls [])) : ∀ (x1 x2 x3 x4 x5 : Int) (σ : np_S) (H : Heap) (locs : List Loc) (ls : Array Slot), f_Chart_onlySplit_53 k16 x1 x2 x3 x4 x5 σ = some out → np_At D np_cl A (nc_wd q cA) s σ H locs → lv_has ls 6 [(0, .ref (q 11)), (1, .int (np_i x1)), (2, .int (np_i x2)), (3, .int (np_i x3)), (4, .int (np_i x4)), (5, .int (np_i x5))] → W p l e R s m args below meth c H locs 0 0 Q (F0 m 53 ls []) := by
  intro x1 x2 x3 x4 x5 σ H locs ls hf hat hl
  unfold f_Chart_onlySplit_53 at hf
  refine lv_iinc (v := np_i (x5 + (-1))) (lv' := [(5, .int (np_i (x5 + (-1)))), (0, .ref (q 11)), (1, .int (np_i x1)), (2, .int (np_i x2)), (3, .int (np_i x3)), (4, .int (np_i x4))]) C.x C.b dd_Chart_onlySplit_53 hl (k := 5) rfl (np_inc _ _) (by decide) rfl (fun ls hl => ?_)
  refine lv_goto (tgt := 16) C.x C.b dd_Chart_onlySplit_56 (by decide) ?_
  exact h16 _ _ _ _ _ _ _ _ _ hf hat (lv_sub hl [1, 2, 3, 4, 5, 0] rfl)
set_option maxHeartbeats 4000000 in
set_option maxRecDepth 100000 in
theorem w_f_Chart_onlySplit_16 (C : np_Cx gA p R s m args c D np_cl (np_ty cA) A np_al "NotationParse$Chart" prog_2_method_22_code 6 { frames := 1, cells := 0, slots := 0, locals := 23 }) (hQ : ∀ (pc : Nat) (ls : Array Slot) (H : Heap) (locs : List Loc) (v : Int) {σ : np_S}, decode prog_2_method_22_code pc = .ok (.ireturn, 1) → some (v, σ) = some out → np_At D np_cl A (nc_wd q cA) s σ H locs → W p l e R s m args below meth c H locs 0 0 Q (F0 m pc ls [.int (np_i v)]))   : ∀ (n : Nat), ∀ (x1 x2 x3 x4 x5 : Int) (σ : np_S) (H : Heap) (locs : List Loc) (ls : Array Slot), f_Chart_onlySplit_16  n x1 x2 x3 x4 x5 σ = some out → np_At D np_cl A (nc_wd q cA) s σ H locs → lv_has ls 6 [(0, .ref (q 11)), (1, .int (np_i x1)), (2, .int (np_i x2)), (3, .int (np_i x3)), (4, .int (np_i x4)), (5, .int (np_i x5))] → W p l e R s m args below meth c H locs 0 0 Q (F0 m 16 ls []) := by
  intro n
  induction n with
  | zero => intro x1 x2 x3 x4 x5 σ H locs ls hf; cases hf
  | succ n ih =>
    intro x1 x2 x3 x4 x5 σ H locs ls hf hat hl
    have h16 := ih
    have hf : f_Chart_onlySplit_16_b  (fun x1 x2 x3 x4 x5 σ => f_Chart_onlySplit_16  n x1 x2 x3 x4 x5 σ) x1 x2 x3 x4 x5 σ = some out := hf
    unfold f_Chart_onlySplit_16_b at hf
    refine lv_iload C.x C.b dd_Chart_onlySplit_16 (lv_at hl 5 rfl) ?_
    refine lv_iload_n C.x C.b dd_Chart_onlySplit_18 rfl (lv_at hl 2 rfl) ?_
    refine np_icmp_le (tgt := 59) C dd_Chart_onlySplit_19 (by decide) hf (fun _ hf => ?_) (fun _ hf => ?_)
    · refine lv_iload_n C.x C.b dd_Chart_onlySplit_59 rfl (lv_at hl 2 rfl) ?_
      exact hQ _ _ _ _ _ dd_Chart_onlySplit_60 hf hat
    · refine lv_aload_n C.x C.b dd_Chart_onlySplit_22 rfl (lv_at hl 0 rfl) ?_
      refine lv_iload_n C.x C.b dd_Chart_onlySplit_23 rfl (lv_at hl 2 rfl) ?_
      refine lv_iload C.x C.b dd_Chart_onlySplit_24 (lv_at hl 5 rfl) ?_
      refine lv_iload_n C.x C.b dd_Chart_onlySplit_26 rfl (lv_at hl 1 rfl) ?_
      refine np_callVi (As := [.int (np_i x2), .int (np_i x5), .int (np_i x1)]) (rest := []) C (c_Chart_isReached l x2 x5 x1 _) np_allgood tw_779 tw_781 tp_11 tw_5 tw_782 (nA := 3) (by decide +kernel) rfl ⟨rfl, rfl, Nat.le_of_ble_eq_true rfl, Nat.le_of_ble_eq_true rfl⟩ (va_recv C.k hat.1 (ci := 3) (q0 := 11) rfl (nc_o11 _)) hat rfl hl.1 (Nat.le_of_ble_eq_true rfl) dd_Chart_onlySplit_27 hf (fun o1 H locs hf hat => ?_)
      refine np_if_eq (tgt := 53) C dd_Chart_onlySplit_30 (by decide) hf (fun _ hf => ?_) (fun _ hf => ?_)
      · exact w_f_Chart_onlySplit_53 C hQ h16 _ _ _ _ _ _ _ _ _ hf hat (lv_sub hl [0, 1, 2, 3, 4, 5] rfl)
      · refine lv_aload_n C.x C.b dd_Chart_onlySplit_33 rfl (lv_at hl 0 rfl) ?_
        refine np_get (v := .ref (q 14)) C i_Chart hat.1 11 (nc_o11 _) rfl 3 (by decide) tw_124 rfl rfl dd_Chart_onlySplit_34 ?_
        refine lv_aload_n C.x C.b dd_Chart_onlySplit_37 rfl (lv_at hl 0 rfl) ?_
        refine lv_iload C.x C.b dd_Chart_onlySplit_38 (lv_at hl 5 rfl) ?_
        refine lv_iload_n C.x C.b dd_Chart_onlySplit_40 rfl (lv_at hl 3 rfl) ?_
        refine lv_iload C.x C.b dd_Chart_onlySplit_41 (lv_at hl 4 rfl) ?_
        refine np_callVi (As := [.int (np_i x5), .int (np_i x3), .int (np_i x4)]) (rest := [.ref (q 14)]) C (c_Chart_cell l x5 x3 x4 _) np_allgood tw_816 tw_818 tp_18 tw_5 tw_819 (nA := 3) (by decide +kernel) rfl ⟨rfl, rfl, Nat.le_of_ble_eq_true rfl, Nat.le_of_ble_eq_true rfl⟩ (va_recv C.k hat.1 (ci := 3) (q0 := 11) rfl (nc_o11 _)) hat rfl hl.1 (Nat.le_of_ble_eq_true rfl) dd_Chart_onlySplit_43 hf (fun o2 H locs hf hat => ?_)
        refine np_iaload C hat.1 14 (nc_a14 _) 0 rfl (by decide) dd_Chart_onlySplit_46 hf (fun hf => ?_)
        refine np_if_le (tgt := 53) C dd_Chart_onlySplit_47 (by decide) hf (fun _ hf => ?_) (fun _ hf => ?_)
        · exact w_f_Chart_onlySplit_53 C hQ h16 _ _ _ _ _ _ _ _ _ hf hat (lv_sub hl [0, 1, 2, 3, 4, 5] rfl)
        · refine lv_iload C.x C.b dd_Chart_onlySplit_50 (lv_at hl 5 rfl) ?_
          exact hQ _ _ _ _ _ dd_Chart_onlySplit_52 hf hat
set_option maxHeartbeats 4000000 in
set_option maxRecDepth 100000 in
theorem w_f_Chart_onlySplit (C : np_Cx gA p R s m args c D np_cl (np_ty cA) A np_al "NotationParse$Chart" prog_2_method_22_code 6 { frames := 1, cells := 0, slots := 0, locals := 23 }) (hQ : ∀ (pc : Nat) (ls : Array Slot) (H : Heap) (locs : List Loc) (v : Int) {σ : np_S}, decode prog_2_method_22_code pc = .ok (.ireturn, 1) → some (v, σ) = some out → np_At D np_cl A (nc_wd q cA) s σ H locs → W p l e R s m args below meth c H locs 0 0 Q (F0 m pc ls [.int (np_i v)]))   : ∀ (x1 x2 x3 : Int) (σ : np_S) (H : Heap) (locs : List Loc) (ls : Array Slot), f_Chart_onlySplit  x1 x2 x3 σ = some out → np_At D np_cl A (nc_wd q cA) s σ H locs → lv_has ls 6 [(0, .ref (q 11)), (1, .int (np_i x1)), (2, .int (np_i x2)), (3, .int (np_i x3))] → W p l e R s m args below meth c H locs 0 0 Q (F0 m 0 ls []) := by
  intro x1 x2 x3 σ H locs ls hf hat hl
  unfold f_Chart_onlySplit at hf
  refine lv_aload_n C.x C.b dd_Chart_onlySplit_0 rfl (lv_at hl 0 rfl) ?_
  refine np_get (v := .ref (q 1)) C i_Chart hat.1 11 (nc_o11 _) rfl 0 (by decide) tw_121 rfl rfl dd_Chart_onlySplit_1 ?_
  refine np_get (v := .ref (q 2)) C i_Grammar hat.1 1 (nc_o1 _) rfl 0 (by decide) tw_52 rfl rfl dd_Chart_onlySplit_4 ?_
  refine lv_iload_n C.x C.b dd_Chart_onlySplit_7 rfl (lv_at hl 1 rfl) ?_
  refine np_iaload C hat.1 2 (nc_a2 _) 0 rfl (by decide) dd_Chart_onlySplit_8 hf (fun hf => ?_)
  refine lv_istore (lv' := [(4, .int (np_i (σ 2 x1))), (0, .ref (q 11)), (1, .int (np_i x1)), (2, .int (np_i x2)), (3, .int (np_i x3))]) C.x C.b dd_Chart_onlySplit_9 hl (by decide) rfl (fun ls hl => ?_)
  refine lv_iload_n C.x C.b dd_Chart_onlySplit_11 rfl (lv_at hl 4 rfl) ?_
  refine lv_iconst (v := np_i 1) C.x C.b dd_Chart_onlySplit_12 rfl ?_
  refine np_isub C dd_Chart_onlySplit_13 ?_
  refine lv_istore (lv' := [(5, .int (np_i (x3 - 1))), (4, .int (np_i (σ 2 x1))), (0, .ref (q 11)), (1, .int (np_i x1)), (2, .int (np_i x2)), (3, .int (np_i x3))]) C.x C.b dd_Chart_onlySplit_14 hl (by decide) rfl (fun ls hl => ?_)
  exact w_f_Chart_onlySplit_16 C hQ  20000 _ _ _ _ _ _ _ _ _ hf hat (lv_sub hl [2, 3, 4, 5, 1, 0] rfl)
set_option maxHeartbeats 4000000 in
set_option maxRecDepth 100000 in
theorem c_Chart_onlySplit (l : Launch) {gA : Nat → Nat} {D : va_G} {q : Nat → Nat} {cA : Nat → ClassId} (x1 x2 x3 : Int) (σ : np_S) : np_Mi gA l D np_cl (np_ty cA) (nc_wd q cA) yy_Chart_onlySplit (.code yy_Chart_onlySplit prog_2_method_22_code 6 (some .int) :: np_al) { frames := 1, cells := 0, slots := 0, locals := 23 } [.ref (q 11), .int (np_i x1), .int (np_i x2), .int (np_i x3)] σ (f_Chart_onlySplit x1 x2 x3 σ) :=
  np_mki (by decide +kernel) (Nat.le_of_ble_eq_true rfl) (fun o p e R s m args below meth c Q A ls hf C hQ hat hl => w_f_Chart_onlySplit C hQ x1 x2 x3 σ _ _ _ hf hat (lv_sub hl [0, 1, 2, 3] rfl))
set_option maxHeartbeats 4000000 in
set_option maxRecDepth 100000 in
theorem w_f_Tree_awaitHoles_100 (C : np_Cx gA p R s m args c D np_cl (np_ty cA) A np_al "NotationParse$Tree" prog_7_method_6_code 10 { frames := 2, cells := 0, slots := 0, locals := 48 }) (hQ : ∀ (pc : Nat) (ls : Array Slot) (H : Heap) (locs : List Loc) (v : Int) {σ : np_S}, decode prog_7_method_6_code pc = .ok (.ireturn, 1) → some (v, σ) = some out → np_At D np_cl A (nc_wd q cA) s σ H locs → W p l e R s m args below meth c H locs 0 0 Q (F0 m pc ls [.int (np_i v)])) {k34 : (Int → Int → Int → Int → Int → Int → np_S → Option np_O)} (h34 : ∀ (x1 x2 x4 x5 x6 x7 : Int) (σ : np_S) (H : Heap) (locs : List Loc) (ls : Array Slot), k34 x1 x2 x4 x5 x6 x7 σ = some out → np_At D np_cl A (nc_wd q cA) s σ H locs → lv_has ls 10 [(0, .ref (q 15)), (1, .int (np_i x1)), (2, .int (np_i x2)), (4, .int (np_i x4)), (5, .int (np_i x5)), (6, .int (np_i x6)), (7, .int (np_i x7))] → W p l e R s m args below meth c H locs 0 0 Q (F0 m 34 ls [])) : ∀ (x1 x2 x4 x5 x7 x9 : Int) (σ : np_S) (H : Heap) (locs : List Loc) (ls : Array Slot), f_Tree_awaitHoles_100 k34 x1 x2 x4 x5 x7 x9 σ = some out → np_At D np_cl A (nc_wd q cA) s σ H locs → lv_has ls 10 [(0, .ref (q 15)), (1, .int (np_i x1)), (2, .int (np_i x2)), (4, .int (np_i x4)), (5, .int (np_i x5)), (7, .int (np_i x7)), (9, .int (np_i x9))] → W p l e R s m args below meth c H locs 0 0 Q (F0 m 100 ls []) := by
  intro x1 x2 x4 x5 x7 x9 σ H locs ls hf hat hl
  unfold f_Tree_awaitHoles_100 at hf
  refine lv_iload C.x C.b dd_Tree_awaitHoles_100 (lv_at hl 6 rfl) ?_
  refine lv_istore (lv' := [(6, .int (np_i x9)), (0, .ref (q 15)), (1, .int (np_i x1)), (2, .int (np_i x2)), (4, .int (np_i x4)), (5, .int (np_i x5)), (7, .int (np_i x7)), (9, .int (np_i x9))]) C.x C.b dd_Tree_awaitHoles_102 hl (by decide) rfl (fun ls hl => ?_)
  refine lv_iinc (v := np_i (x7 + (-1))) (lv' := [(7, .int (np_i (x7 + (-1)))), (6, .int (np_i x9)), (0, .ref (q 15)), (1, .int (np_i x1)), (2, .int (np_i x2)), (4, .int (np_i x4)), (5, .int (np_i x5)), (9, .int (np_i x9))]) C.x C.b dd_Tree_awaitHoles_104 hl (k := 6) rfl (np_inc _ _) (by decide) rfl (fun ls hl => ?_)
  refine lv_goto (tgt := 34) C.x C.b dd_Tree_awaitHoles_107 (by decide) ?_
  exact h34 _ _ _ _ _ _ _ _ _ _ hf hat (lv_sub hl [2, 3, 4, 5, 6, 1, 0] rfl)
set_option maxHeartbeats 4000000 in
set_option maxRecDepth 100000 in
theorem w_f_Tree_awaitHoles_78 (C : np_Cx gA p R s m args c D np_cl (np_ty cA) A np_al "NotationParse$Tree" prog_7_method_6_code 10 { frames := 2, cells := 0, slots := 0, locals := 48 }) (hQ : ∀ (pc : Nat) (ls : Array Slot) (H : Heap) (locs : List Loc) (v : Int) {σ : np_S}, decode prog_7_method_6_code pc = .ok (.ireturn, 1) → some (v, σ) = some out → np_At D np_cl A (nc_wd q cA) s σ H locs → W p l e R s m args below meth c H locs 0 0 Q (F0 m pc ls [.int (np_i v)])) {k34 : (Int → Int → Int → Int → Int → Int → np_S → Option np_O)} (h34 : ∀ (x1 x2 x4 x5 x6 x7 : Int) (σ : np_S) (H : Heap) (locs : List Loc) (ls : Array Slot), k34 x1 x2 x4 x5 x6 x7 σ = some out → np_At D np_cl A (nc_wd q cA) s σ H locs → lv_has ls 10 [(0, .ref (q 15)), (1, .int (np_i x1)), (2, .int (np_i x2)), (4, .int (np_i x4)), (5, .int (np_i x5)), (6, .int (np_i x6)), (7, .int (np_i x7))] → W p l e R s m args below meth c H locs 0 0 Q (F0 m 34 ls [])) : ∀ (x1 x2 x4 x5 x6 x7 x8 t0 : Int) (σ : np_S) (H : Heap) (locs : List Loc) (ls : Array Slot), f_Tree_awaitHoles_78 k34 x1 x2 x4 x5 x6 x7 x8 t0 σ = some out → np_At D np_cl A (nc_wd q cA) s σ H locs → lv_has ls 10 [(0, .ref (q 15)), (1, .int (np_i x1)), (2, .int (np_i x2)), (4, .int (np_i x4)), (5, .int (np_i x5)), (6, .int (np_i x6)), (7, .int (np_i x7)), (8, .int (np_i x8))] → W p l e R s m args below meth c H locs 0 0 Q (F0 m 78 ls [.int (np_i t0)]) := by
  intro x1 x2 x4 x5 x6 x7 x8 t0 σ H locs ls hf hat hl
  unfold f_Tree_awaitHoles_78 at hf
  refine lv_istore (lv' := [(9, .int (np_i t0)), (0, .ref (q 15)), (1, .int (np_i x1)), (2, .int (np_i x2)), (4, .int (np_i x4)), (5, .int (np_i x5)), (6, .int (np_i x6)), (7, .int (np_i x7)), (8, .int (np_i x8))]) C.x C.b dd_Tree_awaitHoles_78 hl (by decide) rfl (fun ls hl => ?_)
  refine lv_iload C.x C.b dd_Tree_awaitHoles_80 (lv_at hl 8 rfl) ?_
  refine lv_iconst (v := np_i (-1)) C.x C.b dd_Tree_awaitHoles_82 rfl ?_
  refine np_icmp_eq (tgt := 100) C dd_Tree_awaitHoles_83 (by decide) hf (fun _ hf => ?_) (fun _ hf => ?_)
  · exact w_f_Tree_awaitHoles_100 C hQ h34 _ _ _ _ _ _ _ _ _ _ hf hat (lv_sub hl [1, 2, 3, 4, 5, 7, 0] rfl)
  · refine lv_aload_n C.x C.b dd_Tree_awaitHoles_86 rfl (lv_at hl 1 rfl) ?_
    refine lv_iload C.x C.b dd_Tree_awaitHoles_87 (lv_at hl 0 rfl) ?_
    refine lv_iload C.x C.b dd_Tree_awaitHoles_89 (lv_at hl 6 rfl) ?_
    refine lv_iload C.x C.b dd_Tree_awaitHoles_91 (lv_at hl 8 rfl) ?_
    refine lv_iload_n C.x C.b dd_Tree_awaitHoles_93 rfl (lv_at hl 2 rfl) ?_
    refine np_callVv (As := [.int (np_i t0), .int (np_i x6), .int (np_i x8), .int (np_i x1)]) (rest := []) C (c_Tree_await l t0 x6 x8 x1 _) np_allgood tw_842 tw_844 tp_22 tw_6 tw_845 (nA := 4) (by decide +kernel) rfl ⟨rfl, rfl, Nat.le_of_ble_eq_true rfl, Nat.le_of_ble_eq_true rfl⟩ (va_recv C.k hat.1 (ci := 4) (q0 := 15) rfl (nc_o15 _)) hat rfl hl.1 (Nat.le_of_ble_eq_true rfl) dd_Tree_awaitHoles_94 hf (fun o1 H locs hf hat => ?_)
    refine lv_iinc (v := np_i (x5 + 1)) (lv' := [(5, .int (np_i (x5 + 1))), (9, .int (np_i t0)), (0, .ref (q 15)), (1, .int (np_i x1)), (2, .int (np_i x2)), (4, .int (np_i x4)), (6, .int (np_i x6)), (7, .int (np_i x7)), (8, .int (np_i x8))]) C.x C.b dd_Tree_awaitHoles_97 hl (k := 5) rfl (np_inc _ _) (by decide) rfl (fun ls hl => ?_)
    exact w_f_Tree_awaitHoles_100 C hQ h34 _ _ _ _ _ _ _ _ _ _ hf hat (lv_sub hl [2, 3, 4, 5, 0, 7, 1] rfl)
set_option maxHeartbeats 4000000 in
set_option maxRecDepth 100000 in
theorem w_f_Tree_awaitHoles_34 (C : np_Cx gA p R s m args c D np_cl (np_ty cA) A np_al "NotationParse$Tree" prog_7_method_6_code 10 { frames := 2, cells := 0, slots := 0, locals := 48 }) (hQ : ∀ (pc : Nat) (ls : Array Slot) (H : Heap) (locs : List Loc) (v : Int) {σ : np_S}, decode prog_7_method_6_code pc = .ok (.ireturn, 1) → some (v, σ) = some out → np_At D np_cl A (nc_wd q cA) s σ H locs → W p l e R s m args below meth c H locs 0 0 Q (F0 m pc ls [.int (np_i v)]))   : ∀ (n : Nat), ∀ (x1 x2 x4 x5 x6 x7 : Int) (σ : np_S) (H : Heap) (locs : List Loc) (ls : Array Slot), f_Tree_awaitHoles_34  n x1 x2 x4 x5 x6 x7 σ = some out → np_At D np_cl A (nc_wd q cA) s σ H locs → lv_has ls 10 [(0, .ref (q 15)), (1, .int (np_i x1)), (2, .int (np_i x2)), (4, .int (np_i x4)), (5, .int (np_i x5)), (6, .int (np_i x6)), (7, .int (np_i x7))] → W p l e R s m args below meth c H locs 0 0 Q (F0 m 34 ls []) := by
  intro n
  induction n with
  | zero => intro x1 x2 x4 x5 x6 x7 σ H locs ls hf; cases hf
  | succ n ih =>
    intro x1 x2 x4 x5 x6 x7 σ H locs ls hf hat hl
    have h34 := ih
    have hf : f_Tree_awaitHoles_34_b  (fun x1 x2 x4 x5 x6 x7 σ => f_Tree_awaitHoles_34  n x1 x2 x4 x5 x6 x7 σ) x1 x2 x4 x5 x6 x7 σ = some out := hf
    unfold f_Tree_awaitHoles_34_b at hf
    refine lv_iload C.x C.b dd_Tree_awaitHoles_34 (lv_at hl 6 rfl) ?_
    refine lv_iload C.x C.b dd_Tree_awaitHoles_36 (lv_at hl 3 rfl) ?_
    refine np_icmp_lt (tgt := 110) C dd_Tree_awaitHoles_38 (by decide) hf (fun _ hf => ?_) (fun _ hf => ?_)
    · refine lv_iload C.x C.b dd_Tree_awaitHoles_110 (lv_at hl 4 rfl) ?_
      exact hQ _ _ _ _ _ dd_Tree_awaitHoles_112 hf hat
    · refine lv_aload_n C.x C.b dd_Tree_awaitHoles_41 rfl (lv_at hl 0 rfl) ?_
      refine np_get (v := .ref (q 1)) C i_Tree hat.1 15 (nc_o15 _) rfl 0 (by decide) tw_140 rfl rfl dd_Tree_awaitHoles_42 ?_
      refine np_get (v := .ref (q 2)) C i_Grammar hat.1 1 (nc_o1 _) rfl 0 (by decide) tw_51 rfl rfl dd_Tree_awaitHoles_45 ?_
      refine lv_iload C.x C.b dd_Tree_awaitHoles_48 (lv_at hl 6 rfl) ?_
      refine np_iaload C hat.1 2 (nc_a2 _) 0 rfl (by decide) dd_Tree_awaitHoles_50 hf (fun hf => ?_)
      refine lv_istore (lv' := [(8, .int (np_i (σ 2 x7))), (0, .ref (q 15)), (1, .int (np_i x1)), (2, .int (np_i x2)), (4, .int (np_i x4)), (5, .int (np_i x5)), (6, .int (np_i x6)), (7, .int (np_i x7))]) C.x C.b dd_Tree_awaitHoles_51 hl (by decide) rfl (fun ls hl => ?_)
      refine lv_iload C.x C.b dd_Tree_awaitHoles_53 (lv_at hl 0 rfl) ?_
      refine lv_iconst (v := np_i (-1)) C.x C.b dd_Tree_awaitHoles_55 rfl ?_
      refine np_icmp_ne (tgt := 66) C dd_Tree_awaitHoles_56 (by decide) hf (fun _ hf => ?_) (fun _ hf => ?_)
      · refine lv_aload_n C.x C.b dd_Tree_awaitHoles_66 rfl (lv_at hl 1 rfl) ?_
        refine np_get (v := .ref (q 11)) C i_Tree hat.1 15 (nc_o15 _) rfl 1 (by decide) tw_141 rfl rfl dd_Tree_awaitHoles_67 ?_
        refine lv_iload C.x C.b dd_Tree_awaitHoles_70 (lv_at hl 7 rfl) ?_
        refine lv_iload_n C.x C.b dd_Tree_awaitHoles_72 rfl (lv_at hl 3 rfl) ?_
        refine lv_iload C.x C.b dd_Tree_awaitHoles_73 (lv_at hl 6 rfl) ?_
        refine np_callVi (As := [.int (np_i x7), .int (np_i x2), .int (np_i x6)]) (rest := []) C (c_Chart_onlySplit l x7 x2 x6 _) np_allgood tw_859 tw_860 tw_861 tw_5 tw_862 (nA := 3) (by decide +kernel) rfl ⟨rfl, rfl, Nat.le_of_ble_eq_true rfl, Nat.le_of_ble_eq_true rfl⟩ (va_recv C.k hat.1 (ci := 3) (q0 := 11) rfl (nc_o11 _)) hat rfl hl.1 (Nat.le_of_ble_eq_true rfl) dd_Tree_awaitHoles_75 hf (fun o2 H locs hf hat => ?_)
        exact w_f_Tree_awaitHoles_78 C hQ h34 _ _ _ _ _ _ _ _ _ _ _ _ hf hat (lv_sub hl [1, 2, 3, 4, 5, 6, 7, 0] rfl)
      · refine lv_iload C.x C.b dd_Tree_awaitHoles_59 (lv_at hl 6 rfl) ?_
        refine lv_iconst (v := np_i 1) C.x C.b dd_Tree_awaitHoles_61 rfl ?_
        refine np_isub C dd_Tree_awaitHoles_62 ?_
        refine lv_goto (tgt := 78) C.x C.b dd_Tree_awaitHoles_63 (by decide) ?_
        exact w_f_Tree_awaitHoles_78 C hQ h34 _ _ _ _ _ _ _ _ _ _ _ _ hf hat (lv_sub hl [1, 2, 3, 4, 5, 6, 7, 0] rfl)
set_option maxHeartbeats 4000000 in
set_option maxRecDepth 100000 in
theorem w_f_Tree_awaitHoles (C : np_Cx gA p R s m args c D np_cl (np_ty cA) A np_al "NotationParse$Tree" prog_7_method_6_code 10 { frames := 2, cells := 0, slots := 0, locals := 48 }) (hQ : ∀ (pc : Nat) (ls : Array Slot) (H : Heap) (locs : List Loc) (v : Int) {σ : np_S}, decode prog_7_method_6_code pc = .ok (.ireturn, 1) → some (v, σ) = some out → np_At D np_cl A (nc_wd q cA) s σ H locs → W p l e R s m args below meth c H locs 0 0 Q (F0 m pc ls [.int (np_i v)]))   : ∀ (x1 x2 x3 : Int) (σ : np_S) (H : Heap) (locs : List Loc) (ls : Array Slot), f_Tree_awaitHoles  x1 x2 x3 σ = some out → np_At D np_cl A (nc_wd q cA) s σ H locs → lv_has ls 10 [(0, .ref (q 15)), (1, .int (np_i x1)), (2, .int (np_i x2)), (3, .int (np_i x3))] → W p l e R s m args below meth c H locs 0 0 Q (F0 m 0 ls []) := by
  intro x1 x2 x3 σ H locs ls hf hat hl
  unfold f_Tree_awaitHoles at hf
  refine lv_aload_n C.x C.b dd_Tree_awaitHoles_0 rfl (lv_at hl 0 rfl) ?_
  refine np_get (v := .ref (q 16)) C i_Tree hat.1 15 (nc_o15 _) rfl 3 (by decide) tw_144 rfl rfl dd_Tree_awaitHoles_1 ?_
  refine lv_iload_n C.x C.b dd_Tree_awaitHoles_4 rfl (lv_at hl 1 rfl) ?_
  refine np_iaload C hat.1 16 (nc_a16 _) 0 rfl (by decide) dd_Tree_awaitHoles_5 hf (fun hf => ?_)
  refine lv_bipush (v := np_i 7) C.x C.b dd_Tree_awaitHoles_6 (by decide +kernel) ?_
  refine np_imul C dd_Tree_awaitHoles_8 ?_
  refine lv_istore (lv' := [(4, .int (np_i ((σ 16 x1) * 7))), (0, .ref (q 15)), (1, .int (np_i x1)), (2, .int (np_i x2)), (3, .int (np_i x3))]) C.x C.b dd_Tree_awaitHoles_9 hl (by decide) rfl (fun ls hl => ?_)
  refine lv_iconst (v := np_i 0) C.x C.b dd_Tree_awaitHoles_11 rfl ?_
  refine lv_istore (lv' := [(5, .int (np_i 0)), (4, .int (np_i ((σ 16 x1) * 7))), (0, .ref (q 15)), (1, .int (np_i x1)), (2, .int (np_i x2)), (3, .int (np_i x3))]) C.x C.b dd_Tree_awaitHoles_12 hl (by decide) rfl (fun ls hl => ?_)
  refine lv_iload_n C.x C.b dd_Tree_awaitHoles_14 rfl (lv_at hl 5 rfl) ?_
  refine lv_istore (lv' := [(6, .int (np_i x3)), (5, .int (np_i 0)), (4, .int (np_i ((σ 16 x1) * 7))), (0, .ref (q 15)), (1, .int (np_i x1)), (2, .int (np_i x2)), (3, .int (np_i x3))]) C.x C.b dd_Tree_awaitHoles_15 hl (by decide) rfl (fun ls hl => ?_)
  refine lv_aload_n C.x C.b dd_Tree_awaitHoles_17 rfl (lv_at hl 3 rfl) ?_
  refine np_get (v := .ref (q 1)) C i_Tree hat.1 15 (nc_o15 _) rfl 0 (by decide) tw_140 rfl rfl dd_Tree_awaitHoles_18 ?_
  refine lv_aload_n C.x C.b dd_Tree_awaitHoles_21 rfl (lv_at hl 3 rfl) ?_
  refine np_get (v := .ref (q 16)) C i_Tree hat.1 15 (nc_o15 _) rfl 3 (by decide) tw_144 rfl rfl dd_Tree_awaitHoles_22 ?_
  refine lv_iload_n C.x C.b dd_Tree_awaitHoles_25 rfl (lv_at hl 4 rfl) ?_
  refine np_iaload C hat.1 16 (nc_a16 _) 0 rfl (by decide) dd_Tree_awaitHoles_26 hf (fun hf => ?_)
  refine np_callVi (As := [.int (np_i (σ 16 x1))]) (rest := []) C (c_Grammar_lastDot l (σ 16 x1) _) np_allgood tw_858 tw_776 tw_777 tw_2 tw_778 (nA := 1) (by decide +kernel) rfl ⟨rfl, rfl, Nat.le_of_ble_eq_true rfl, Nat.le_of_ble_eq_true rfl⟩ (va_recv C.k hat.1 (ci := 1) (q0 := 1) rfl (nc_o1 _)) hat rfl hl.1 (Nat.le_of_ble_eq_true rfl) dd_Tree_awaitHoles_27 hf (fun o3 H locs hf hat => ?_)
  refine lv_iconst (v := np_i 1) C.x C.b dd_Tree_awaitHoles_30 rfl ?_
  refine np_isub C dd_Tree_awaitHoles_31 ?_
  refine lv_istore (lv' := [(7, .int (np_i (o3.1 - 1))), (6, .int (np_i x3)), (5, .int (np_i 0)), (4, .int (np_i ((σ 16 x1) * 7))), (0, .ref (q 15)), (1, .int (np_i x1)), (2, .int (np_i x2)), (3, .int (np_i x3))]) C.x C.b dd_Tree_awaitHoles_32 hl (by decide) rfl (fun ls hl => ?_)
  exact w_f_Tree_awaitHoles_34 C hQ  20000 _ _ _ _ _ _ _ _ _ _ hf hat (lv_sub hl [4, 5, 6, 3, 2, 1, 0] rfl)
set_option maxHeartbeats 4000000 in
set_option maxRecDepth 100000 in
theorem c_Tree_awaitHoles (l : Launch) {gA : Nat → Nat} {D : va_G} {q : Nat → Nat} {cA : Nat → ClassId} (x1 x2 x3 : Int) (σ : np_S) : np_Mi gA l D np_cl (np_ty cA) (nc_wd q cA) yy_Tree_awaitHoles (.code yy_Tree_awaitHoles prog_7_method_6_code 10 (some .int) :: np_al) { frames := 2, cells := 0, slots := 0, locals := 48 } [.ref (q 15), .int (np_i x1), .int (np_i x2), .int (np_i x3)] σ (f_Tree_awaitHoles x1 x2 x3 σ) :=
  np_mki (by decide +kernel) (Nat.le_of_ble_eq_true rfl) (fun o p e R s m args below meth c Q A ls hf C hQ hat hl => w_f_Tree_awaitHoles C hQ x1 x2 x3 σ _ _ _ hf hat (lv_sub hl [0, 1, 2, 3] rfl))
set_option maxHeartbeats 4000000 in
set_option maxRecDepth 100000 in
theorem w_f_Tree_growNode (C : np_Cx gA p R s m args c D np_cl (np_ty cA) A np_al "NotationParse$Tree" prog_7_method_5_code 4 { frames := 3, cells := 0, slots := 0, locals := 77 }) (hQ : ∀ (pc : Nat) (ls : Array Slot) (H : Heap) (locs : List Loc) {σ : np_S}, decode prog_7_method_5_code pc = .ok (.return_, 1) → some ((0 : Int), σ) = some out → np_At D np_cl A (nc_wd q cA) s σ H locs → W p l e R s m args below meth c H locs 0 0 Q (F0 m pc ls []))   : ∀ (x1 x2 x3 : Int) (σ : np_S) (H : Heap) (locs : List Loc) (ls : Array Slot), f_Tree_growNode  x1 x2 x3 σ = some out → np_At D np_cl A (nc_wd q cA) s σ H locs → lv_has ls 4 [(0, .ref (q 15)), (1, .int (np_i x1)), (2, .int (np_i x2)), (3, .int (np_i x3))] → W p l e R s m args below meth c H locs 0 0 Q (F0 m 0 ls []) := by
  intro x1 x2 x3 σ H locs ls hf hat hl
  unfold f_Tree_growNode at hf
  refine lv_aload_n C.x C.b dd_Tree_growNode_0 rfl (lv_at hl 0 rfl) ?_
  refine np_get (v := .ref (q 16)) C i_Tree hat.1 15 (nc_o15 _) rfl 3 (by decide) tw_144 rfl rfl dd_Tree_growNode_1 ?_
  refine lv_iload_n C.x C.b dd_Tree_growNode_4 rfl (lv_at hl 1 rfl) ?_
  refine lv_aload_n C.x C.b dd_Tree_growNode_5 rfl (lv_at hl 0 rfl) ?_
  refine np_get (v := .ref (q 11)) C i_Tree hat.1 15 (nc_o15 _) rfl 1 (by decide) tw_141 rfl rfl dd_Tree_growNode_6 ?_
  refine lv_iload_n C.x C.b dd_Tree_growNode_9 rfl (lv_at hl 2 rfl) ?_
  refine lv_iload_n C.x C.b dd_Tree_growNode_10 rfl (lv_at hl 3 rfl) ?_
  refine lv_aload_n C.x C.b dd_Tree_growNode_11 rfl (lv_at hl 0 rfl) ?_
  refine np_get (v := .ref (q 24)) C i_Tree hat.1 15 (nc_o15 _) rfl 12 (by decide) tw_158 rfl rfl dd_Tree_growNode_12 ?_
  refine lv_aload_n C.x C.b dd_Tree_growNode_15 rfl (lv_at hl 0 rfl) ?_
  refine np_get (v := .int (np_i (σ 15 9))) C i_Tree hat.1 15 (nc_o15 _) rfl 9 (by decide) tw_155 rfl rfl dd_Tree_growNode_16 ?_
  refine np_iaload C hat.1 24 (nc_a24 _) 0 rfl (by decide) dd_Tree_growNode_19 hf (fun hf => ?_)
  refine np_callVi (As := [.int (np_i x2), .int (np_i x3), .int (np_i (σ 24 (σ 15 9)))]) (rest := [.int (np_i x1), .ref (q 16)]) C (c_Chart_onlyRule l x2 x3 (σ 24 (σ 15 9)) _) np_allgood tw_850 tw_851 tw_852 tw_5 tw_853 (nA := 3) (by decide +kernel) rfl ⟨rfl, rfl, Nat.le_of_ble_eq_true rfl, Nat.le_of_ble_eq_true rfl⟩ (va_recv C.k hat.1 (ci := 3) (q0 := 11) rfl (nc_o11 _)) hat rfl hl.1 (Nat.le_of_ble_eq_true rfl) dd_Tree_growNode_20 hf (fun o1 H locs hf hat => ?_)
  refine np_iastore C hat 16 (nc_a16 _) 0 rfl (by decide) (nc_s16 _ _ _) dd_Tree_growNode_23 hf (fun H locs hat hf => ?_)
  refine lv_aload_n C.x C.b dd_Tree_growNode_24 rfl (lv_at hl 0 rfl) ?_
  refine np_get (v := .ref (q 18)) C i_Tree hat.1 15 (nc_o15 _) rfl 5 (by decide) tw_148 rfl rfl dd_Tree_growNode_25 ?_
  refine lv_iload_n C.x C.b dd_Tree_growNode_28 rfl (lv_at hl 1 rfl) ?_
  refine lv_iload_n C.x C.b dd_Tree_growNode_29 rfl (lv_at hl 2 rfl) ?_
  refine np_iastore C hat 18 (nc_a18 _) 0 rfl (by decide) (nc_s18 _ _ _) dd_Tree_growNode_30 hf (fun H locs hat hf => ?_)
  refine lv_aload_n C.x C.b dd_Tree_growNode_31 rfl (lv_at hl 0 rfl) ?_
  refine np_get (v := .ref (q 19)) C i_Tree hat.1 15 (nc_o15 _) rfl 6 (by decide) tw_150 rfl rfl dd_Tree_growNode_32 ?_
  refine lv_iload_n C.x C.b dd_Tree_growNode_35 rfl (lv_at hl 1 rfl) ?_
  refine lv_iload_n C.x C.b dd_Tree_growNode_36 rfl (lv_at hl 3 rfl) ?_
  refine lv_iload_n C.x C.b dd_Tree_growNode_37 rfl (lv_at hl 2 rfl) ?_
  refine np_isub C dd_Tree_growNode_38 ?_
  refine np_iastore C hat 19 (nc_a19 _) 0 rfl (by decide) (nc_s19 _ _ _) dd_Tree_growNode_39 hf (fun H locs hat hf => ?_)
  refine lv_aload_n C.x C.b dd_Tree_growNode_40 rfl (lv_at hl 0 rfl) ?_
  refine np_get (v := .ref (q 20)) C i_Tree hat.1 15 (nc_o15 _) rfl 7 (by decide) tw_152 rfl rfl dd_Tree_growNode_41 ?_
  refine lv_iload_n C.x C.b dd_Tree_growNode_44 rfl (lv_at hl 1 rfl) ?_
  refine lv_aload_n C.x C.b dd_Tree_growNode_45 rfl (lv_at hl 0 rfl) ?_
  refine np_get (v := .ref (q 25)) C i_Tree hat.1 15 (nc_o15 _) rfl 13 (by decide) tw_159 rfl rfl dd_Tree_growNode_46 ?_
  refine lv_aload_n C.x C.b dd_Tree_growNode_49 rfl (lv_at hl 0 rfl) ?_
  refine np_get (v := .int (np_i ((np_st (np_st (np_st o1.2 16 x1 o1.1) 18 x1 x2) 19 x1 (x3 - x2)) 15 9))) C i_Tree hat.1 15 (nc_o15 _) rfl 9 (by decide) tw_155 rfl rfl dd_Tree_growNode_50 ?_
  refine np_iaload C hat.1 25 (nc_a25 _) 0 rfl (by decide) dd_Tree_growNode_53 hf (fun hf => ?_)
  refine np_iastore C hat 20 (nc_a20 _) 0 rfl (by decide) (nc_s20 _ _ _) dd_Tree_growNode_54 hf (fun H locs hat hf => ?_)
  refine lv_aload_n C.x C.b dd_Tree_growNode_55 rfl (lv_at hl 0 rfl) ?_
  refine np_get (v := .ref (q 21)) C i_Tree hat.1 15 (nc_o15 _) rfl 8 (by decide) tw_154 rfl rfl dd_Tree_growNode_56 ?_
  refine lv_iload_n C.x C.b dd_Tree_growNode_59 rfl (lv_at hl 1 rfl) ?_
  refine lv_aload_n C.x C.b dd_Tree_growNode_60 rfl (lv_at hl 0 rfl) ?_
  refine np_get (v := .ref (q 24)) C i_Tree hat.1 15 (nc_o15 _) rfl 12 (by decide) tw_158 rfl rfl dd_Tree_growNode_61 ?_
  refine lv_aload_n C.x C.b dd_Tree_growNode_64 rfl (lv_at hl 0 rfl) ?_
  refine np_get (v := .int (np_i ((np_st (np_st (np_st (np_st o1.2 16 x1 o1.1) 18 x1 x2) 19 x1 (x3 - x2)) 20 x1 ((np_st (np_st (np_st o1.2 16 x1 o1.1) 18 x1 x2) 19 x1 (x3 - x2)) 25 ((np_st (np_st (np_st o1.2 16 x1 o1.1) 18 x1 x2) 19 x1 (x3 - x2)) 15 9))) 15 9))) C i_Tree hat.1 15 (nc_o15 _) rfl 9 (by decide) tw_155 rfl rfl dd_Tree_growNode_65 ?_
  refine np_iaload C hat.1 24 (nc_a24 _) 0 rfl (by decide) dd_Tree_growNode_68 hf (fun hf => ?_)
  refine np_iastore C hat 21 (nc_a21 _) 0 rfl (by decide) (nc_s21 _ _ _) dd_Tree_growNode_69 hf (fun H locs hat hf => ?_)
  refine lv_aload_n C.x C.b dd_Tree_growNode_70 rfl (lv_at hl 0 rfl) ?_
  refine np_get (v := .ref (q 17)) C i_Tree hat.1 15 (nc_o15 _) rfl 4 (by decide) tw_146 rfl rfl dd_Tree_growNode_71 ?_
  refine lv_iload_n C.x C.b dd_Tree_growNode_74 rfl (lv_at hl 1 rfl) ?_
  refine lv_aload_n C.x C.b dd_Tree_growNode_75 rfl (lv_at hl 0 rfl) ?_
  refine lv_iload_n C.x C.b dd_Tree_growNode_76 rfl (lv_at hl 1 rfl) ?_
  refine lv_iload_n C.x C.b dd_Tree_growNode_77 rfl (lv_at hl 2 rfl) ?_
  refine lv_iload_n C.x C.b dd_Tree_growNode_78 rfl (lv_at hl 3 rfl) ?_
  refine np_callVi (As := [.int (np_i x1), .int (np_i x2), .int (np_i x3)]) (rest := [.int (np_i x1), .ref (q 17)]) C (c_Tree_awaitHoles l x1 x2 x3 _) np_allgood tw_854 tw_856 tp_24 tw_6 tw_857 (nA := 3) (by decide +kernel) rfl ⟨rfl, rfl, Nat.le_of_ble_eq_true rfl, Nat.le_of_ble_eq_true rfl⟩ (va_recv C.k hat.1 (ci := 4) (q0 := 15) rfl (nc_o15 _)) hat rfl hl.1 (Nat.le_of_ble_eq_true rfl) dd_Tree_growNode_79 hf (fun o2 H locs hf hat => ?_)
  refine np_iastore C hat 17 (nc_a17 _) 0 rfl (by decide) (nc_s17 _ _ _) dd_Tree_growNode_82 hf (fun H locs hat hf => ?_)
  exact hQ _ _ _ _ dd_Tree_growNode_83 hf hat
set_option maxHeartbeats 4000000 in
set_option maxRecDepth 100000 in
theorem c_Tree_growNode (l : Launch) {gA : Nat → Nat} {D : va_G} {q : Nat → Nat} {cA : Nat → ClassId} (x1 x2 x3 : Int) (σ : np_S) : np_Mv gA l D np_cl (np_ty cA) (nc_wd q cA) yy_Tree_growNode (.code yy_Tree_growNode prog_7_method_5_code 4 none :: np_al) { frames := 3, cells := 0, slots := 0, locals := 77 } [.ref (q 15), .int (np_i x1), .int (np_i x2), .int (np_i x3)] σ (f_Tree_growNode x1 x2 x3 σ) :=
  np_mkv (by decide +kernel) (Nat.le_of_ble_eq_true rfl) (fun o p e R s m args below meth c Q A ls hf C hQ hat hl => w_f_Tree_growNode C hQ x1 x2 x3 σ _ _ _ hf hat (lv_sub hl [0, 1, 2, 3] rfl))
set_option maxHeartbeats 4000000 in
set_option maxRecDepth 100000 in
theorem w_f_Tree_grow_82 (C : np_Cx gA p R s m args c D np_cl (np_ty cA) A np_al "NotationParse$Tree" prog_7_method_3_code 3 { frames := 4, cells := 0, slots := 0, locals := 100 }) (hQ : ∀ (pc : Nat) (ls : Array Slot) (H : Heap) (locs : List Loc) {σ : np_S}, decode prog_7_method_3_code pc = .ok (.return_, 1) → some ((0 : Int), σ) = some out → np_At D np_cl A (nc_wd q cA) s σ H locs → W p l e R s m args below meth c H locs 0 0 Q (F0 m pc ls []))   : ∀ (σ : np_S) (H : Heap) (locs : List Loc) (ls : Array Slot), f_Tree_grow_82  σ = some out → np_At D np_cl A (nc_wd q cA) s σ H locs → lv_has ls 3 [] → W p l e R s m args below meth c H locs 0 0 Q (F0 m 82 ls []) := by
  intro σ H locs ls hf hat hl
  unfold f_Tree_grow_82 at hf
  exact hQ _ _ _ _ dd_Tree_grow_82 hf hat
set_option maxHeartbeats 4000000 in
set_option maxRecDepth 100000 in
theorem w_f_Tree_grow_20 (C : np_Cx gA p R s m args c D np_cl (np_ty cA) A np_al "NotationParse$Tree" prog_7_method_3_code 3 { frames := 4, cells := 0, slots := 0, locals := 100 }) (hQ : ∀ (pc : Nat) (ls : Array Slot) (H : Heap) (locs : List Loc) {σ : np_S}, decode prog_7_method_3_code pc = .ok (.return_, 1) → some ((0 : Int), σ) = some out → np_At D np_cl A (nc_wd q cA) s σ H locs → W p l e R s m args below meth c H locs 0 0 Q (F0 m pc ls []))   : ∀ (n : Nat), ∀ (x2 : Int) (σ : np_S) (H : Heap) (locs : List Loc) (ls : Array Slot), f_Tree_grow_20  n x2 σ = some out → np_At D np_cl A (nc_wd q cA) s σ H locs → lv_has ls 3 [(0, .ref (q 15)), (2, .int (np_i x2))] → W p l e R s m args below meth c H locs 0 0 Q (F0 m 20 ls []) := by
  intro n
  induction n with
  | zero => intro x2 σ H locs ls hf; cases hf
  | succ n ih =>
    intro x2 σ H locs ls hf hat hl
    have h20 := ih
    have hf : f_Tree_grow_20_b  (fun x2 σ => f_Tree_grow_20  n x2 σ) x2 σ = some out := hf
    unfold f_Tree_grow_20_b at hf
    refine lv_iload_n C.x C.b dd_Tree_grow_20 rfl (lv_at hl 1 rfl) ?_
    refine lv_bipush (v := np_i 30) C.x C.b dd_Tree_grow_21 (by decide +kernel) ?_
    refine np_icmp_ge (tgt := 82) C dd_Tree_grow_23 (by decide) hf (fun _ hf => ?_) (fun _ hf => ?_)
    · exact w_f_Tree_grow_82 C hQ   _ _ _ _ hf hat (lv_sub hl [] rfl)
    · refine lv_aload_n C.x C.b dd_Tree_grow_26 rfl (lv_at hl 0 rfl) ?_
      refine np_get (v := .int (np_i (σ 15 9))) C i_Tree hat.1 15 (nc_o15 _) rfl 9 (by decide) tw_155 rfl rfl dd_Tree_grow_27 ?_
      refine np_if_le (tgt := 82) C dd_Tree_grow_30 (by decide) hf (fun _ hf => ?_) (fun _ hf => ?_)
      · exact w_f_Tree_grow_82 C hQ   _ _ _ _ hf hat (lv_sub hl [] rfl)
      · refine lv_aload_n C.x C.b dd_Tree_grow_33 rfl (lv_at hl 0 rfl) ?_
        refine lv_dup C.x C.b dd_Tree_grow_34 rfl ?_
        refine np_get (v := .int (np_i (σ 15 9))) C i_Tree hat.1 15 (nc_o15 _) rfl 9 (by decide) tw_155 rfl rfl dd_Tree_grow_35 ?_
        refine lv_iconst (v := np_i 1) C.x C.b dd_Tree_grow_38 rfl ?_
        refine np_isub C dd_Tree_grow_39 ?_
        refine np_put C i_Tree t_Tree tok_Tree n_Tree hat 15 (nc_o15 _) rfl 9 (by decide) tw_155 rfl rfl (by decide +kernel) (np_narI ((σ 15 9) - 1)) (np_fitI ((σ 15 9) - 1)) (Nat.le_of_ble_eq_true rfl) (nc_s15_9 _ _) dd_Tree_grow_40 (fun H locs hat => ?_)
        refine lv_aload_n C.x C.b dd_Tree_grow_43 rfl (lv_at hl 0 rfl) ?_
        refine lv_iload_n C.x C.b dd_Tree_grow_44 rfl (lv_at hl 1 rfl) ?_
        refine lv_aload_n C.x C.b dd_Tree_grow_45 rfl (lv_at hl 0 rfl) ?_
        refine np_get (v := .ref (q 22)) C i_Tree hat.1 15 (nc_o15 _) rfl 10 (by decide) tw_156 rfl rfl dd_Tree_grow_46 ?_
        refine lv_aload_n C.x C.b dd_Tree_grow_49 rfl (lv_at hl 0 rfl) ?_
        refine np_get (v := .int (np_i ((np_st σ 15 9 ((σ 15 9) - 1)) 15 9))) C i_Tree hat.1 15 (nc_o15 _) rfl 9 (by decide) tw_155 rfl rfl dd_Tree_grow_50 ?_
        refine np_iaload C hat.1 22 (nc_a22 _) 0 rfl (by decide) dd_Tree_grow_53 hf (fun hf => ?_)
        refine lv_aload_n C.x C.b dd_Tree_grow_54 rfl (lv_at hl 0 rfl) ?_
        refine np_get (v := .ref (q 23)) C i_Tree hat.1 15 (nc_o15 _) rfl 11 (by decide) tw_157 rfl rfl dd_Tree_grow_55 ?_
        refine lv_aload_n C.x C.b dd_Tree_grow_58 rfl (lv_at hl 0 rfl) ?_
        refine np_get (v := .int (np_i ((np_st σ 15 9 ((σ 15 9) - 1)) 15 9))) C i_Tree hat.1 15 (nc_o15 _) rfl 9 (by decide) tw_155 rfl rfl dd_Tree_grow_59 ?_
        refine np_iaload C hat.1 23 (nc_a23 _) 0 rfl (by decide) dd_Tree_grow_62 hf (fun hf => ?_)
        refine np_callVv (As := [.int (np_i x2), .int (np_i ((np_st σ 15 9 ((σ 15 9) - 1)) 22 ((np_st σ 15 9 ((σ 15 9) - 1)) 15 9))), .int (np_i ((np_st σ 15 9 ((σ 15 9) - 1)) 23 ((np_st σ 15 9 ((σ 15 9) - 1)) 15 9)))]) (rest := []) C (c_Tree_growNode l x2 ((np_st σ 15 9 ((σ 15 9) - 1)) 22 ((np_st σ 15 9 ((σ 15 9) - 1)) 15 9)) ((np_st σ 15 9 ((σ 15 9) - 1)) 23 ((np_st σ 15 9 ((σ 15 9) - 1)) 15 9)) _) np_allgood tw_846 tw_848 tp_23 tw_6 tw_849 (nA := 3) (by decide +kernel) rfl ⟨rfl, rfl, Nat.le_of_ble_eq_true rfl, Nat.le_of_ble_eq_true rfl⟩ (va_recv C.k hat.1 (ci := 4) (q0 := 15) rfl (nc_o15 _)) hat rfl hl.1 (Nat.le_of_ble_eq_true rfl) dd_Tree_grow_63 hf (fun o1 H locs hf hat => ?_)
        refine lv_aload_n C.x C.b dd_Tree_grow_66 rfl (lv_at hl 0 rfl) ?_
        refine lv_dup C.x C.b dd_Tree_grow_67 rfl ?_
        refine np_get (v := .int (np_i (o1.2 15 2))) C i_Tree hat.1 15 (nc_o15 _) rfl 2 (by decide) tw_142 rfl rfl dd_Tree_grow_68 ?_
        refine lv_iconst (v := np_i 1) C.x C.b dd_Tree_grow_71 rfl ?_
        refine np_iadd C dd_Tree_grow_72 ?_
        refine np_put C i_Tree t_Tree tok_Tree n_Tree hat 15 (nc_o15 _) rfl 2 (by decide) tw_142 rfl rfl (by decide +kernel) (np_narI ((o1.2 15 2) + 1)) (np_fitI ((o1.2 15 2) + 1)) (Nat.le_of_ble_eq_true rfl) (nc_s15_2 _ _) dd_Tree_grow_73 (fun H locs hat => ?_)
        refine lv_iinc (v := np_i (x2 + 1)) (lv' := [(2, .int (np_i (x2 + 1))), (0, .ref (q 15))]) C.x C.b dd_Tree_grow_76 hl (k := 1) rfl (np_inc _ _) (by decide) rfl (fun ls hl => ?_)
        refine lv_goto (tgt := 20) C.x C.b dd_Tree_grow_79 (by decide) ?_
        exact h20 _ _ _ _ _ hf hat (lv_sub hl [1, 0] rfl)
set_option maxHeartbeats 4000000 in
set_option maxRecDepth 100000 in
theorem w_f_Tree_grow (C : np_Cx gA p R s m args c D np_cl (np_ty cA) A np_al "NotationParse$Tree" prog_7_method_3_code 3 { frames := 4, cells := 0, slots := 0, locals := 100 }) (hQ : ∀ (pc : Nat) (ls : Array Slot) (H : Heap) (locs : List Loc) {σ : np_S}, decode prog_7_method_3_code pc = .ok (.return_, 1) → some ((0 : Int), σ) = some out → np_At D np_cl A (nc_wd q cA) s σ H locs → W p l e R s m args below meth c H locs 0 0 Q (F0 m pc ls []))   : ∀ (x1 : Int) (σ : np_S) (H : Heap) (locs : List Loc) (ls : Array Slot), f_Tree_grow  x1 σ = some out → np_At D np_cl A (nc_wd q cA) s σ H locs → lv_has ls 3 [(0, .ref (q 15)), (1, .int (np_i x1))] → W p l e R s m args below meth c H locs 0 0 Q (F0 m 0 ls []) := by
  intro x1 σ H locs ls hf hat hl
  unfold f_Tree_grow at hf
  refine lv_aload_n C.x C.b dd_Tree_grow_0 rfl (lv_at hl 0 rfl) ?_
  refine lv_iconst (v := np_i 0) C.x C.b dd_Tree_grow_1 rfl ?_
  refine np_put C i_Tree t_Tree tok_Tree n_Tree hat 15 (nc_o15 _) rfl 2 (by decide) tw_142 rfl rfl (by decide +kernel) (np_narI 0) (np_fitI 0) (Nat.le_of_ble_eq_true rfl) (nc_s15_2 _ _) dd_Tree_grow_2 (fun H locs hat => ?_)
  refine lv_aload_n C.x C.b dd_Tree_grow_5 rfl (lv_at hl 0 rfl) ?_
  refine lv_iconst (v := np_i 0) C.x C.b dd_Tree_grow_6 rfl ?_
  refine np_put C i_Tree t_Tree tok_Tree n_Tree hat 15 (nc_o15 _) rfl 9 (by decide) tw_155 rfl rfl (by decide +kernel) (np_narI 0) (np_fitI 0) (Nat.le_of_ble_eq_true rfl) (nc_s15_9 _ _) dd_Tree_grow_7 (fun H locs hat => ?_)
  refine lv_aload_n C.x C.b dd_Tree_grow_10 rfl (lv_at hl 0 rfl) ?_
  refine lv_iconst (v := np_i 0) C.x C.b dd_Tree_grow_11 rfl ?_
  refine lv_iload_n C.x C.b dd_Tree_grow_12 rfl (lv_at hl 1 rfl) ?_
  refine lv_iconst (v := np_i 0) C.x C.b dd_Tree_grow_13 rfl ?_
  refine lv_iconst (v := np_i (-1)) C.x C.b dd_Tree_grow_14 rfl ?_
  refine np_callVv (As := [.int (np_i 0), .int (np_i x1), .int (np_i 0), .int (np_i ((-1)))]) (rest := []) C (c_Tree_await l 0 x1 0 ((-1)) _) np_allgood tw_842 tw_844 tp_22 tw_6 tw_845 (nA := 4) (by decide +kernel) rfl ⟨rfl, rfl, Nat.le_of_ble_eq_true rfl, Nat.le_of_ble_eq_true rfl⟩ (va_recv C.k hat.1 (ci := 4) (q0 := 15) rfl (nc_o15 _)) hat rfl hl.1 (Nat.le_of_ble_eq_true rfl) dd_Tree_grow_15 hf (fun o2 H locs hf hat => ?_)
  refine lv_iconst (v := np_i 0) C.x C.b dd_Tree_grow_18 rfl ?_
  refine lv_istore_n (lv' := [(2, .int (np_i 0)), (0, .ref (q 15)), (1, .int (np_i x1))]) C.x C.b dd_Tree_grow_19 rfl hl (by decide) rfl (fun ls hl => ?_)
  exact w_f_Tree_grow_20 C hQ  20000 _ _ _ _ _ hf hat (lv_sub hl [1, 0] rfl)
set_option maxHeartbeats 4000000 in
set_option maxRecDepth 100000 in
theorem c_Tree_grow (l : Launch) {gA : Nat → Nat} {D : va_G} {q : Nat → Nat} {cA : Nat → ClassId} (x1 : Int) (σ : np_S) : np_Mv gA l D np_cl (np_ty cA) (nc_wd q cA) yy_Tree_grow (.code yy_Tree_grow prog_7_method_3_code 3 none :: np_al) { frames := 4, cells := 0, slots := 0, locals := 100 } [.ref (q 15), .int (np_i x1)] σ (f_Tree_grow x1 σ) :=
  np_mkv (by decide +kernel) (Nat.le_of_ble_eq_true rfl) (fun o p e R s m args below meth c Q A ls hf C hQ hat hl => w_f_Tree_grow C hQ x1 σ _ _ _ hf hat (lv_sub hl [0, 1] rfl))
set_option maxHeartbeats 4000000 in
set_option maxRecDepth 100000 in
theorem w_f_N_fault (C : np_Cx gA p R s m args c D np_cl (np_ty cA) A np_al "NotationParse" prog_1_method_10_code 2 { frames := 0, cells := 0, slots := 0, locals := 0 }) (hQ : ∀ (pc : Nat) (ls : Array Slot) (H : Heap) (locs : List Loc) (v : Int) {σ : np_S}, decode prog_1_method_10_code pc = .ok (.ireturn, 1) → some (v, σ) = some out → np_At D np_cl A (nc_wd q cA) s σ H locs → W p l e R s m args below meth c H locs 0 0 Q (F0 m pc ls [.int (np_i v)]))   : ∀ (x1 : Int) (σ : np_S) (H : Heap) (locs : List Loc) (ls : Array Slot), f_N_fault  x1 σ = some out → np_At D np_cl A (nc_wd q cA) s σ H locs → lv_has ls 2 [(0, .ref (q 0)), (1, .int (np_i x1))] → W p l e R s m args below meth c H locs 0 0 Q (F0 m 0 ls []) := by
  intro x1 σ H locs ls hf hat hl
  unfold f_N_fault at hf
  refine lv_iload_n C.x C.b dd_N_fault_0 rfl (lv_at hl 1 rfl) ?_
  obtain ⟨hR, hf⟩ := np_ck_e hf
  refine np_case hf (fun hx hf => ?_) (fun n0 hf => ?_)
  · refine np_lswI (tgt := 28) (off := 27) C dd_N_fault_1 hx (by decide +kernel) (by decide +kernel) (by decide) ?_
    refine lv_aload_n C.x C.b dd_N_fault_28 rfl (lv_at hl 0 rfl) ?_
    refine np_get (v := .int (np_i (σ 0 5))) C i_N hat.1 0 (nc_o0 _) rfl 5 (by decide) tw_209 rfl rfl dd_N_fault_29 ?_
    exact hQ _ _ _ _ _ dd_N_fault_32 hf hat
  refine np_case hf (fun hx hf => ?_) (fun n1 hf => ?_)
  · refine np_lswI (tgt := 33) (off := 32) C dd_N_fault_1 hx (by decide +kernel) (by decide +kernel) (by decide) ?_
    refine lv_aload_n C.x C.b dd_N_fault_33 rfl (lv_at hl 0 rfl) ?_
    refine np_get (v := .int (np_i (σ 0 6))) C i_N hat.1 0 (nc_o0 _) rfl 6 (by decide) tw_210 rfl rfl dd_N_fault_34 ?_
    exact hQ _ _ _ _ _ dd_N_fault_37 hf hat
  refine np_lswO (tgt := 38) C dd_N_fault_1 hR (by decide +kernel) (by simp only [List.mem_cons, List.not_mem_nil, or_false, forall_eq_or_imp, forall_eq]; omega) (by decide) ?_
  refine lv_iconst (v := np_i (-1)) C.x C.b dd_N_fault_38 rfl ?_
  exact hQ _ _ _ _ _ dd_N_fault_39 hf hat
set_option maxHeartbeats 4000000 in
set_option maxRecDepth 100000 in
theorem c_N_fault (l : Launch) {gA : Nat → Nat} {D : va_G} {q : Nat → Nat} {cA : Nat → ClassId} (x1 : Int) (σ : np_S) : np_Mi gA l D np_cl (np_ty cA) (nc_wd q cA) yy_N_fault (.code yy_N_fault prog_1_method_10_code 2 (some .int) :: np_al) { frames := 0, cells := 0, slots := 0, locals := 0 } [.ref (q 0), .int (np_i x1)] σ (f_N_fault x1 σ) :=
  np_mki (by decide +kernel) (Nat.le_of_ble_eq_true rfl) (fun o p e R s m args below meth c Q A ls hf C hQ hat hl => w_f_N_fault C hQ x1 σ _ _ _ hf hat (lv_sub hl [0, 1] rfl))
set_option maxHeartbeats 4000000 in
set_option maxRecDepth 100000 in
theorem w_f_Tree_levelWithin_27 (C : np_Cx gA p R s m args c D np_cl (np_ty cA) A np_al "NotationParse$Tree" prog_7_method_8_code 3 { frames := 0, cells := 0, slots := 0, locals := 0 }) (hQ : ∀ (pc : Nat) (ls : Array Slot) (H : Heap) (locs : List Loc) (v : Int) {σ : np_S}, decode prog_7_method_8_code pc = .ok (.ireturn, 1) → some (v, σ) = some out → np_At D np_cl A (nc_wd q cA) s σ H locs → W p l e R s m args below meth c H locs 0 0 Q (F0 m pc ls [.int (np_i v)]))   : ∀ (x2 : Int) (σ : np_S) (H : Heap) (locs : List Loc) (ls : Array Slot), f_Tree_levelWithin_27  x2 σ = some out → np_At D np_cl A (nc_wd q cA) s σ H locs → lv_has ls 3 [(0, .ref (q 15)), (2, .int (np_i x2))] → W p l e R s m args below meth c H locs 0 0 Q (F0 m 27 ls []) := by
  intro x2 σ H locs ls hf hat hl
  unfold f_Tree_levelWithin_27 at hf
  refine lv_aload_n C.x C.b dd_Tree_levelWithin_27 rfl (lv_at hl 0 rfl) ?_
  refine np_get (v := .ref (q 1)) C i_Tree hat.1 15 (nc_o15 _) rfl 0 (by decide) tw_140 rfl rfl dd_Tree_levelWithin_28 ?_
  refine np_get (v := .ref (q 4)) C i_Grammar hat.1 1 (nc_o1 _) rfl 2 (by decide) tw_57 rfl rfl dd_Tree_levelWithin_31 ?_
  refine lv_aload_n C.x C.b dd_Tree_levelWithin_34 rfl (lv_at hl 0 rfl) ?_
  refine np_get (v := .ref (q 16)) C i_Tree hat.1 15 (nc_o15 _) rfl 3 (by decide) tw_144 rfl rfl dd_Tree_levelWithin_35 ?_
  refine lv_iload_n C.x C.b dd_Tree_levelWithin_38 rfl (lv_at hl 1 rfl) ?_
  refine np_iaload C hat.1 16 (nc_a16 _) 0 rfl (by decide) dd_Tree_levelWithin_39 hf (fun hf => ?_)
  refine np_iaload C hat.1 4 (nc_a4 _) 0 rfl (by decide) dd_Tree_levelWithin_40 hf (fun hf => ?_)
  exact hQ _ _ _ _ _ dd_Tree_levelWithin_41 hf hat
set_option maxHeartbeats 4000000 in
set_option maxRecDepth 100000 in
theorem w_f_Tree_levelWithin_2 (C : np_Cx gA p R s m args c D np_cl (np_ty cA) A np_al "NotationParse$Tree" prog_7_method_8_code 3 { frames := 0, cells := 0, slots := 0, locals := 0 }) (hQ : ∀ (pc : Nat) (ls : Array Slot) (H : Heap) (locs : List Loc) (v : Int) {σ : np_S}, decode prog_7_method_8_code pc = .ok (.ireturn, 1) → some (v, σ) = some out → np_At D np_cl A (nc_wd q cA) s σ H locs → W p l e R s m args below meth c H locs 0 0 Q (F0 m pc ls [.int (np_i v)]))   : ∀ (n : Nat), ∀ (x2 : Int) (σ : np_S) (H : Heap) (locs : List Loc) (ls : Array Slot), f_Tree_levelWithin_2  n x2 σ = some out → np_At D np_cl A (nc_wd q cA) s σ H locs → lv_has ls 3 [(0, .ref (q 15)), (2, .int (np_i x2))] → W p l e R s m args below meth c H locs 0 0 Q (F0 m 2 ls []) := by
  intro n
  induction n with
  | zero => intro x2 σ H locs ls hf; cases hf
  | succ n ih =>
    intro x2 σ H locs ls hf hat hl
    have h2 := ih
    have hf : f_Tree_levelWithin_2_b  (fun x2 σ => f_Tree_levelWithin_2  n x2 σ) x2 σ = some out := hf
    unfold f_Tree_levelWithin_2_b at hf
    refine lv_iload_n C.x C.b dd_Tree_levelWithin_2 rfl (lv_at hl 1 rfl) ?_
    refine lv_aload_n C.x C.b dd_Tree_levelWithin_3 rfl (lv_at hl 0 rfl) ?_
    refine np_get (v := .int (np_i (σ 15 2))) C i_Tree hat.1 15 (nc_o15 _) rfl 2 (by decide) tw_142 rfl rfl dd_Tree_levelWithin_4 ?_
    refine lv_iconst (v := np_i 1) C.x C.b dd_Tree_levelWithin_7 rfl ?_
    refine np_isub C dd_Tree_levelWithin_8 ?_
    refine np_icmp_ge (tgt := 27) C dd_Tree_levelWithin_9 (by decide) hf (fun _ hf => ?_) (fun _ hf => ?_)
    · exact w_f_Tree_levelWithin_27 C hQ  _ _ _ _ _ hf hat (lv_sub hl [0, 1] rfl)
    · refine lv_aload_n C.x C.b dd_Tree_levelWithin_12 rfl (lv_at hl 0 rfl) ?_
      refine np_get (v := .ref (q 16)) C i_Tree hat.1 15 (nc_o15 _) rfl 3 (by decide) tw_144 rfl rfl dd_Tree_levelWithin_13 ?_
      refine lv_iload_n C.x C.b dd_Tree_levelWithin_16 rfl (lv_at hl 1 rfl) ?_
      refine np_iaload C hat.1 16 (nc_a16 _) 0 rfl (by decide) dd_Tree_levelWithin_17 hf (fun hf => ?_)
      refine np_if_ne (tgt := 27) C dd_Tree_levelWithin_18 (by decide) hf (fun _ hf => ?_) (fun _ hf => ?_)
      · exact w_f_Tree_levelWithin_27 C hQ  _ _ _ _ _ hf hat (lv_sub hl [0, 1] rfl)
      · refine lv_iinc (v := np_i (x2 + 1)) (lv' := [(2, .int (np_i (x2 + 1))), (0, .ref (q 15))]) C.x C.b dd_Tree_levelWithin_21 hl (k := 1) rfl (np_inc _ _) (by decide) rfl (fun ls hl => ?_)
        refine lv_goto (tgt := 2) C.x C.b dd_Tree_levelWithin_24 (by decide) ?_
        exact h2 _ _ _ _ _ hf hat (lv_sub hl [1, 0] rfl)
set_option maxHeartbeats 4000000 in
set_option maxRecDepth 100000 in
theorem w_f_Tree_levelWithin (C : np_Cx gA p R s m args c D np_cl (np_ty cA) A np_al "NotationParse$Tree" prog_7_method_8_code 3 { frames := 0, cells := 0, slots := 0, locals := 0 }) (hQ : ∀ (pc : Nat) (ls : Array Slot) (H : Heap) (locs : List Loc) (v : Int) {σ : np_S}, decode prog_7_method_8_code pc = .ok (.ireturn, 1) → some (v, σ) = some out → np_At D np_cl A (nc_wd q cA) s σ H locs → W p l e R s m args below meth c H locs 0 0 Q (F0 m pc ls [.int (np_i v)]))   : ∀ (x1 : Int) (σ : np_S) (H : Heap) (locs : List Loc) (ls : Array Slot), f_Tree_levelWithin  x1 σ = some out → np_At D np_cl A (nc_wd q cA) s σ H locs → lv_has ls 3 [(0, .ref (q 15)), (1, .int (np_i x1))] → W p l e R s m args below meth c H locs 0 0 Q (F0 m 0 ls []) := by
  intro x1 σ H locs ls hf hat hl
  unfold f_Tree_levelWithin at hf
  refine lv_iload_n C.x C.b dd_Tree_levelWithin_0 rfl (lv_at hl 1 rfl) ?_
  refine lv_istore_n (lv' := [(2, .int (np_i x1)), (0, .ref (q 15)), (1, .int (np_i x1))]) C.x C.b dd_Tree_levelWithin_1 rfl hl (by decide) rfl (fun ls hl => ?_)
  exact w_f_Tree_levelWithin_2 C hQ  20000 _ _ _ _ _ hf hat (lv_sub hl [1, 0] rfl)
set_option maxHeartbeats 4000000 in
set_option maxRecDepth 100000 in
theorem c_Tree_levelWithin (l : Launch) {gA : Nat → Nat} {D : va_G} {q : Nat → Nat} {cA : Nat → ClassId} (x1 : Int) (σ : np_S) : np_Mi gA l D np_cl (np_ty cA) (nc_wd q cA) yy_Tree_levelWithin (.code yy_Tree_levelWithin prog_7_method_8_code 3 (some .int) :: np_al) { frames := 0, cells := 0, slots := 0, locals := 0 } [.ref (q 15), .int (np_i x1)] σ (f_Tree_levelWithin x1 σ) :=
  np_mki (by decide +kernel) (Nat.le_of_ble_eq_true rfl) (fun o p e R s m args below meth c Q A ls hf C hQ hat hl => w_f_Tree_levelWithin C hQ x1 σ _ _ _ hf hat (lv_sub hl [0, 1] rfl))
set_option maxHeartbeats 4000000 in
set_option maxRecDepth 100000 in
theorem w_f_Tree_needlessBrackets_64 (C : np_Cx gA p R s m args c D np_cl (np_ty cA) A np_al "NotationParse$Tree" prog_7_method_7_code 3 { frames := 1, cells := 0, slots := 0, locals := 22 }) (hQ : ∀ (pc : Nat) (ls : Array Slot) (H : Heap) (locs : List Loc) (v : Int) {σ : np_S}, decode prog_7_method_7_code pc = .ok (.ireturn, 1) → some (v, σ) = some out → np_At D np_cl A (nc_wd q cA) s σ H locs → W p l e R s m args below meth c H locs 0 0 Q (F0 m pc ls [.int (np_i v)])) {k4 : (Int → Int → np_S → Option np_O)} (h4 : ∀ (x1 x2 : Int) (σ : np_S) (H : Heap) (locs : List Loc) (ls : Array Slot), k4 x1 x2 σ = some out → np_At D np_cl A (nc_wd q cA) s σ H locs → lv_has ls 3 [(0, .ref (q 15)), (1, .int (np_i x1)), (2, .int (np_i x2))] → W p l e R s m args below meth c H locs 0 0 Q (F0 m 4 ls [])) : ∀ (x1 x2 : Int) (σ : np_S) (H : Heap) (locs : List Loc) (ls : Array Slot), f_Tree_needlessBrackets_64 k4 x1 x2 σ = some out → np_At D np_cl A (nc_wd q cA) s σ H locs → lv_has ls 3 [(0, .ref (q 15)), (1, .int (np_i x1)), (2, .int (np_i x2))] → W p l e R s m args below meth c H locs 0 0 Q (F0 m 64 ls []) := by
  intro x1 x2 σ H locs ls hf hat hl
  unfold f_Tree_needlessBrackets_64 at hf
  refine lv_iinc (v := np_i (x2 + 1)) (lv' := [(2, .int (np_i (x2 + 1))), (0, .ref (q 15)), (1, .int (np_i x1))]) C.x C.b dd_Tree_needlessBrackets_64 hl (k := 2) rfl (np_inc _ _) (by decide) rfl (fun ls hl => ?_)
  refine lv_goto (tgt := 4) C.x C.b dd_Tree_needlessBrackets_67 (by decide) ?_
  exact h4 _ _ _ _ _ _ hf hat (lv_sub hl [1, 2, 0] rfl)
set_option maxHeartbeats 4000000 in
set_option maxRecDepth 100000 in
theorem w_f_Tree_needlessBrackets_4 (C : np_Cx gA p R s m args c D np_cl (np_ty cA) A np_al "NotationParse$Tree" prog_7_method_7_code 3 { frames := 1, cells := 0, slots := 0, locals := 22 }) (hQ : ∀ (pc : Nat) (ls : Array Slot) (H : Heap) (locs : List Loc) (v : Int) {σ : np_S}, decode prog_7_method_7_code pc = .ok (.ireturn, 1) → some (v, σ) = some out → np_At D np_cl A (nc_wd q cA) s σ H locs → W p l e R s m args below meth c H locs 0 0 Q (F0 m pc ls [.int (np_i v)]))   : ∀ (n : Nat), ∀ (x1 x2 : Int) (σ : np_S) (H : Heap) (locs : List Loc) (ls : Array Slot), f_Tree_needlessBrackets_4  n x1 x2 σ = some out → np_At D np_cl A (nc_wd q cA) s σ H locs → lv_has ls 3 [(0, .ref (q 15)), (1, .int (np_i x1)), (2, .int (np_i x2))] → W p l e R s m args below meth c H locs 0 0 Q (F0 m 4 ls []) := by
  intro n
  induction n with
  | zero => intro x1 x2 σ H locs ls hf; cases hf
  | succ n ih =>
    intro x1 x2 σ H locs ls hf hat hl
    have h4 := ih
    have hf : f_Tree_needlessBrackets_4_b  (fun x1 x2 σ => f_Tree_needlessBrackets_4  n x1 x2 σ) x1 x2 σ = some out := hf
    unfold f_Tree_needlessBrackets_4_b at hf
    refine lv_iload_n C.x C.b dd_Tree_needlessBrackets_4 rfl (lv_at hl 2 rfl) ?_
    refine lv_aload_n C.x C.b dd_Tree_needlessBrackets_5 rfl (lv_at hl 0 rfl) ?_
    refine np_get (v := .int (np_i (σ 15 2))) C i_Tree hat.1 15 (nc_o15 _) rfl 2 (by decide) tw_142 rfl rfl dd_Tree_needlessBrackets_6 ?_
    refine np_icmp_ge (tgt := 70) C dd_Tree_needlessBrackets_9 (by decide) hf (fun _ hf => ?_) (fun _ hf => ?_)
    · refine lv_iload_n C.x C.b dd_Tree_needlessBrackets_70 rfl (lv_at hl 1 rfl) ?_
      exact hQ _ _ _ _ _ dd_Tree_needlessBrackets_71 hf hat
    · refine lv_aload_n C.x C.b dd_Tree_needlessBrackets_12 rfl (lv_at hl 0 rfl) ?_
      refine np_get (v := .ref (q 16)) C i_Tree hat.1 15 (nc_o15 _) rfl 3 (by decide) tw_144 rfl rfl dd_Tree_needlessBrackets_13 ?_
      refine lv_iload_n C.x C.b dd_Tree_needlessBrackets_16 rfl (lv_at hl 2 rfl) ?_
      refine np_iaload C hat.1 16 (nc_a16 _) 0 rfl (by decide) dd_Tree_needlessBrackets_17 hf (fun hf => ?_)
      refine np_if_ne (tgt := 64) C dd_Tree_needlessBrackets_18 (by decide) hf (fun _ hf => ?_) (fun _ hf => ?_)
      · exact w_f_Tree_needlessBrackets_64 C hQ h4 _ _ _ _ _ _ hf hat (lv_sub hl [0, 1, 2] rfl)
      · refine lv_aload_n C.x C.b dd_Tree_needlessBrackets_21 rfl (lv_at hl 0 rfl) ?_
        refine lv_iload_n C.x C.b dd_Tree_needlessBrackets_22 rfl (lv_at hl 2 rfl) ?_
        refine np_callVi (As := [.int (np_i x2)]) (rest := []) C (c_Tree_levelWithin l x2 _) np_allgood tw_899 tw_901 tp_25 tw_6 tw_902 (nA := 1) (by decide +kernel) rfl ⟨rfl, rfl, Nat.le_of_ble_eq_true rfl, Nat.le_of_ble_eq_true rfl⟩ (va_recv C.k hat.1 (ci := 4) (q0 := 15) rfl (nc_o15 _)) hat rfl hl.1 (Nat.le_of_ble_eq_true rfl) dd_Tree_needlessBrackets_23 hf (fun o1 H locs hf hat => ?_)
        refine lv_aload_n C.x C.b dd_Tree_needlessBrackets_26 rfl (lv_at hl 0 rfl) ?_
        refine np_get (v := .ref (q 21)) C i_Tree hat.1 15 (nc_o15 _) rfl 8 (by decide) tw_154 rfl rfl dd_Tree_needlessBrackets_27 ?_
        refine lv_iload_n C.x C.b dd_Tree_needlessBrackets_30 rfl (lv_at hl 2 rfl) ?_
        refine np_iaload C hat.1 21 (nc_a21 _) 0 rfl (by decide) dd_Tree_needlessBrackets_31 hf (fun hf => ?_)
        refine np_icmp_lt (tgt := 64) C dd_Tree_needlessBrackets_32 (by decide) hf (fun _ hf => ?_) (fun _ hf => ?_)
        · exact w_f_Tree_needlessBrackets_64 C hQ h4 _ _ _ _ _ _ hf hat (lv_sub hl [0, 1, 2] rfl)
        · refine lv_iload_n C.x C.b dd_Tree_needlessBrackets_35 rfl (lv_at hl 1 rfl) ?_
          refine lv_iconst (v := np_i 1) C.x C.b dd_Tree_needlessBrackets_36 rfl ?_
          refine lv_aload_n C.x C.b dd_Tree_needlessBrackets_37 rfl (lv_at hl 0 rfl) ?_
          refine np_get (v := .ref (q 18)) C i_Tree hat.1 15 (nc_o15 _) rfl 5 (by decide) tw_148 rfl rfl dd_Tree_needlessBrackets_38 ?_
          refine lv_iload_n C.x C.b dd_Tree_needlessBrackets_41 rfl (lv_at hl 2 rfl) ?_
          refine np_iaload C hat.1 18 (nc_a18 _) 0 rfl (by decide) dd_Tree_needlessBrackets_42 hf (fun hf => ?_)
          refine np_ishl C dd_Tree_needlessBrackets_43 ?_
          refine lv_iconst (v := np_i 1) C.x C.b dd_Tree_needlessBrackets_44 rfl ?_
          refine lv_aload_n C.x C.b dd_Tree_needlessBrackets_45 rfl (lv_at hl 0 rfl) ?_
          refine np_get (v := .ref (q 18)) C i_Tree hat.1 15 (nc_o15 _) rfl 5 (by decide) tw_148 rfl rfl dd_Tree_needlessBrackets_46 ?_
          refine lv_iload_n C.x C.b dd_Tree_needlessBrackets_49 rfl (lv_at hl 2 rfl) ?_
          refine np_iaload C hat.1 18 (nc_a18 _) 0 rfl (by decide) dd_Tree_needlessBrackets_50 hf (fun hf => ?_)
          refine lv_aload_n C.x C.b dd_Tree_needlessBrackets_51 rfl (lv_at hl 0 rfl) ?_
          refine np_get (v := .ref (q 19)) C i_Tree hat.1 15 (nc_o15 _) rfl 6 (by decide) tw_150 rfl rfl dd_Tree_needlessBrackets_52 ?_
          refine lv_iload_n C.x C.b dd_Tree_needlessBrackets_55 rfl (lv_at hl 2 rfl) ?_
          refine np_iaload C hat.1 19 (nc_a19 _) 0 rfl (by decide) dd_Tree_needlessBrackets_56 hf (fun hf => ?_)
          refine np_iadd C dd_Tree_needlessBrackets_57 ?_
          refine lv_iconst (v := np_i 1) C.x C.b dd_Tree_needlessBrackets_58 rfl ?_
          refine np_isub C dd_Tree_needlessBrackets_59 ?_
          refine np_ishl C dd_Tree_needlessBrackets_60 ?_
          refine np_ior C dd_Tree_needlessBrackets_61 ?_
          refine np_ior C dd_Tree_needlessBrackets_62 ?_
          refine lv_istore_n (lv' := [(1, .int (np_i (np_ori x1 (np_ori (np_shli 1 (o1.2 18 x2)) (np_shli 1 (((o1.2 18 x2) + (o1.2 19 x2)) - 1)))))), (0, .ref (q 15)), (2, .int (np_i x2))]) C.x C.b dd_Tree_needlessBrackets_63 rfl hl (by decide) rfl (fun ls hl => ?_)
          exact w_f_Tree_needlessBrackets_64 C hQ h4 _ _ _ _ _ _ hf hat (lv_sub hl [1, 0, 2] rfl)
set_option maxHeartbeats 4000000 in
set_option maxRecDepth 100000 in
theorem w_f_Tree_needlessBrackets (C : np_Cx gA p R s m args c D np_cl (np_ty cA) A np_al "NotationParse$Tree" prog_7_method_7_code 3 { frames := 1, cells := 0, slots := 0, locals := 22 }) (hQ : ∀ (pc : Nat) (ls : Array Slot) (H : Heap) (locs : List Loc) (v : Int) {σ : np_S}, decode prog_7_method_7_code pc = .ok (.ireturn, 1) → some (v, σ) = some out → np_At D np_cl A (nc_wd q cA) s σ H locs → W p l e R s m args below meth c H locs 0 0 Q (F0 m pc ls [.int (np_i v)]))   : ∀ (σ : np_S) (H : Heap) (locs : List Loc) (ls : Array Slot), f_Tree_needlessBrackets  σ = some out → np_At D np_cl A (nc_wd q cA) s σ H locs → lv_has ls 3 [(0, .ref (q 15))] → W p l e R s m args below meth c H locs 0 0 Q (F0 m 0 ls []) := by
  intro σ H locs ls hf hat hl
  unfold f_Tree_needlessBrackets at hf
  refine lv_iconst (v := np_i 0) C.x C.b dd_Tree_needlessBrackets_0 rfl ?_
  refine lv_istore_n (lv' := [(1, .int (np_i 0)), (0, .ref (q 15))]) C.x C.b dd_Tree_needlessBrackets_1 rfl hl (by decide) rfl (fun ls hl => ?_)
  refine lv_iconst (v := np_i 0) C.x C.b dd_Tree_needlessBrackets_2 rfl ?_
  refine lv_istore_n (lv' := [(2, .int (np_i 0)), (1, .int (np_i 0)), (0, .ref (q 15))]) C.x C.b dd_Tree_needlessBrackets_3 rfl hl (by decide) rfl (fun ls hl => ?_)
  exact w_f_Tree_needlessBrackets_4 C hQ  20000 _ _ _ _ _ _ hf hat (lv_sub hl [2, 1, 0] rfl)
set_option maxHeartbeats 4000000 in
set_option maxRecDepth 100000 in
theorem c_Tree_needlessBrackets (l : Launch) {gA : Nat → Nat} {D : va_G} {q : Nat → Nat} {cA : Nat → ClassId} (σ : np_S) : np_Mi gA l D np_cl (np_ty cA) (nc_wd q cA) yy_Tree_needlessBrackets (.code yy_Tree_needlessBrackets prog_7_method_7_code 3 (some .int) :: np_al) { frames := 1, cells := 0, slots := 0, locals := 22 } [.ref (q 15)] σ (f_Tree_needlessBrackets  σ) :=
  np_mki (by decide +kernel) (Nat.le_of_ble_eq_true rfl) (fun o p e R s m args below meth c Q A ls hf C hQ hat hl => w_f_Tree_needlessBrackets C hQ  σ _ _ _ hf hat (lv_sub hl [0] rfl))
end NW4
