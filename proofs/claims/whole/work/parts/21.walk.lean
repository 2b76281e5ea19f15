section NW1
variable {p : Program} {l : Launch} {e : Env} {R : Room} {s : State} {m : MethodId} {args : Array Value} {below : List Frame} {meth : Method} {c : Code} {Q : State → Prop} {D : va_G} {A : Nat → Prop} {q : Nat → Nat} {cA : Nat → ClassId} {out : np_O} {gA : Nat → Nat}
set_option maxHeartbeats 4000000 in
set_option maxRecDepth 100000 in
theorem w_f_Spelling_kindOf_12 (C : np_Cx gA p R s m args c D np_cl (np_ty cA) A np_al "NotationParse$Spelling" prog_5_method_2_code 1 { frames := 4, cells := 0, slots := 0, locals := 91 }) (hQ : ∀ (pc : Nat) (ls : Array Slot) (H : Heap) (locs : List Loc) (v : Int) {σ : np_S}, decode prog_5_method_2_code pc = .ok (.ireturn, 1) → some (v, σ) = some out → np_At D np_cl A (nc_wd q cA) s σ H locs → W p l e R s m args below meth c H locs 0 0 Q (F0 m pc ls [.int (np_i v)]))   : ∀ (σ : np_S) (H : Heap) (locs : List Loc) (ls : Array Slot), f_Spelling_kindOf_12  σ = some out → np_At D np_cl A (nc_wd q cA) s σ H locs → lv_has ls 1 [] → W p l e R s m args below meth c H locs 0 0 Q (F0 m 12 ls []) := by
  intro σ H locs ls hf hat hl
  unfold f_Spelling_kindOf_12 at hf
  refine lv_iconst (v := np_i 1) C.x C.b dd_Spelling_kindOf_12 rfl ?_
  exact hQ _ _ _ _ _ dd_Spelling_kindOf_13 hf hat
set_option maxHeartbeats 4000000 in
set_option maxRecDepth 100000 in
theorem w_f_Spelling_kindOf_81 (C : np_Cx gA p R s m args c D np_cl (np_ty cA) A np_al "NotationParse$Spelling" prog_5_method_2_code 1 { frames := 4, cells := 0, slots := 0, locals := 91 }) (hQ : ∀ (pc : Nat) (ls : Array Slot) (H : Heap) (locs : List Loc) (v : Int) {σ : np_S}, decode prog_5_method_2_code pc = .ok (.ireturn, 1) → some (v, σ) = some out → np_At D np_cl A (nc_wd q cA) s σ H locs → W p l e R s m args below meth c H locs 0 0 Q (F0 m pc ls [.int (np_i v)]))   : ∀ (t0 : Int) (σ : np_S) (H : Heap) (locs : List Loc) (ls : Array Slot), f_Spelling_kindOf_81  t0 σ = some out → np_At D np_cl A (nc_wd q cA) s σ H locs → lv_has ls 1 [] → W p l e R s m args below meth c H locs 0 0 Q (F0 m 81 ls [.int (np_i t0)]) := by
  intro t0 σ H locs ls hf hat hl
  unfold f_Spelling_kindOf_81 at hf
  exact hQ _ _ _ _ _ dd_Spelling_kindOf_81 hf hat
set_option maxHeartbeats 4000000 in
set_option maxRecDepth 100000 in
theorem w_f_Spelling_kindOf_54 (C : np_Cx gA p R s m args c D np_cl (np_ty cA) A np_al "NotationParse$Spelling" prog_5_method_2_code 1 { frames := 4, cells := 0, slots := 0, locals := 91 }) (hQ : ∀ (pc : Nat) (ls : Array Slot) (H : Heap) (locs : List Loc) (v : Int) {σ : np_S}, decode prog_5_method_2_code pc = .ok (.ireturn, 1) → some (v, σ) = some out → np_At D np_cl A (nc_wd q cA) s σ H locs → W p l e R s m args below meth c H locs 0 0 Q (F0 m pc ls [.int (np_i v)]))   : ∀ (x0 : Int) (σ : np_S) (H : Heap) (locs : List Loc) (ls : Array Slot), f_Spelling_kindOf_54  x0 σ = some out → np_At D np_cl A (nc_wd q cA) s σ H locs → lv_has ls 1 [(0, .int (np_i x0))] → W p l e R s m args below meth c H locs 0 0 Q (F0 m 54 ls []) := by
  intro x0 σ H locs ls hf hat hl
  unfold f_Spelling_kindOf_54 at hf
  refine va_ldcS C.x C.b C.o C.en.2.1 dd_Spelling_kindOf_54 ?_
  refine lv_iload_n C.x C.b dd_Spelling_kindOf_56 rfl (lv_at hl 0 rfl) ?_
  refine np_i2c C dd_Spelling_kindOf_57 ?_
  refine np_callVi (As := [.int (np_i (x0 % 65536))]) (rest := []) C (c_String_indexOf_k0 l (x0 % 65536) _) np_allgood tw_261 tw_262 tw_263 tw_15 tw_264 (nA := 1) (by decide +kernel) rfl ⟨rfl, rfl, Nat.le_of_ble_eq_true rfl, Nat.le_of_ble_eq_true rfl⟩ (vk_recv C.en.1 (i := 0) (by decide) hat.2.2) hat rfl hl.1 (Nat.le_of_ble_eq_true rfl) dd_Spelling_kindOf_58 hf (fun o1 H locs hf hat => ?_)
  refine np_if_lt (tgt := 66) C dd_Spelling_kindOf_61 (by decide) hf (fun _ hf => ?_) (fun _ hf => ?_)
  · refine va_ldcS C.x C.b C.o C.en.2.2.1 dd_Spelling_kindOf_66 ?_
    refine lv_iload_n C.x C.b dd_Spelling_kindOf_68 rfl (lv_at hl 0 rfl) ?_
    refine np_i2c C dd_Spelling_kindOf_69 ?_
    refine np_callVi (As := [.int (np_i (x0 % 65536))]) (rest := []) C (c_String_indexOf_k1 l (x0 % 65536) _) np_allgood tw_261 tw_262 tw_263 tw_15 tw_264 (nA := 1) (by decide +kernel) rfl ⟨rfl, rfl, Nat.le_of_ble_eq_true rfl, Nat.le_of_ble_eq_true rfl⟩ (vk_recv C.en.1 (i := 1) (by decide) hat.2.2) hat rfl hl.1 (Nat.le_of_ble_eq_true rfl) dd_Spelling_kindOf_70 hf (fun o2 H locs hf hat => ?_)
    refine np_if_lt (tgt := 80) C dd_Spelling_kindOf_73 (by decide) hf (fun _ hf => ?_) (fun _ hf => ?_)
    · refine lv_iconst (v := np_i 0) C.x C.b dd_Spelling_kindOf_80 rfl ?_
      exact w_f_Spelling_kindOf_81 C hQ  _ _ _ _ _ hf hat (lv_sub hl [] rfl)
    · refine lv_iconst (v := np_i 5) C.x C.b dd_Spelling_kindOf_76 rfl ?_
      refine lv_goto (tgt := 81) C.x C.b dd_Spelling_kindOf_77 (by decide) ?_
      exact w_f_Spelling_kindOf_81 C hQ  _ _ _ _ _ hf hat (lv_sub hl [] rfl)
  · refine lv_iconst (v := np_i 4) C.x C.b dd_Spelling_kindOf_64 rfl ?_
    exact hQ _ _ _ _ _ dd_Spelling_kindOf_65 hf hat
set_option maxHeartbeats 4000000 in
set_option maxRecDepth 100000 in
theorem w_f_Spelling_kindOf_40 (C : np_Cx gA p R s m args c D np_cl (np_ty cA) A np_al "NotationParse$Spelling" prog_5_method_2_code 1 { frames := 4, cells := 0, slots := 0, locals := 91 }) (hQ : ∀ (pc : Nat) (ls : Array Slot) (H : Heap) (locs : List Loc) (v : Int) {σ : np_S}, decode prog_5_method_2_code pc = .ok (.ireturn, 1) → some (v, σ) = some out → np_At D np_cl A (nc_wd q cA) s σ H locs → W p l e R s m args below meth c H locs 0 0 Q (F0 m pc ls [.int (np_i v)]))   : ∀ (x0 : Int) (σ : np_S) (H : Heap) (locs : List Loc) (ls : Array Slot), f_Spelling_kindOf_40  x0 σ = some out → np_At D np_cl A (nc_wd q cA) s σ H locs → lv_has ls 1 [(0, .int (np_i x0))] → W p l e R s m args below meth c H locs 0 0 Q (F0 m 40 ls []) := by
  intro x0 σ H locs ls hf hat hl
  unfold f_Spelling_kindOf_40 at hf
  refine lv_iload_n C.x C.b dd_Spelling_kindOf_40 rfl (lv_at hl 0 rfl) ?_
  refine lv_bipush (v := np_i 48) C.x C.b dd_Spelling_kindOf_41 (by decide +kernel) ?_
  refine np_icmp_lt (tgt := 54) C dd_Spelling_kindOf_43 (by decide) hf (fun _ hf => ?_) (fun _ hf => ?_)
  · exact w_f_Spelling_kindOf_54 C hQ  _ _ _ _ _ hf hat (lv_sub hl [0] rfl)
  · refine lv_iload_n C.x C.b dd_Spelling_kindOf_46 rfl (lv_at hl 0 rfl) ?_
    refine lv_bipush (v := np_i 57) C.x C.b dd_Spelling_kindOf_47 (by decide +kernel) ?_
    refine np_icmp_gt (tgt := 54) C dd_Spelling_kindOf_49 (by decide) hf (fun _ hf => ?_) (fun _ hf => ?_)
    · exact w_f_Spelling_kindOf_54 C hQ  _ _ _ _ _ hf hat (lv_sub hl [0] rfl)
    · refine lv_iconst (v := np_i 3) C.x C.b dd_Spelling_kindOf_52 rfl ?_
      exact hQ _ _ _ _ _ dd_Spelling_kindOf_53 hf hat
set_option maxHeartbeats 4000000 in
set_option maxRecDepth 100000 in
theorem w_f_Spelling_kindOf_38 (C : np_Cx gA p R s m args c D np_cl (np_ty cA) A np_al "NotationParse$Spelling" prog_5_method_2_code 1 { frames := 4, cells := 0, slots := 0, locals := 91 }) (hQ : ∀ (pc : Nat) (ls : Array Slot) (H : Heap) (locs : List Loc) (v : Int) {σ : np_S}, decode prog_5_method_2_code pc = .ok (.ireturn, 1) → some (v, σ) = some out → np_At D np_cl A (nc_wd q cA) s σ H locs → W p l e R s m args below meth c H locs 0 0 Q (F0 m pc ls [.int (np_i v)]))   : ∀ (σ : np_S) (H : Heap) (locs : List Loc) (ls : Array Slot), f_Spelling_kindOf_38  σ = some out → np_At D np_cl A (nc_wd q cA) s σ H locs → lv_has ls 1 [] → W p l e R s m args below meth c H locs 0 0 Q (F0 m 38 ls []) := by
  intro σ H locs ls hf hat hl
  unfold f_Spelling_kindOf_38 at hf
  refine lv_iconst (v := np_i 2) C.x C.b dd_Spelling_kindOf_38 rfl ?_
  exact hQ _ _ _ _ _ dd_Spelling_kindOf_39 hf hat
set_option maxHeartbeats 4000000 in
set_option maxRecDepth 100000 in
theorem w_f_Spelling_kindOf_26 (C : np_Cx gA p R s m args c D np_cl (np_ty cA) A np_al "NotationParse$Spelling" prog_5_method_2_code 1 { frames := 4, cells := 0, slots := 0, locals := 91 }) (hQ : ∀ (pc : Nat) (ls : Array Slot) (H : Heap) (locs : List Loc) (v : Int) {σ : np_S}, decode prog_5_method_2_code pc = .ok (.ireturn, 1) → some (v, σ) = some out → np_At D np_cl A (nc_wd q cA) s σ H locs → W p l e R s m args below meth c H locs 0 0 Q (F0 m pc ls [.int (np_i v)]))   : ∀ (x0 : Int) (σ : np_S) (H : Heap) (locs : List Loc) (ls : Array Slot), f_Spelling_kindOf_26  x0 σ = some out → np_At D np_cl A (nc_wd q cA) s σ H locs → lv_has ls 1 [(0, .int (np_i x0))] → W p l e R s m args below meth c H locs 0 0 Q (F0 m 26 ls []) := by
  intro x0 σ H locs ls hf hat hl
  unfold f_Spelling_kindOf_26 at hf
  refine lv_iload_n C.x C.b dd_Spelling_kindOf_26 rfl (lv_at hl 0 rfl) ?_
  refine lv_bipush (v := np_i 65) C.x C.b dd_Spelling_kindOf_27 (by decide +kernel) ?_
  refine np_icmp_lt (tgt := 40) C dd_Spelling_kindOf_29 (by decide) hf (fun _ hf => ?_) (fun _ hf => ?_)
  · exact w_f_Spelling_kindOf_40 C hQ  _ _ _ _ _ hf hat (lv_sub hl [0] rfl)
  · refine lv_iload_n C.x C.b dd_Spelling_kindOf_32 rfl (lv_at hl 0 rfl) ?_
    refine lv_bipush (v := np_i 90) C.x C.b dd_Spelling_kindOf_33 (by decide +kernel) ?_
    refine np_icmp_gt (tgt := 40) C dd_Spelling_kindOf_35 (by decide) hf (fun _ hf => ?_) (fun _ hf => ?_)
    · exact w_f_Spelling_kindOf_40 C hQ  _ _ _ _ _ hf hat (lv_sub hl [0] rfl)
    · exact w_f_Spelling_kindOf_38 C hQ   _ _ _ _ hf hat (lv_sub hl [] rfl)
set_option maxHeartbeats 4000000 in
set_option maxRecDepth 100000 in
theorem w_f_Spelling_kindOf (C : np_Cx gA p R s m args c D np_cl (np_ty cA) A np_al "NotationParse$Spelling" prog_5_method_2_code 1 { frames := 4, cells := 0, slots := 0, locals := 91 }) (hQ : ∀ (pc : Nat) (ls : Array Slot) (H : Heap) (locs : List Loc) (v : Int) {σ : np_S}, decode prog_5_method_2_code pc = .ok (.ireturn, 1) → some (v, σ) = some out → np_At D np_cl A (nc_wd q cA) s σ H locs → W p l e R s m args below meth c H locs 0 0 Q (F0 m pc ls [.int (np_i v)]))   : ∀ (x0 : Int) (σ : np_S) (H : Heap) (locs : List Loc) (ls : Array Slot), f_Spelling_kindOf  x0 σ = some out → np_At D np_cl A (nc_wd q cA) s σ H locs → lv_has ls 1 [(0, .int (np_i x0))] → W p l e R s m args below meth c H locs 0 0 Q (F0 m 0 ls []) := by
  intro x0 σ H locs ls hf hat hl
  unfold f_Spelling_kindOf at hf
  refine lv_iload_n C.x C.b dd_Spelling_kindOf_0 rfl (lv_at hl 0 rfl) ?_
  refine lv_bipush (v := np_i 32) C.x C.b dd_Spelling_kindOf_1 (by decide +kernel) ?_
  refine np_icmp_eq (tgt := 12) C dd_Spelling_kindOf_3 (by decide) hf (fun _ hf => ?_) (fun _ hf => ?_)
  · exact w_f_Spelling_kindOf_12 C hQ   _ _ _ _ hf hat (lv_sub hl [] rfl)
  · refine lv_iload_n C.x C.b dd_Spelling_kindOf_6 rfl (lv_at hl 0 rfl) ?_
    refine lv_bipush (v := np_i 10) C.x C.b dd_Spelling_kindOf_7 (by decide +kernel) ?_
    refine np_icmp_ne (tgt := 14) C dd_Spelling_kindOf_9 (by decide) hf (fun _ hf => ?_) (fun _ hf => ?_)
    · refine lv_iload_n C.x C.b dd_Spelling_kindOf_14 rfl (lv_at hl 0 rfl) ?_
      refine lv_bipush (v := np_i 97) C.x C.b dd_Spelling_kindOf_15 (by decide +kernel) ?_
      refine np_icmp_lt (tgt := 26) C dd_Spelling_kindOf_17 (by decide) hf (fun _ hf => ?_) (fun _ hf => ?_)
      · exact w_f_Spelling_kindOf_26 C hQ  _ _ _ _ _ hf hat (lv_sub hl [0] rfl)
      · refine lv_iload_n C.x C.b dd_Spelling_kindOf_20 rfl (lv_at hl 0 rfl) ?_
        refine lv_bipush (v := np_i 122) C.x C.b dd_Spelling_kindOf_21 (by decide +kernel) ?_
        refine np_icmp_le (tgt := 38) C dd_Spelling_kindOf_23 (by decide) hf (fun _ hf => ?_) (fun _ hf => ?_)
        · exact w_f_Spelling_kindOf_38 C hQ   _ _ _ _ hf hat (lv_sub hl [] rfl)
        · exact w_f_Spelling_kindOf_26 C hQ  _ _ _ _ _ hf hat (lv_sub hl [0] rfl)
    · exact w_f_Spelling_kindOf_12 C hQ   _ _ _ _ hf hat (lv_sub hl [] rfl)
set_option maxHeartbeats 4000000 in
set_option maxRecDepth 100000 in
theorem c_Spelling_kindOf (l : Launch) {gA : Nat → Nat} {D : va_G} {q : Nat → Nat} {cA : Nat → ClassId} (x0 : Int) (σ : np_S) : np_Mi gA l D np_cl (np_ty cA) (nc_wd q cA) yy_Spelling_kindOf (.code yy_Spelling_kindOf prog_5_method_2_code 1 (some .int) :: np_al) { frames := 4, cells := 0, slots := 0, locals := 91 } [.int (np_i x0)] σ (f_Spelling_kindOf x0 σ) :=
  np_mki (by decide +kernel) (Nat.le_of_ble_eq_true rfl) (fun o p e R s m args below meth c Q A ls hf C hQ hat hl => w_f_Spelling_kindOf C hQ x0 σ _ _ _ hf hat (lv_sub hl [0] rfl))
set_option maxHeartbeats 4000000 in
set_option maxRecDepth 100000 in
theorem w_f_Text_kindAt (C : np_Cx gA p R s m args c D np_cl (np_ty cA) A np_al "NotationParse$Text" prog_6_method_4_code 2 { frames := 5, cells := 0, slots := 0, locals := 111 }) (hQ : ∀ (pc : Nat) (ls : Array Slot) (H : Heap) (locs : List Loc) (v : Int) {σ : np_S}, decode prog_6_method_4_code pc = .ok (.ireturn, 1) → some (v, σ) = some out → np_At D np_cl A (nc_wd q cA) s σ H locs → W p l e R s m args below meth c H locs 0 0 Q (F0 m pc ls [.int (np_i v)]))   : ∀ (x1 : Int) (σ : np_S) (H : Heap) (locs : List Loc) (ls : Array Slot), f_Text_kindAt  x1 σ = some out → np_At D np_cl A (nc_wd q cA) s σ H locs → lv_has ls 2 [(0, .ref (q 6)), (1, .int (np_i x1))] → W p l e R s m args below meth c H locs 0 0 Q (F0 m 0 ls []) := by
  intro x1 σ H locs ls hf hat hl
  unfold f_Text_kindAt at hf
  refine lv_aload_n C.x C.b dd_Text_kindAt_0 rfl (lv_at hl 0 rfl) ?_
  refine np_get (v := .ref (q 7)) C i_Text hat.1 6 (nc_o6 _) rfl 0 (by decide) tw_85 rfl rfl dd_Text_kindAt_1 ?_
  refine lv_iload_n C.x C.b dd_Text_kindAt_4 rfl (lv_at hl 1 rfl) ?_
  refine np_baload C hat.1 7 (nc_a7 _) 2 rfl (by decide) dd_Text_kindAt_5 hf (fun hf => ?_)
  refine lv_sipush (v := np_i 255) C.x C.b dd_Text_kindAt_6 (by decide +kernel) ?_
  refine np_iand C dd_Text_kindAt_9 ?_
  refine np_callSi (As := [.int (np_i (np_andi (σ 7 x1) 255))]) (rest := []) C (c_Spelling_kindOf l (np_andi (σ 7 x1) 255) _) np_allgood tw_731 tw_258 tw_14 tw_259 (nA := 1) (by decide +kernel) rfl ⟨rfl, rfl, Nat.le_of_ble_eq_true rfl, Nat.le_of_ble_eq_true rfl⟩ hat rfl hl.1 (Nat.le_of_ble_eq_true rfl) dd_Text_kindAt_10 hf (fun o1 H locs hf hat => ?_)
  exact hQ _ _ _ _ _ dd_Text_kindAt_13 hf hat
set_option maxHeartbeats 4000000 in
set_option maxRecDepth 100000 in
theorem c_Text_kindAt (l : Launch) {gA : Nat → Nat} {D : va_G} {q : Nat → Nat} {cA : Nat → ClassId} (x1 : Int) (σ : np_S) : np_Mi gA l D np_cl (np_ty cA) (nc_wd q cA) yy_Text_kindAt (.code yy_Text_kindAt prog_6_method_4_code 2 (some .int) :: np_al) { frames := 5, cells := 0, slots := 0, locals := 111 } [.ref (q 6), .int (np_i x1)] σ (f_Text_kindAt x1 σ) :=
  np_mki (by decide +kernel) (Nat.le_of_ble_eq_true rfl) (fun o p e R s m args below meth c Q A ls hf C hQ hat hl => w_f_Text_kindAt C hQ x1 σ _ _ _ hf hat (lv_sub hl [0, 1] rfl))
set_option maxHeartbeats 4000000 in
set_option maxRecDepth 100000 in
theorem w_f_Text_endOfRow_32 (C : np_Cx gA p R s m args c D np_cl (np_ty cA) A np_al "NotationParse$Text" prog_6_method_5_code 4 { frames := 6, cells := 0, slots := 0, locals := 132 }) (hQ : ∀ (pc : Nat) (ls : Array Slot) (H : Heap) (locs : List Loc) (v : Int) {σ : np_S}, decode prog_6_method_5_code pc = .ok (.ireturn, 1) → some (v, σ) = some out → np_At D np_cl A (nc_wd q cA) s σ H locs → W p l e R s m args below meth c H locs 0 0 Q (F0 m pc ls [.int (np_i v)]))   : ∀ (x3 : Int) (σ : np_S) (H : Heap) (locs : List Loc) (ls : Array Slot), f_Text_endOfRow_32  x3 σ = some out → np_At D np_cl A (nc_wd q cA) s σ H locs → lv_has ls 4 [(3, .int (np_i x3))] → W p l e R s m args below meth c H locs 0 0 Q (F0 m 32 ls []) := by
  intro x3 σ H locs ls hf hat hl
  unfold f_Text_endOfRow_32 at hf
  refine lv_iload_n C.x C.b dd_Text_endOfRow_32 rfl (lv_at hl 0 rfl) ?_
  exact hQ _ _ _ _ _ dd_Text_endOfRow_33 hf hat
set_option maxHeartbeats 4000000 in
set_option maxRecDepth 100000 in
theorem w_f_Text_endOfRow_9 (C : np_Cx gA p R s m args c D np_cl (np_ty cA) A np_al "NotationParse$Text" prog_6_method_5_code 4 { frames := 6, cells := 0, slots := 0, locals := 132 }) (hQ : ∀ (pc : Nat) (ls : Array Slot) (H : Heap) (locs : List Loc) (v : Int) {σ : np_S}, decode prog_6_method_5_code pc = .ok (.ireturn, 1) → some (v, σ) = some out → np_At D np_cl A (nc_wd q cA) s σ H locs → W p l e R s m args below meth c H locs 0 0 Q (F0 m pc ls [.int (np_i v)]))   : ∀ (n : Nat), ∀ (x2 x3 : Int) (σ : np_S) (H : Heap) (locs : List Loc) (ls : Array Slot), f_Text_endOfRow_9  n x2 x3 σ = some out → np_At D np_cl A (nc_wd q cA) s σ H locs → lv_has ls 4 [(0, .ref (q 6)), (2, .int (np_i x2)), (3, .int (np_i x3))] → W p l e R s m args below meth c H locs 0 0 Q (F0 m 9 ls []) := by
  intro n
  induction n with
  | zero => intro x2 x3 σ H locs ls hf; cases hf
  | succ n ih =>
    intro x2 x3 σ H locs ls hf hat hl
    have h9 := ih
    have hf : f_Text_endOfRow_9_b  (fun x2 x3 σ => f_Text_endOfRow_9  n x2 x3 σ) x2 x3 σ = some out := hf
    unfold f_Text_endOfRow_9_b at hf
    refine lv_iload_n C.x C.b dd_Text_endOfRow_9 rfl (lv_at hl 2 rfl) ?_
    refine lv_aload_n C.x C.b dd_Text_endOfRow_10 rfl (lv_at hl 0 rfl) ?_
    refine np_get (v := .int (np_i (σ 6 1))) C i_Text hat.1 6 (nc_o6 _) rfl 1 (by decide) tw_86 rfl rfl dd_Text_endOfRow_11 ?_
    refine np_icmp_ge (tgt := 32) C dd_Text_endOfRow_14 (by decide) hf (fun _ hf => ?_) (fun _ hf => ?_)
    · exact w_f_Text_endOfRow_32 C hQ  _ _ _ _ _ hf hat (lv_sub hl [2] rfl)
    · refine lv_aload_n C.x C.b dd_Text_endOfRow_17 rfl (lv_at hl 0 rfl) ?_
      refine lv_iload_n C.x C.b dd_Text_endOfRow_18 rfl (lv_at hl 2 rfl) ?_
      refine np_callVi (As := [.int (np_i x3)]) (rest := []) C (c_Text_kindAt l x3 _) np_allgood tw_727 tw_729 tp_1 tw_4 tw_730 (nA := 1) (by decide +kernel) rfl ⟨rfl, rfl, Nat.le_of_ble_eq_true rfl, Nat.le_of_ble_eq_true rfl⟩ (va_recv C.k hat.1 (ci := 2) (q0 := 6) rfl (nc_o6 _)) hat rfl hl.1 (Nat.le_of_ble_eq_true rfl) dd_Text_endOfRow_19 hf (fun o1 H locs hf hat => ?_)
      refine lv_iload_n C.x C.b dd_Text_endOfRow_22 rfl (lv_at hl 1 rfl) ?_
      refine np_icmp_ne (tgt := 32) C dd_Text_endOfRow_23 (by decide) hf (fun _ hf => ?_) (fun _ hf => ?_)
      · exact w_f_Text_endOfRow_32 C hQ  _ _ _ _ _ hf hat (lv_sub hl [2] rfl)
      · refine lv_iinc (v := np_i (x3 + 1)) (lv' := [(3, .int (np_i (x3 + 1))), (0, .ref (q 6)), (2, .int (np_i x2))]) C.x C.b dd_Text_endOfRow_26 hl (k := 2) rfl (np_inc _ _) (by decide) rfl (fun ls hl => ?_)
        refine lv_goto (tgt := 9) C.x C.b dd_Text_endOfRow_29 (by decide) ?_
        exact h9 _ _ _ _ _ _ hf hat (lv_sub hl [1, 2, 0] rfl)
set_option maxHeartbeats 4000000 in
set_option maxRecDepth 100000 in
theorem w_f_Text_endOfRow (C : np_Cx gA p R s m args c D np_cl (np_ty cA) A np_al "NotationParse$Text" prog_6_method_5_code 4 { frames := 6, cells := 0, slots := 0, locals := 132 }) (hQ : ∀ (pc : Nat) (ls : Array Slot) (H : Heap) (locs : List Loc) (v : Int) {σ : np_S}, decode prog_6_method_5_code pc = .ok (.ireturn, 1) → some (v, σ) = some out → np_At D np_cl A (nc_wd q cA) s σ H locs → W p l e R s m args below meth c H locs 0 0 Q (F0 m pc ls [.int (np_i v)]))   : ∀ (x1 x2 : Int) (σ : np_S) (H : Heap) (locs : List Loc) (ls : Array Slot), f_Text_endOfRow  x1 x2 σ = some out → np_At D np_cl A (nc_wd q cA) s σ H locs → lv_has ls 4 [(0, .ref (q 6)), (1, .int (np_i x1)), (2, .int (np_i x2))] → W p l e R s m args below meth c H locs 0 0 Q (F0 m 0 ls []) := by
  intro x1 x2 σ H locs ls hf hat hl
  unfold f_Text_endOfRow at hf
  refine lv_iload_n C.x C.b dd_Text_endOfRow_0 rfl (lv_at hl 1 rfl) ?_
  refine lv_iconst (v := np_i 1) C.x C.b dd_Text_endOfRow_1 rfl ?_
  refine np_iadd C dd_Text_endOfRow_2 ?_
  refine lv_istore_n (lv' := [(3, .int (np_i (x1 + 1))), (0, .ref (q 6)), (1, .int (np_i x1)), (2, .int (np_i x2))]) C.x C.b dd_Text_endOfRow_3 rfl hl (by decide) rfl (fun ls hl => ?_)
  refine lv_iload_n C.x C.b dd_Text_endOfRow_4 rfl (lv_at hl 3 rfl) ?_
  refine lv_iconst (v := np_i 5) C.x C.b dd_Text_endOfRow_5 rfl ?_
  refine np_icmp_eq (tgt := 32) C dd_Text_endOfRow_6 (by decide) hf (fun _ hf => ?_) (fun _ hf => ?_)
  · exact w_f_Text_endOfRow_32 C hQ  _ _ _ _ _ hf hat (lv_sub hl [0] rfl)
  · exact w_f_Text_endOfRow_9 C hQ  6000 _ _ _ _ _ _ hf hat (lv_sub hl [1, 3, 0] rfl)
set_option maxHeartbeats 4000000 in
set_option maxRecDepth 100000 in
theorem c_Text_endOfRow (l : Launch) {gA : Nat → Nat} {D : va_G} {q : Nat → Nat} {cA : Nat → ClassId} (x1 x2 : Int) (σ : np_S) : np_Mi gA l D np_cl (np_ty cA) (nc_wd q cA) yy_Text_endOfRow (.code yy_Text_endOfRow prog_6_method_5_code 4 (some .int) :: np_al) { frames := 6, cells := 0, slots := 0, locals := 132 } [.ref (q 6), .int (np_i x1), .int (np_i x2)] σ (f_Text_endOfRow x1 x2 σ) :=
  np_mki (by decide +kernel) (Nat.le_of_ble_eq_true rfl) (fun o p e R s m args below meth c Q A ls hf C hQ hat hl => w_f_Text_endOfRow C hQ x1 x2 σ _ _ _ hf hat (lv_sub hl [0, 1, 2] rfl))
set_option maxHeartbeats 4000000 in
set_option maxRecDepth 100000 in
theorem w_f_Grammar_hasKey_3 (C : np_Cx gA p R s m args c D np_cl (np_ty cA) A np_al "NotationParse$Grammar" prog_3_method_9_code 4 { frames := 1, cells := 0, slots := 0, locals := 20 }) (hQ : ∀ (pc : Nat) (ls : Array Slot) (H : Heap) (locs : List Loc) (v : Int) {σ : np_S}, decode prog_3_method_9_code pc = .ok (.ireturn, 1) → np_ck (v = 0 ∨ v = 1) (some (v, σ)) = some out → np_At D np_cl A (nc_wd q cA) s σ H locs → W p l e R s m args below meth c H locs 0 0 Q (F0 m pc ls [.int (np_i v)]))   : ∀ (n : Nat), ∀ (x1 x3 : Int) (σ : np_S) (H : Heap) (locs : List Loc) (ls : Array Slot), f_Grammar_hasKey_3  n x1 x3 σ = some out → np_At D np_cl A (nc_wd q cA) s σ H locs → lv_has ls 4 [(0, .ref (q 1)), (1, .long (np_l x1)), (3, .int (np_i x3))] → W p l e R s m args below meth c H locs 0 0 Q (F0 m 3 ls []) := by
  intro n
  induction n with
  | zero => intro x1 x3 σ H locs ls hf; cases hf
  | succ n ih =>
    intro x1 x3 σ H locs ls hf hat hl
    have h3 := ih
    have hf : f_Grammar_hasKey_3_b  (fun x1 x3 σ => f_Grammar_hasKey_3  n x1 x3 σ) x1 x3 σ = some out := hf
    unfold f_Grammar_hasKey_3_b at hf
    refine lv_iload_n C.x C.b dd_Grammar_hasKey_3 rfl (lv_at hl 2 rfl) ?_
    refine lv_aload_n C.x C.b dd_Grammar_hasKey_4 rfl (lv_at hl 0 rfl) ?_
    refine np_callVi (As := []) (rest := [.int (np_i x3)]) C (c_Grammar_usedDots l _) np_allgood tw_355 tw_356 tw_357 tw_2 tw_358 (nA := 0) (by decide +kernel) rfl ⟨rfl, rfl, Nat.le_of_ble_eq_true rfl, Nat.le_of_ble_eq_true rfl⟩ (va_recv C.k hat.1 (ci := 1) (q0 := 1) rfl (nc_o1 _)) hat rfl hl.1 (Nat.le_of_ble_eq_true rfl) dd_Grammar_hasKey_5 hf (fun o1 H locs hf hat => ?_)
    refine np_icmp_ge (tgt := 30) C dd_Grammar_hasKey_8 (by decide) hf (fun _ hf => ?_) (fun _ hf => ?_)
    · refine lv_iconst (v := np_i 0) C.x C.b dd_Grammar_hasKey_30 rfl ?_
      exact hQ _ _ _ _ _ dd_Grammar_hasKey_31 hf hat
    · refine lv_aload_n C.x C.b dd_Grammar_hasKey_11 rfl (lv_at hl 0 rfl) ?_
      refine np_get (v := .ref (q 3)) C i_Grammar hat.1 1 (nc_o1 _) rfl 1 (by decide) tw_53 rfl rfl dd_Grammar_hasKey_12 ?_
      refine lv_iload_n C.x C.b dd_Grammar_hasKey_15 rfl (lv_at hl 2 rfl) ?_
      refine np_laload C hat.1 3 (nc_a3 _) 1 rfl (by decide) dd_Grammar_hasKey_16 hf (fun hf => ?_)
      refine lv_lload_n C.x C.b dd_Grammar_hasKey_17 rfl (lv_at hl 1 rfl) ?_
      refine np_lcmp C dd_Grammar_hasKey_18 hf (fun hf => ?_)
      refine np_if_ne (tgt := 24) C dd_Grammar_hasKey_19 (by decide) hf (fun _ hf => ?_) (fun _ hf => ?_)
      · refine lv_iinc (v := np_i (x3 + 1)) (lv' := [(3, .int (np_i (x3 + 1))), (0, .ref (q 1)), (1, .long (np_l x1))]) C.x C.b dd_Grammar_hasKey_24 hl (k := 2) rfl (np_inc _ _) (by decide) rfl (fun ls hl => ?_)
        refine lv_goto (tgt := 3) C.x C.b dd_Grammar_hasKey_27 (by decide) ?_
        exact h3 _ _ _ _ _ _ hf hat (lv_sub hl [1, 2, 0] rfl)
      · refine lv_iconst (v := np_i 1) C.x C.b dd_Grammar_hasKey_22 rfl ?_
        exact hQ _ _ _ _ _ dd_Grammar_hasKey_23 hf hat
set_option maxHeartbeats 4000000 in
set_option maxRecDepth 100000 in
theorem w_f_Grammar_hasKey (C : np_Cx gA p R s m args c D np_cl (np_ty cA) A np_al "NotationParse$Grammar" prog_3_method_9_code 4 { frames := 1, cells := 0, slots := 0, locals := 20 }) (hQ : ∀ (pc : Nat) (ls : Array Slot) (H : Heap) (locs : List Loc) (v : Int) {σ : np_S}, decode prog_3_method_9_code pc = .ok (.ireturn, 1) → np_ck (v = 0 ∨ v = 1) (some (v, σ)) = some out → np_At D np_cl A (nc_wd q cA) s σ H locs → W p l e R s m args below meth c H locs 0 0 Q (F0 m pc ls [.int (np_i v)]))   : ∀ (x1 : Int) (σ : np_S) (H : Heap) (locs : List Loc) (ls : Array Slot), f_Grammar_hasKey  x1 σ = some out → np_At D np_cl A (nc_wd q cA) s σ H locs → lv_has ls 4 [(0, .ref (q 1)), (1, .long (np_l x1))] → W p l e R s m args below meth c H locs 0 0 Q (F0 m 0 ls []) := by
  intro x1 σ H locs ls hf hat hl
  unfold f_Grammar_hasKey at hf
  refine lv_bipush (v := np_i 14) C.x C.b dd_Grammar_hasKey_0 (by decide +kernel) ?_
  refine lv_istore_n (lv' := [(3, .int (np_i 14)), (0, .ref (q 1)), (1, .long (np_l x1))]) C.x C.b dd_Grammar_hasKey_2 rfl hl (by decide) rfl (fun ls hl => ?_)
  exact w_f_Grammar_hasKey_3 C hQ  6000 _ _ _ _ _ _ hf hat (lv_sub hl [1, 2, 0] rfl)
set_option maxHeartbeats 4000000 in
set_option maxRecDepth 100000 in
theorem c_Grammar_hasKey (l : Launch) {gA : Nat → Nat} {D : va_G} {q : Nat → Nat} {cA : Nat → ClassId} (x1 : Int) (σ : np_S) : np_Mi gA l D np_cl (np_ty cA) (nc_wd q cA) yy_Grammar_hasKey (.code yy_Grammar_hasKey prog_3_method_9_code 4 (some .boolean) :: np_al) { frames := 1, cells := 0, slots := 0, locals := 20 } [.ref (q 1), .long (np_l x1)] σ (f_Grammar_hasKey x1 σ) :=
  np_mkz (by decide +kernel) (Nat.le_of_ble_eq_true rfl) (fun o p e R s m args below meth c Q A ls hf C hQ hat hl => w_f_Grammar_hasKey C hQ x1 σ _ _ _ hf hat (lv_sub hl [0, 1] rfl))
set_option maxHeartbeats 4000000 in
set_option maxRecDepth 100000 in
theorem w_f_Text_takeRow_33 (C : np_Cx gA p R s m args c D np_cl (np_ty cA) A np_al "NotationParse$Text" prog_6_method_6_code 9 { frames := 2, cells := 0, slots := 0, locals := 43 }) (hQ : ∀ (pc : Nat) (ls : Array Slot) (H : Heap) (locs : List Loc) {σ : np_S}, decode prog_6_method_6_code pc = .ok (.return_, 1) → some ((0 : Int), σ) = some out → np_At D np_cl A (nc_wd q cA) s σ H locs → W p l e R s m args below meth c H locs 0 0 Q (F0 m pc ls []))   : ∀ (x1 : Int) (σ : np_S) (H : Heap) (locs : List Loc) (ls : Array Slot), f_Text_takeRow_33  x1 σ = some out → np_At D np_cl A (nc_wd q cA) s σ H locs → lv_has ls 9 [(0, .ref (q 6)), (1, .int (np_i x1))] → W p l e R s m args below meth c H locs 0 0 Q (F0 m 33 ls []) := by
  intro x1 σ H locs ls hf hat hl
  unfold f_Text_takeRow_33 at hf
  refine lv_aload_n C.x C.b dd_Text_takeRow_33 rfl (lv_at hl 0 rfl) ?_
  refine lv_iload_n C.x C.b dd_Text_takeRow_34 rfl (lv_at hl 1 rfl) ?_
  refine np_put C i_Text t_Text tok_Text n_Text hat 6 (nc_o6 _) rfl 6 (by decide) tw_97 rfl rfl (by decide +kernel) (np_narI x1) (np_fitI x1) (Nat.le_of_ble_eq_true rfl) (nc_s6_6 _ _) dd_Text_takeRow_35 (fun H locs hat => ?_)
  exact hQ _ _ _ _ dd_Text_takeRow_38 hf hat
set_option maxHeartbeats 4000000 in
set_option maxRecDepth 100000 in
theorem w_f_Text_takeRow_134 (C : np_Cx gA p R s m args c D np_cl (np_ty cA) A np_al "NotationParse$Text" prog_6_method_6_code 9 { frames := 2, cells := 0, slots := 0, locals := 43 }) (hQ : ∀ (pc : Nat) (ls : Array Slot) (H : Heap) (locs : List Loc) {σ : np_S}, decode prog_6_method_6_code pc = .ok (.return_, 1) → some ((0 : Int), σ) = some out → np_At D np_cl A (nc_wd q cA) s σ H locs → W p l e R s m args below meth c H locs 0 0 Q (F0 m pc ls []))   : ∀ (x1 t1 t2 : Int) (σ : np_S) (H : Heap) (locs : List Loc) (ls : Array Slot), f_Text_takeRow_134  x1 t1 t2 σ = some out → np_At D np_cl A (nc_wd q cA) s σ H locs → lv_has ls 9 [(0, .ref (q 6)), (1, .int (np_i x1))] → W p l e R s m args below meth c H locs 0 0 Q (F0 m 134 ls [.long (np_l t2), .int (np_i t1), .ref (q 9)]) := by
  intro x1 t1 t2 σ H locs ls hf hat hl
  unfold f_Text_takeRow_134 at hf
  refine np_lastore C hat 9 (nc_a9 _) 1 rfl (by decide) (nc_s9 _ _ _) dd_Text_takeRow_134 hf (fun H locs hat hf => ?_)
  refine lv_aload_n C.x C.b dd_Text_takeRow_135 rfl (lv_at hl 0 rfl) ?_
  refine np_get (v := .ref (q 10)) C i_Text hat.1 6 (nc_o6 _) rfl 4 (by decide) tw_92 rfl rfl dd_Text_takeRow_136 ?_
  refine lv_aload_n C.x C.b dd_Text_takeRow_139 rfl (lv_at hl 0 rfl) ?_
  refine np_get (v := .int (np_i ((np_st σ 9 t1 t2) 6 5))) C i_Text hat.1 6 (nc_o6 _) rfl 5 (by decide) tw_94 rfl rfl dd_Text_takeRow_140 ?_
  refine lv_iload_n C.x C.b dd_Text_takeRow_143 rfl (lv_at hl 1 rfl) ?_
  refine np_iastore C hat 10 (nc_a10 _) 0 rfl (by decide) (nc_s10 _ _ _) dd_Text_takeRow_144 hf (fun H locs hat hf => ?_)
  refine lv_aload_n C.x C.b dd_Text_takeRow_145 rfl (lv_at hl 0 rfl) ?_
  refine lv_dup C.x C.b dd_Text_takeRow_146 rfl ?_
  refine np_get (v := .int (np_i ((np_st (np_st σ 9 t1 t2) 10 ((np_st σ 9 t1 t2) 6 5) x1) 6 5))) C i_Text hat.1 6 (nc_o6 _) rfl 5 (by decide) tw_94 rfl rfl dd_Text_takeRow_147 ?_
  refine lv_iconst (v := np_i 1) C.x C.b dd_Text_takeRow_150 rfl ?_
  refine np_iadd C dd_Text_takeRow_151 ?_
  refine np_put C i_Text t_Text tok_Text n_Text hat 6 (nc_o6 _) rfl 5 (by decide) tw_94 rfl rfl (by decide +kernel) (np_narI (((np_st (np_st σ 9 t1 t2) 10 ((np_st σ 9 t1 t2) 6 5) x1) 6 5) + 1)) (np_fitI (((np_st (np_st σ 9 t1 t2) 10 ((np_st σ 9 t1 t2) 6 5) x1) 6 5) + 1)) (Nat.le_of_ble_eq_true rfl) (nc_s6_5 _ _) dd_Text_takeRow_152 (fun H locs hat => ?_)
  exact hQ _ _ _ _ dd_Text_takeRow_155 hf hat
set_option maxHeartbeats 4000000 in
set_option maxRecDepth 100000 in
theorem w_f_Text_takeRow_132 (C : np_Cx gA p R s m args c D np_cl (np_ty cA) A np_al "NotationParse$Text" prog_6_method_6_code 9 { frames := 2, cells := 0, slots := 0, locals := 43 }) (hQ : ∀ (pc : Nat) (ls : Array Slot) (H : Heap) (locs : List Loc) {σ : np_S}, decode prog_6_method_6_code pc = .ok (.return_, 1) → some ((0 : Int), σ) = some out → np_At D np_cl A (nc_wd q cA) s σ H locs → W p l e R s m args below meth c H locs 0 0 Q (F0 m pc ls []))   : ∀ (x1 x6 t1 : Int) (σ : np_S) (H : Heap) (locs : List Loc) (ls : Array Slot), f_Text_takeRow_132  x1 x6 t1 σ = some out → np_At D np_cl A (nc_wd q cA) s σ H locs → lv_has ls 9 [(0, .ref (q 6)), (1, .int (np_i x1)), (6, .long (np_l x6))] → W p l e R s m args below meth c H locs 0 0 Q (F0 m 132 ls [.int (np_i t1), .ref (q 9)]) := by
  intro x1 x6 t1 σ H locs ls hf hat hl
  unfold f_Text_takeRow_132 at hf
  refine lv_lload C.x C.b dd_Text_takeRow_132 (lv_at hl 2 rfl) ?_
  exact w_f_Text_takeRow_134 C hQ  _ _ _ _ _ _ _ hf hat (lv_sub hl [0, 1] rfl)
set_option maxHeartbeats 4000000 in
set_option maxRecDepth 100000 in
theorem w_f_Text_takeRow_92 (C : np_Cx gA p R s m args c D np_cl (np_ty cA) A np_al "NotationParse$Text" prog_6_method_6_code 9 { frames := 2, cells := 0, slots := 0, locals := 43 }) (hQ : ∀ (pc : Nat) (ls : Array Slot) (H : Heap) (locs : List Loc) {σ : np_S}, decode prog_6_method_6_code pc = .ok (.return_, 1) → some ((0 : Int), σ) = some out → np_At D np_cl A (nc_wd q cA) s σ H locs → W p l e R s m args below meth c H locs 0 0 Q (F0 m pc ls []))   : ∀ (x1 x6 t0 : Int) (σ : np_S) (H : Heap) (locs : List Loc) (ls : Array Slot), f_Text_takeRow_92  x1 x6 t0 σ = some out → np_At D np_cl A (nc_wd q cA) s σ H locs → lv_has ls 9 [(0, .ref (q 6)), (1, .int (np_i x1)), (4, .ref (q 1)), (6, .long (np_l x6))] → W p l e R s m args below meth c H locs 0 0 Q (F0 m 92 ls [.int (np_i t0)]) := by
  intro x1 x6 t0 σ H locs ls hf hat hl
  unfold f_Text_takeRow_92 at hf
  refine lv_istore (lv' := [(8, .int (np_i t0)), (0, .ref (q 6)), (1, .int (np_i x1)), (4, .ref (q 1)), (6, .long (np_l x6))]) C.x C.b dd_Text_takeRow_92 hl (by decide) rfl (fun ls hl => ?_)
  refine lv_aload_n C.x C.b dd_Text_takeRow_94 rfl (lv_at hl 1 rfl) ?_
  refine np_get (v := .ref (q 8)) C i_Text hat.1 6 (nc_o6 _) rfl 2 (by decide) tw_88 rfl rfl dd_Text_takeRow_95 ?_
  refine lv_aload_n C.x C.b dd_Text_takeRow_98 rfl (lv_at hl 1 rfl) ?_
  refine np_get (v := .int (np_i (σ 6 5))) C i_Text hat.1 6 (nc_o6 _) rfl 5 (by decide) tw_94 rfl rfl dd_Text_takeRow_99 ?_
  refine lv_lload C.x C.b dd_Text_takeRow_102 (lv_at hl 4 rfl) ?_
  refine np_lastore C hat 8 (nc_a8 _) 1 rfl (by decide) (nc_s8 _ _ _) dd_Text_takeRow_104 hf (fun H locs hat hf => ?_)
  refine lv_aload_n C.x C.b dd_Text_takeRow_105 rfl (lv_at hl 1 rfl) ?_
  refine np_get (v := .ref (q 9)) C i_Text hat.1 6 (nc_o6 _) rfl 3 (by decide) tw_90 rfl rfl dd_Text_takeRow_106 ?_
  refine lv_aload_n C.x C.b dd_Text_takeRow_109 rfl (lv_at hl 1 rfl) ?_
  refine np_get (v := .int (np_i ((np_st σ 8 (σ 6 5) x6) 6 5))) C i_Text hat.1 6 (nc_o6 _) rfl 5 (by decide) tw_94 rfl rfl dd_Text_takeRow_110 ?_
  refine lv_iload C.x C.b dd_Text_takeRow_113 (lv_at hl 0 rfl) ?_
  refine np_if_eq (tgt := 132) C dd_Text_takeRow_115 (by decide) hf (fun _ hf => ?_) (fun _ hf => ?_)
  · exact w_f_Text_takeRow_132 C hQ  _ _ _ _ _ _ _ hf hat (lv_sub hl [1, 2, 4] rfl)
  · refine lv_aload C.x C.b dd_Text_takeRow_118 (lv_at hl 3 rfl) ?_
    refine lv_lload C.x C.b dd_Text_takeRow_120 (lv_at hl 4 rfl) ?_
    refine np_callVi (As := [.long (np_l x6)]) (rest := [.int (np_i ((np_st σ 8 (σ 6 5) x6) 6 5)), .ref (q 9)]) C (c_Grammar_hasKey l x6 _) np_allgood tw_740 tw_352 tw_353 tw_2 tw_354 (nA := 1) (by decide +kernel) rfl ⟨rfl, rfl, Nat.le_of_ble_eq_true rfl, Nat.le_of_ble_eq_true rfl⟩ (va_recv C.k hat.1 (ci := 1) (q0 := 1) rfl (nc_o1 _)) hat rfl hl.1 (Nat.le_of_ble_eq_true rfl) dd_Text_takeRow_122 hf (fun o1 H locs hf hat => ?_)
    refine np_if_ne (tgt := 132) C dd_Text_takeRow_125 (by decide) hf (fun _ hf => ?_) (fun _ hf => ?_)
    · exact w_f_Text_takeRow_132 C hQ  _ _ _ _ _ _ _ hf hat (lv_sub hl [1, 2, 4] rfl)
    · refine lv_lconst (v := np_l 0) C.x C.b dd_Text_takeRow_128 (by decide +kernel) ?_
      refine lv_goto (tgt := 134) C.x C.b dd_Text_takeRow_129 (by decide) ?_
      exact w_f_Text_takeRow_134 C hQ  _ _ _ _ _ _ _ hf hat (lv_sub hl [1, 2] rfl)
set_option maxHeartbeats 4000000 in
set_option maxRecDepth 100000 in
theorem w_f_Text_takeRow_87 (C : np_Cx gA p R s m args c D np_cl (np_ty cA) A np_al "NotationParse$Text" prog_6_method_6_code 9 { frames := 2, cells := 0, slots := 0, locals := 43 }) (hQ : ∀ (pc : Nat) (ls : Array Slot) (H : Heap) (locs : List Loc) {σ : np_S}, decode prog_6_method_6_code pc = .ok (.return_, 1) → some ((0 : Int), σ) = some out → np_At D np_cl A (nc_wd q cA) s σ H locs → W p l e R s m args below meth c H locs 0 0 Q (F0 m pc ls []))   : ∀ (x1 x6 : Int) (σ : np_S) (H : Heap) (locs : List Loc) (ls : Array Slot), f_Text_takeRow_87  x1 x6 σ = some out → np_At D np_cl A (nc_wd q cA) s σ H locs → lv_has ls 9 [(0, .ref (q 6)), (1, .int (np_i x1)), (4, .ref (q 1)), (6, .long (np_l x6))] → W p l e R s m args below meth c H locs 0 0 Q (F0 m 87 ls []) := by
  intro x1 x6 σ H locs ls hf hat hl
  unfold f_Text_takeRow_87 at hf
  refine lv_iconst (v := np_i 1) C.x C.b dd_Text_takeRow_87 rfl ?_
  refine lv_goto (tgt := 92) C.x C.b dd_Text_takeRow_88 (by decide) ?_
  exact w_f_Text_takeRow_92 C hQ  _ _ _ _ _ _ _ hf hat (lv_sub hl [0, 1, 2, 3] rfl)
set_option maxHeartbeats 4000000 in
set_option maxRecDepth 100000 in
theorem w_f_Text_takeRow_45 (C : np_Cx gA p R s m args c D np_cl (np_ty cA) A np_al "NotationParse$Text" prog_6_method_6_code 9 { frames := 2, cells := 0, slots := 0, locals := 43 }) (hQ : ∀ (pc : Nat) (ls : Array Slot) (H : Heap) (locs : List Loc) {σ : np_S}, decode prog_6_method_6_code pc = .ok (.return_, 1) → some ((0 : Int), σ) = some out → np_At D np_cl A (nc_wd q cA) s σ H locs → W p l e R s m args below meth c H locs 0 0 Q (F0 m pc ls []))   : ∀ (n : Nat), ∀ (x1 x2 x3 x6 x8 : Int) (σ : np_S) (H : Heap) (locs : List Loc) (ls : Array Slot), f_Text_takeRow_45  n x1 x2 x3 x6 x8 σ = some out → np_At D np_cl A (nc_wd q cA) s σ H locs → lv_has ls 9 [(0, .ref (q 6)), (1, .int (np_i x1)), (2, .int (np_i x2)), (3, .int (np_i x3)), (4, .ref (q 1)), (6, .long (np_l x6)), (8, .int (np_i x8))] → W p l e R s m args below meth c H locs 0 0 Q (F0 m 45 ls []) := by
  intro n
  induction n with
  | zero => intro x1 x2 x3 x6 x8 σ H locs ls hf; cases hf
  | succ n ih =>
    intro x1 x2 x3 x6 x8 σ H locs ls hf hat hl
    have h45 := ih
    have hf : f_Text_takeRow_45_b  (fun x1 x2 x3 x6 x8 σ => f_Text_takeRow_45  n x1 x2 x3 x6 x8 σ) x1 x2 x3 x6 x8 σ = some out := hf
    unfold f_Text_takeRow_45_b at hf
    refine lv_iload C.x C.b dd_Text_takeRow_45 (lv_at hl 6 rfl) ?_
    refine lv_iload_n C.x C.b dd_Text_takeRow_47 rfl (lv_at hl 2 rfl) ?_
    refine np_icmp_ge (tgt := 77) C dd_Text_takeRow_48 (by decide) hf (fun _ hf => ?_) (fun _ hf => ?_)
    · refine lv_iload_n C.x C.b dd_Text_takeRow_77 rfl (lv_at hl 3 rfl) ?_
      refine lv_iconst (v := np_i 2) C.x C.b dd_Text_takeRow_78 rfl ?_
      refine np_icmp_eq (tgt := 87) C dd_Text_takeRow_79 (by decide) hf (fun _ hf => ?_) (fun _ hf => ?_)
      · exact w_f_Text_takeRow_87 C hQ  _ _ _ _ _ _ hf hat (lv_sub hl [0, 1, 4, 5] rfl)
      · refine lv_iload_n C.x C.b dd_Text_takeRow_82 rfl (lv_at hl 3 rfl) ?_
        refine lv_iconst (v := np_i 3) C.x C.b dd_Text_takeRow_83 rfl ?_
        refine np_icmp_ne (tgt := 91) C dd_Text_takeRow_84 (by decide) hf (fun _ hf => ?_) (fun _ hf => ?_)
        · refine lv_iconst (v := np_i 0) C.x C.b dd_Text_takeRow_91 rfl ?_
          exact w_f_Text_takeRow_92 C hQ  _ _ _ _ _ _ _ hf hat (lv_sub hl [0, 1, 4, 5] rfl)
        · exact w_f_Text_takeRow_87 C hQ  _ _ _ _ _ _ hf hat (lv_sub hl [0, 1, 4, 5] rfl)
    · refine lv_lload C.x C.b dd_Text_takeRow_51 (lv_at hl 5 rfl) ?_
      refine lv_bipush (v := np_i 8) C.x C.b dd_Text_takeRow_53 (by decide +kernel) ?_
      refine np_lshl C dd_Text_takeRow_55 ?_
      refine lv_aload_n C.x C.b dd_Text_takeRow_56 rfl (lv_at hl 0 rfl) ?_
      refine np_get (v := .ref (q 7)) C i_Text hat.1 6 (nc_o6 _) rfl 0 (by decide) tw_85 rfl rfl dd_Text_takeRow_57 ?_
      refine lv_iload C.x C.b dd_Text_takeRow_60 (lv_at hl 6 rfl) ?_
      refine np_baload C hat.1 7 (nc_a7 _) 2 rfl (by decide) dd_Text_takeRow_62 hf (fun hf => ?_)
      refine lv_sipush (v := np_i 255) C.x C.b dd_Text_takeRow_63 (by decide +kernel) ?_
      refine np_iand C dd_Text_takeRow_66 ?_
      refine np_i2l C dd_Text_takeRow_67 hf (fun hf => ?_)
      refine np_lor C dd_Text_takeRow_68 ?_
      refine lv_lstore (lv' := [(6, .long (np_l (np_orl (np_shll x6 8) (np_andi (σ 7 x8) 255)))), (0, .ref (q 6)), (1, .int (np_i x1)), (2, .int (np_i x2)), (3, .int (np_i x3)), (4, .ref (q 1)), (8, .int (np_i x8))]) C.x C.b dd_Text_takeRow_69 hl (by decide) rfl (fun ls hl => ?_)
      refine lv_iinc (v := np_i (x8 + 1)) (lv' := [(8, .int (np_i (x8 + 1))), (6, .long (np_l (np_orl (np_shll x6 8) (np_andi (σ 7 x8) 255)))), (0, .ref (q 6)), (1, .int (np_i x1)), (2, .int (np_i x2)), (3, .int (np_i x3)), (4, .ref (q 1))]) C.x C.b dd_Text_takeRow_71 hl (k := 6) rfl (np_inc _ _) (by decide) rfl (fun ls hl => ?_)
      refine lv_goto (tgt := 45) C.x C.b dd_Text_takeRow_74 (by decide) ?_
      exact h45 _ _ _ _ _ _ _ _ _ hf hat (lv_sub hl [2, 3, 4, 5, 6, 1, 0] rfl)
set_option maxHeartbeats 4000000 in
set_option maxRecDepth 100000 in
theorem w_f_Text_takeRow_13 (C : np_Cx gA p R s m args c D np_cl (np_ty cA) A np_al "NotationParse$Text" prog_6_method_6_code 9 { frames := 2, cells := 0, slots := 0, locals := 43 }) (hQ : ∀ (pc : Nat) (ls : Array Slot) (H : Heap) (locs : List Loc) {σ : np_S}, decode prog_6_method_6_code pc = .ok (.return_, 1) → some ((0 : Int), σ) = some out → np_At D np_cl A (nc_wd q cA) s σ H locs → W p l e R s m args below meth c H locs 0 0 Q (F0 m pc ls []))   : ∀ (x1 x2 x3 t0 : Int) (σ : np_S) (H : Heap) (locs : List Loc) (ls : Array Slot), f_Text_takeRow_13  x1 x2 x3 t0 σ = some out → np_At D np_cl A (nc_wd q cA) s σ H locs → lv_has ls 9 [(0, .ref (q 6)), (1, .int (np_i x1)), (2, .int (np_i x2)), (3, .int (np_i x3)), (4, .ref (q 1))] → W p l e R s m args below meth c H locs 0 0 Q (F0 m 13 ls [.int (np_i t0)]) := by
  intro x1 x2 x3 t0 σ H locs ls hf hat hl
  unfold f_Text_takeRow_13 at hf
  refine lv_istore (lv' := [(5, .int (np_i t0)), (0, .ref (q 6)), (1, .int (np_i x1)), (2, .int (np_i x2)), (3, .int (np_i x3)), (4, .ref (q 1))]) C.x C.b dd_Text_takeRow_13 hl (by decide) rfl (fun ls hl => ?_)
  refine lv_iload_n C.x C.b dd_Text_takeRow_15 rfl (lv_at hl 4 rfl) ?_
  refine np_if_eq (tgt := 33) C dd_Text_takeRow_16 (by decide) hf (fun _ hf => ?_) (fun _ hf => ?_)
  · exact w_f_Text_takeRow_33 C hQ  _ _ _ _ _ hf hat (lv_sub hl [1, 2] rfl)
  · refine lv_iload C.x C.b dd_Text_takeRow_19 (lv_at hl 0 rfl) ?_
    refine np_if_ne (tgt := 33) C dd_Text_takeRow_21 (by decide) hf (fun _ hf => ?_) (fun _ hf => ?_)
    · exact w_f_Text_takeRow_33 C hQ  _ _ _ _ _ hf hat (lv_sub hl [1, 2] rfl)
    · refine lv_aload_n C.x C.b dd_Text_takeRow_24 rfl (lv_at hl 1 rfl) ?_
      refine np_get (v := .int (np_i (σ 6 5))) C i_Text hat.1 6 (nc_o6 _) rfl 5 (by decide) tw_94 rfl rfl dd_Text_takeRow_25 ?_
      refine lv_bipush (v := np_i 30) C.x C.b dd_Text_takeRow_28 (by decide +kernel) ?_
      refine np_icmp_lt (tgt := 39) C dd_Text_takeRow_30 (by decide) hf (fun _ hf => ?_) (fun _ hf => ?_)
      · refine lv_lconst (v := np_l 0) C.x C.b dd_Text_takeRow_39 (by decide +kernel) ?_
        refine lv_lstore (lv' := [(6, .long (np_l 0)), (5, .int (np_i t0)), (0, .ref (q 6)), (1, .int (np_i x1)), (2, .int (np_i x2)), (3, .int (np_i x3)), (4, .ref (q 1))]) C.x C.b dd_Text_takeRow_40 hl (by decide) rfl (fun ls hl => ?_)
        refine lv_iload_n C.x C.b dd_Text_takeRow_42 rfl (lv_at hl 3 rfl) ?_
        refine lv_istore (lv' := [(8, .int (np_i x1)), (6, .long (np_l 0)), (5, .int (np_i t0)), (0, .ref (q 6)), (1, .int (np_i x1)), (2, .int (np_i x2)), (3, .int (np_i x3)), (4, .ref (q 1))]) C.x C.b dd_Text_takeRow_43 hl (by decide) rfl (fun ls hl => ?_)
        exact w_f_Text_takeRow_45 C hQ  6000 _ _ _ _ _ _ _ _ _ hf hat (lv_sub hl [3, 4, 5, 6, 7, 1, 0] rfl)
      · exact w_f_Text_takeRow_33 C hQ  _ _ _ _ _ hf hat (lv_sub hl [1, 2] rfl)
set_option maxHeartbeats 4000000 in
set_option maxRecDepth 100000 in
theorem w_f_Text_takeRow (C : np_Cx gA p R s m args c D np_cl (np_ty cA) A np_al "NotationParse$Text" prog_6_method_6_code 9 { frames := 2, cells := 0, slots := 0, locals := 43 }) (hQ : ∀ (pc : Nat) (ls : Array Slot) (H : Heap) (locs : List Loc) {σ : np_S}, decode prog_6_method_6_code pc = .ok (.return_, 1) → some ((0 : Int), σ) = some out → np_At D np_cl A (nc_wd q cA) s σ H locs → W p l e R s m args below meth c H locs 0 0 Q (F0 m pc ls []))   : ∀ (x1 x2 x3 : Int) (σ : np_S) (H : Heap) (locs : List Loc) (ls : Array Slot), f_Text_takeRow  x1 x2 x3 σ = some out → np_At D np_cl A (nc_wd q cA) s σ H locs → lv_has ls 9 [(0, .ref (q 6)), (1, .int (np_i x1)), (2, .int (np_i x2)), (3, .int (np_i x3)), (4, .ref (q 1))] → W p l e R s m args below meth c H locs 0 0 Q (F0 m 0 ls []) := by
  intro x1 x2 x3 σ H locs ls hf hat hl
  unfold f_Text_takeRow at hf
  refine lv_iload_n C.x C.b dd_Text_takeRow_0 rfl (lv_at hl 2 rfl) ?_
  refine lv_iload_n C.x C.b dd_Text_takeRow_1 rfl (lv_at hl 1 rfl) ?_
  refine np_isub C dd_Text_takeRow_2 ?_
  refine lv_bipush (v := np_i 8) C.x C.b dd_Text_takeRow_3 (by decide +kernel) ?_
  refine np_icmp_le (tgt := 12) C dd_Text_takeRow_5 (by decide) hf (fun _ hf => ?_) (fun _ hf => ?_)
  · refine lv_iconst (v := np_i 0) C.x C.b dd_Text_takeRow_12 rfl ?_
    exact w_f_Text_takeRow_13 C hQ  _ _ _ _ _ _ _ _ hf hat (lv_sub hl [0, 1, 2, 3, 4] rfl)
  · refine lv_iconst (v := np_i 1) C.x C.b dd_Text_takeRow_8 rfl ?_
    refine lv_goto (tgt := 13) C.x C.b dd_Text_takeRow_9 (by decide) ?_
    exact w_f_Text_takeRow_13 C hQ  _ _ _ _ _ _ _ _ hf hat (lv_sub hl [0, 1, 2, 3, 4] rfl)
set_option maxHeartbeats 4000000 in
set_option maxRecDepth 100000 in
theorem c_Text_takeRow (l : Launch) {gA : Nat → Nat} {D : va_G} {q : Nat → Nat} {cA : Nat → ClassId} (x1 x2 x3 : Int) (σ : np_S) : np_Mv gA l D np_cl (np_ty cA) (nc_wd q cA) yy_Text_takeRow (.code yy_Text_takeRow prog_6_method_6_code 9 none :: np_al) { frames := 2, cells := 0, slots := 0, locals := 43 } [.ref (q 6), .int (np_i x1), .int (np_i x2), .int (np_i x3), .ref (q 1)] σ (f_Text_takeRow x1 x2 x3 σ) :=
  np_mkv (by decide +kernel) (Nat.le_of_ble_eq_true rfl) (fun o p e R s m args below meth c Q A ls hf C hQ hat hl => w_f_Text_takeRow C hQ x1 x2 x3 σ _ _ _ hf hat (lv_sub hl [0, 1, 2, 3, 4] rfl))
set_option maxHeartbeats 4000000 in
set_option maxRecDepth 100000 in
theorem w_f_Text_cut_79 (C : np_Cx gA p R s m args c D np_cl (np_ty cA) A np_al "NotationParse$Text" prog_6_method_3_code 6 { frames := 7, cells := 0, slots := 0, locals := 155 }) (hQ : ∀ (pc : Nat) (ls : Array Slot) (H : Heap) (locs : List Loc) {σ : np_S}, decode prog_6_method_3_code pc = .ok (.return_, 1) → some ((0 : Int), σ) = some out → np_At D np_cl A (nc_wd q cA) s σ H locs → W p l e R s m args below meth c H locs 0 0 Q (F0 m pc ls []))   : ∀ (σ : np_S) (H : Heap) (locs : List Loc) (ls : Array Slot), f_Text_cut_79  σ = some out → np_At D np_cl A (nc_wd q cA) s σ H locs → lv_has ls 6 [] → W p l e R s m args below meth c H locs 0 0 Q (F0 m 79 ls []) := by
  intro σ H locs ls hf hat hl
  unfold f_Text_cut_79 at hf
  exact hQ _ _ _ _ dd_Text_cut_79 hf hat
set_option maxHeartbeats 4000000 in
set_option maxRecDepth 100000 in
theorem w_f_Text_cut_70 (C : np_Cx gA p R s m args c D np_cl (np_ty cA) A np_al "NotationParse$Text" prog_6_method_3_code 6 { frames := 7, cells := 0, slots := 0, locals := 155 }) (hQ : ∀ (pc : Nat) (ls : Array Slot) (H : Heap) (locs : List Loc) {σ : np_S}, decode prog_6_method_3_code pc = .ok (.return_, 1) → some ((0 : Int), σ) = some out → np_At D np_cl A (nc_wd q cA) s σ H locs → W p l e R s m args below meth c H locs 0 0 Q (F0 m pc ls [])) {k14 : (Int → Int → np_S → Option np_O)} (h14 : ∀ (x2 x3 : Int) (σ : np_S) (H : Heap) (locs : List Loc) (ls : Array Slot), k14 x2 x3 σ = some out → np_At D np_cl A (nc_wd q cA) s σ H locs → lv_has ls 6 [(0, .ref (q 6)), (1, .ref (q 1)), (2, .int (np_i x2)), (3, .int (np_i x3))] → W p l e R s m args below meth c H locs 0 0 Q (F0 m 14 ls [])) : ∀ (x3 x5 : Int) (σ : np_S) (H : Heap) (locs : List Loc) (ls : Array Slot), f_Text_cut_70 k14 x3 x5 σ = some out → np_At D np_cl A (nc_wd q cA) s σ H locs → lv_has ls 6 [(0, .ref (q 6)), (1, .ref (q 1)), (3, .int (np_i x3)), (5, .int (np_i x5))] → W p l e R s m args below meth c H locs 0 0 Q (F0 m 70 ls []) := by
  intro x3 x5 σ H locs ls hf hat hl
  unfold f_Text_cut_70 at hf
  refine lv_iload C.x C.b dd_Text_cut_70 (lv_at hl 3 rfl) ?_
  refine lv_istore_n (lv' := [(2, .int (np_i x5)), (0, .ref (q 6)), (1, .ref (q 1)), (3, .int (np_i x3)), (5, .int (np_i x5))]) C.x C.b dd_Text_cut_72 rfl hl (by decide) rfl (fun ls hl => ?_)
  refine lv_iinc (v := np_i (x3 + 1)) (lv' := [(3, .int (np_i (x3 + 1))), (2, .int (np_i x5)), (0, .ref (q 6)), (1, .ref (q 1)), (5, .int (np_i x5))]) C.x C.b dd_Text_cut_73 hl (k := 3) rfl (np_inc _ _) (by decide) rfl (fun ls hl => ?_)
  refine lv_goto (tgt := 14) C.x C.b dd_Text_cut_76 (by decide) ?_
  exact h14 _ _ _ _ _ _ hf hat (lv_sub hl [2, 3, 1, 0] rfl)
set_option maxHeartbeats 4000000 in
set_option maxRecDepth 100000 in
theorem w_f_Text_cut_14 (C : np_Cx gA p R s m args c D np_cl (np_ty cA) A np_al "NotationParse$Text" prog_6_method_3_code 6 { frames := 7, cells := 0, slots := 0, locals := 155 }) (hQ : ∀ (pc : Nat) (ls : Array Slot) (H : Heap) (locs : List Loc) {σ : np_S}, decode prog_6_method_3_code pc = .ok (.return_, 1) → some ((0 : Int), σ) = some out → np_At D np_cl A (nc_wd q cA) s σ H locs → W p l e R s m args below meth c H locs 0 0 Q (F0 m pc ls []))   : ∀ (n : Nat), ∀ (x2 x3 : Int) (σ : np_S) (H : Heap) (locs : List Loc) (ls : Array Slot), f_Text_cut_14  n x2 x3 σ = some out → np_At D np_cl A (nc_wd q cA) s σ H locs → lv_has ls 6 [(0, .ref (q 6)), (1, .ref (q 1)), (2, .int (np_i x2)), (3, .int (np_i x3))] → W p l e R s m args below meth c H locs 0 0 Q (F0 m 14 ls []) := by
  intro n
  induction n with
  | zero => intro x2 x3 σ H locs ls hf; cases hf
  | succ n ih =>
    intro x2 x3 σ H locs ls hf hat hl
    have h14 := ih
    have hf : f_Text_cut_14_b  (fun x2 x3 σ => f_Text_cut_14  n x2 x3 σ) x2 x3 σ = some out := hf
    unfold f_Text_cut_14_b at hf
    refine lv_iload_n C.x C.b dd_Text_cut_14 rfl (lv_at hl 3 rfl) ?_
    refine lv_aload_n C.x C.b dd_Text_cut_15 rfl (lv_at hl 0 rfl) ?_
    refine np_get (v := .int (np_i (σ 6 1))) C i_Text hat.1 6 (nc_o6 _) rfl 1 (by decide) tw_86 rfl rfl dd_Text_cut_16 ?_
    refine np_icmp_ge (tgt := 79) C dd_Text_cut_19 (by decide) hf (fun _ hf => ?_) (fun _ hf => ?_)
    · exact w_f_Text_cut_79 C hQ   _ _ _ _ hf hat (lv_sub hl [] rfl)
    · refine lv_iload_n C.x C.b dd_Text_cut_22 rfl (lv_at hl 2 rfl) ?_
      refine lv_aload_n C.x C.b dd_Text_cut_23 rfl (lv_at hl 0 rfl) ?_
      refine np_get (v := .int (np_i (σ 6 1))) C i_Text hat.1 6 (nc_o6 _) rfl 1 (by decide) tw_86 rfl rfl dd_Text_cut_24 ?_
      refine np_icmp_ge (tgt := 79) C dd_Text_cut_27 (by decide) hf (fun _ hf => ?_) (fun _ hf => ?_)
      · exact w_f_Text_cut_79 C hQ   _ _ _ _ hf hat (lv_sub hl [] rfl)
      · refine lv_aload_n C.x C.b dd_Text_cut_30 rfl (lv_at hl 0 rfl) ?_
        refine np_get (v := .int (np_i (σ 6 6))) C i_Text hat.1 6 (nc_o6 _) rfl 6 (by decide) tw_97 rfl rfl dd_Text_cut_31 ?_
        refine lv_iconst (v := np_i (-1)) C.x C.b dd_Text_cut_34 rfl ?_
        refine np_icmp_ne (tgt := 79) C dd_Text_cut_35 (by decide) hf (fun _ hf => ?_) (fun _ hf => ?_)
        · exact w_f_Text_cut_79 C hQ   _ _ _ _ hf hat (lv_sub hl [] rfl)
        · refine lv_aload_n C.x C.b dd_Text_cut_38 rfl (lv_at hl 0 rfl) ?_
          refine lv_iload_n C.x C.b dd_Text_cut_39 rfl (lv_at hl 2 rfl) ?_
          refine np_callVi (As := [.int (np_i x2)]) (rest := []) C (c_Text_kindAt l x2 _) np_allgood tw_727 tw_729 tp_1 tw_4 tw_730 (nA := 1) (by decide +kernel) rfl ⟨rfl, rfl, Nat.le_of_ble_eq_true rfl, Nat.le_of_ble_eq_true rfl⟩ (va_recv C.k hat.1 (ci := 2) (q0 := 6) rfl (nc_o6 _)) hat rfl hl.1 (Nat.le_of_ble_eq_true rfl) dd_Text_cut_40 hf (fun o1 H locs hf hat => ?_)
          refine lv_istore (lv' := [(4, .int (np_i o1.1)), (0, .ref (q 6)), (1, .ref (q 1)), (2, .int (np_i x2)), (3, .int (np_i x3))]) C.x C.b dd_Text_cut_43 hl (by decide) rfl (fun ls hl => ?_)
          refine lv_aload_n C.x C.b dd_Text_cut_45 rfl (lv_at hl 1 rfl) ?_
          refine lv_iload_n C.x C.b dd_Text_cut_46 rfl (lv_at hl 3 rfl) ?_
          refine lv_iload C.x C.b dd_Text_cut_47 (lv_at hl 0 rfl) ?_
          refine np_callVi (As := [.int (np_i x2), .int (np_i o1.1)]) (rest := []) C (c_Text_endOfRow l x2 o1.1 _) np_allgood tw_732 tw_734 tp_2 tw_4 tw_735 (nA := 2) (by decide +kernel) rfl ⟨rfl, rfl, Nat.le_of_ble_eq_true rfl, Nat.le_of_ble_eq_true rfl⟩ (va_recv C.k hat.1 (ci := 2) (q0 := 6) rfl (nc_o6 _)) hat rfl hl.1 (Nat.le_of_ble_eq_true rfl) dd_Text_cut_49 hf (fun o2 H locs hf hat => ?_)
          refine lv_istore (lv' := [(5, .int (np_i o2.1)), (4, .int (np_i o1.1)), (0, .ref (q 6)), (1, .ref (q 1)), (2, .int (np_i x2)), (3, .int (np_i x3))]) C.x C.b dd_Text_cut_52 hl (by decide) rfl (fun ls hl => ?_)
          refine lv_iload C.x C.b dd_Text_cut_54 (lv_at hl 1 rfl) ?_
          refine lv_iconst (v := np_i 1) C.x C.b dd_Text_cut_56 rfl ?_
          refine np_icmp_eq (tgt := 70) C dd_Text_cut_57 (by decide) hf (fun _ hf => ?_) (fun _ hf => ?_)
          · exact w_f_Text_cut_70 C hQ h14 _ _ _ _ _ _ hf hat (lv_sub hl [2, 3, 5, 0] rfl)
          · refine lv_aload_n C.x C.b dd_Text_cut_60 rfl (lv_at hl 2 rfl) ?_
            refine lv_iload_n C.x C.b dd_Text_cut_61 rfl (lv_at hl 4 rfl) ?_
            refine lv_iload C.x C.b dd_Text_cut_62 (lv_at hl 0 rfl) ?_
            refine lv_iload C.x C.b dd_Text_cut_64 (lv_at hl 1 rfl) ?_
            refine lv_aload_n C.x C.b dd_Text_cut_66 rfl (lv_at hl 3 rfl) ?_
            refine np_callVv (As := [.int (np_i x2), .int (np_i o2.1), .int (np_i o1.1), .ref (q 1)]) (rest := []) C (c_Text_takeRow l x2 o2.1 o1.1 _) np_allgood tw_736 tw_738 tp_3 tw_4 tw_739 (nA := 4) (by decide +kernel) rfl ⟨rfl, rfl, Nat.le_of_ble_eq_true rfl, Nat.le_of_ble_eq_true rfl⟩ (va_recv C.k hat.1 (ci := 2) (q0 := 6) rfl (nc_o6 _)) hat rfl hl.1 (Nat.le_of_ble_eq_true rfl) dd_Text_cut_67 hf (fun o3 H locs hf hat => ?_)
            exact w_f_Text_cut_70 C hQ h14 _ _ _ _ _ _ hf hat (lv_sub hl [2, 3, 5, 0] rfl)
set_option maxHeartbeats 4000000 in
set_option maxRecDepth 100000 in
theorem w_f_Text_cut (C : np_Cx gA p R s m args c D np_cl (np_ty cA) A np_al "NotationParse$Text" prog_6_method_3_code 6 { frames := 7, cells := 0, slots := 0, locals := 155 }) (hQ : ∀ (pc : Nat) (ls : Array Slot) (H : Heap) (locs : List Loc) {σ : np_S}, decode prog_6_method_3_code pc = .ok (.return_, 1) → some ((0 : Int), σ) = some out → np_At D np_cl A (nc_wd q cA) s σ H locs → W p l e R s m args below meth c H locs 0 0 Q (F0 m pc ls []))   : ∀ (σ : np_S) (H : Heap) (locs : List Loc) (ls : Array Slot), f_Text_cut  σ = some out → np_At D np_cl A (nc_wd q cA) s σ H locs → lv_has ls 6 [(0, .ref (q 6)), (1, .ref (q 1))] → W p l e R s m args below meth c H locs 0 0 Q (F0 m 0 ls []) := by
  intro σ H locs ls hf hat hl
  unfold f_Text_cut at hf
  refine lv_aload_n C.x C.b dd_Text_cut_0 rfl (lv_at hl 0 rfl) ?_
  refine lv_iconst (v := np_i 0) C.x C.b dd_Text_cut_1 rfl ?_
  refine np_put C i_Text t_Text tok_Text n_Text hat 6 (nc_o6 _) rfl 5 (by decide) tw_94 rfl rfl (by decide +kernel) (np_narI 0) (np_fitI 0) (Nat.le_of_ble_eq_true rfl) (nc_s6_5 _ _) dd_Text_cut_2 (fun H locs hat => ?_)
  refine lv_aload_n C.x C.b dd_Text_cut_5 rfl (lv_at hl 0 rfl) ?_
  refine lv_iconst (v := np_i (-1)) C.x C.b dd_Text_cut_6 rfl ?_
  refine np_put C i_Text t_Text tok_Text n_Text hat 6 (nc_o6 _) rfl 6 (by decide) tw_97 rfl rfl (by decide +kernel) (np_narI ((-1))) (np_fitI ((-1))) (Nat.le_of_ble_eq_true rfl) (nc_s6_6 _ _) dd_Text_cut_7 (fun H locs hat => ?_)
  refine lv_iconst (v := np_i 0) C.x C.b dd_Text_cut_10 rfl ?_
  refine lv_istore_n (lv' := [(2, .int (np_i 0)), (0, .ref (q 6)), (1, .ref (q 1))]) C.x C.b dd_Text_cut_11 rfl hl (by decide) rfl (fun ls hl => ?_)
  refine lv_iconst (v := np_i 0) C.x C.b dd_Text_cut_12 rfl ?_
  refine lv_istore_n (lv' := [(3, .int (np_i 0)), (2, .int (np_i 0)), (0, .ref (q 6)), (1, .ref (q 1))]) C.x C.b dd_Text_cut_13 rfl hl (by decide) rfl (fun ls hl => ?_)
  exact w_f_Text_cut_14 C hQ  6000 _ _ _ _ _ _ hf hat (lv_sub hl [2, 3, 1, 0] rfl)
set_option maxHeartbeats 4000000 in
set_option maxRecDepth 100000 in
theorem c_Text_cut (l : Launch) {gA : Nat → Nat} {D : va_G} {q : Nat → Nat} {cA : Nat → ClassId} (σ : np_S) : np_Mv gA l D np_cl (np_ty cA) (nc_wd q cA) yy_Text_cut (.code yy_Text_cut prog_6_method_3_code 6 none :: np_al) { frames := 7, cells := 0, slots := 0, locals := 155 } [.ref (q 6), .ref (q 1)] σ (f_Text_cut  σ) :=
  np_mkv (by decide +kernel) (Nat.le_of_ble_eq_true rfl) (fun o p e R s m args below meth c Q A ls hf C hQ hat hl => w_f_Text_cut C hQ  σ _ _ _ hf hat (lv_sub hl [0, 1] rfl))
set_option maxHeartbeats 4000000 in
set_option maxRecDepth 100000 in
theorem w_f_Arrays_fill_12_10 (C : np_Cx gA p R s m args c D np_cl (np_ty cA) A np_al "java/util/Arrays" prog_25_method_104_code 5 { frames := 1, cells := 0, slots := 0, locals := 22 }) (hQ : ∀ (pc : Nat) (ls : Array Slot) (H : Heap) (locs : List Loc) {σ : np_S}, decode prog_25_method_104_code pc = .ok (.return_, 1) → some ((0 : Int), σ) = some out → np_At D np_cl A (nc_wd q cA) s σ H locs → W p l e R s m args below meth c H locs 0 0 Q (F0 m pc ls []))   : ∀ (n : Nat), ∀ (x2 x3 x4 : Int) (σ : np_S) (H : Heap) (locs : List Loc) (ls : Array Slot), f_Arrays_fill_12_10  n x2 x3 x4 σ = some out → np_At D np_cl A (nc_wd q cA) s σ H locs → lv_has ls 5 [(0, .ref (q 12)), (2, .int (np_i x2)), (3, .int (np_i x3)), (4, .int (np_i x4))] → W p l e R s m args below meth c H locs 0 0 Q (F0 m 10 ls []) := by
  intro n
  induction n with
  | zero => intro x2 x3 x4 σ H locs ls hf; cases hf
  | succ n ih =>
    intro x2 x3 x4 σ H locs ls hf hat hl
    have h10 := ih
    have hf : f_Arrays_fill_12_10_b  (fun x2 x3 x4 σ => f_Arrays_fill_12_10  n x2 x3 x4 σ) x2 x3 x4 σ = some out := hf
    unfold f_Arrays_fill_12_10_b at hf
    refine lv_iload C.x C.b dd_Arrays_fill_10 (lv_at hl 3 rfl) ?_
    refine lv_iload_n C.x C.b dd_Arrays_fill_12 rfl (lv_at hl 1 rfl) ?_
    refine np_icmp_ge (tgt := 27) C dd_Arrays_fill_13 (by decide) hf (fun _ hf => ?_) (fun _ hf => ?_)
    · exact hQ _ _ _ _ dd_Arrays_fill_27 hf hat
    · refine lv_aload_n C.x C.b dd_Arrays_fill_16 rfl (lv_at hl 0 rfl) ?_
      refine lv_iload C.x C.b dd_Arrays_fill_17 (lv_at hl 3 rfl) ?_
      refine lv_iload_n C.x C.b dd_Arrays_fill_19 rfl (lv_at hl 2 rfl) ?_
      refine np_iastore C hat 12 (nc_a12 _) 0 rfl (by decide) (nc_s12 _ _ _) dd_Arrays_fill_20 hf (fun H locs hat hf => ?_)
      refine lv_iinc (v := np_i (x4 + 1)) (lv' := [(4, .int (np_i (x4 + 1))), (0, .ref (q 12)), (2, .int (np_i x2)), (3, .int (np_i x3))]) C.x C.b dd_Arrays_fill_21 hl (k := 3) rfl (np_inc _ _) (by decide) rfl (fun ls hl => ?_)
      refine lv_goto (tgt := 10) C.x C.b dd_Arrays_fill_24 (by decide) ?_
      exact h10 _ _ _ _ _ _ _ hf hat (lv_sub hl [1, 2, 3, 0] rfl)
set_option maxHeartbeats 4000000 in
set_option maxRecDepth 100000 in
theorem w_f_Arrays_fill_12 (C : np_Cx gA p R s m args c D np_cl (np_ty cA) A np_al "java/util/Arrays" prog_25_method_104_code 5 { frames := 1, cells := 0, slots := 0, locals := 22 }) (hQ : ∀ (pc : Nat) (ls : Array Slot) (H : Heap) (locs : List Loc) {σ : np_S}, decode prog_25_method_104_code pc = .ok (.return_, 1) → some ((0 : Int), σ) = some out → np_At D np_cl A (nc_wd q cA) s σ H locs → W p l e R s m args below meth c H locs 0 0 Q (F0 m pc ls []))   : ∀ (x1 x2 x3 : Int) (σ : np_S) (H : Heap) (locs : List Loc) (ls : Array Slot), f_Arrays_fill_12  x1 x2 x3 σ = some out → np_At D np_cl A (nc_wd q cA) s σ H locs → lv_has ls 5 [(0, .ref (q 12)), (1, .int (np_i x1)), (2, .int (np_i x2)), (3, .int (np_i x3))] → W p l e R s m args below meth c H locs 0 0 Q (F0 m 0 ls []) := by
  intro x1 x2 x3 σ H locs ls hf hat hl
  unfold f_Arrays_fill_12 at hf
  refine lv_aload_n C.x C.b dd_Arrays_fill_0 rfl (lv_at hl 0 rfl) ?_
  refine np_alen (n := 3038) C hat.1 12 (nc_a12 _) 0 rfl (show Int32.ofNat 3038 = np_i 3038 by decide +kernel) dd_Arrays_fill_1 ?_
  refine lv_iload_n C.x C.b dd_Arrays_fill_2 rfl (lv_at hl 1 rfl) ?_
  refine lv_iload_n C.x C.b dd_Arrays_fill_3 rfl (lv_at hl 2 rfl) ?_
  refine np_callSv (As := [.int (np_i 3038), .int (np_i x1), .int (np_i x2)]) (rest := []) C (c_Arrays_rangeCheck l 3038 x1 x2 _) np_allgood tw_494 tw_495 tw_3 tw_496 (nA := 3) (by decide +kernel) rfl ⟨rfl, rfl, Nat.le_of_ble_eq_true rfl, Nat.le_of_ble_eq_true rfl⟩ hat rfl hl.1 (Nat.le_of_ble_eq_true rfl) dd_Arrays_fill_4 hf (fun o1 H locs hf hat => ?_)
  refine lv_iload_n C.x C.b dd_Arrays_fill_7 rfl (lv_at hl 1 rfl) ?_
  refine lv_istore (lv' := [(4, .int (np_i x1)), (0, .ref (q 12)), (1, .int (np_i x1)), (2, .int (np_i x2)), (3, .int (np_i x3))]) C.x C.b dd_Arrays_fill_8 hl (by decide) rfl (fun ls hl => ?_)
  exact w_f_Arrays_fill_12_10 C hQ  6000 _ _ _ _ _ _ _ hf hat (lv_sub hl [1, 3, 4, 0] rfl)
set_option maxHeartbeats 4000000 in
set_option maxRecDepth 100000 in
theorem c_Arrays_fill_12 (l : Launch) {gA : Nat → Nat} {D : va_G} {q : Nat → Nat} {cA : Nat → ClassId} (x1 x2 x3 : Int) (σ : np_S) : np_Mv gA l D np_cl (np_ty cA) (nc_wd q cA) yy_Arrays_fill (.code yy_Arrays_fill prog_25_method_104_code 5 none :: np_al) { frames := 1, cells := 0, slots := 0, locals := 22 } [.ref (q 12), .int (np_i x1), .int (np_i x2), .int (np_i x3)] σ (f_Arrays_fill_12 x1 x2 x3 σ) :=
  np_mkv (by decide +kernel) (Nat.le_of_ble_eq_true rfl) (fun o p e R s m args below meth c Q A ls hf C hQ hat hl => w_f_Arrays_fill_12 C hQ x1 x2 x3 σ _ _ _ hf hat (lv_sub hl [0, 1, 2, 3] rfl))
set_option maxHeartbeats 4000000 in
set_option maxRecDepth 100000 in
theorem w_f_Chart_emptyRow (C : np_Cx gA p R s m args c D np_cl (np_ty cA) A np_al "NotationParse$Chart" prog_2_method_4_code 2 { frames := 2, cells := 0, slots := 0, locals := 46 }) (hQ : ∀ (pc : Nat) (ls : Array Slot) (H : Heap) (locs : List Loc) {σ : np_S}, decode prog_2_method_4_code pc = .ok (.return_, 1) → some ((0 : Int), σ) = some out → np_At D np_cl A (nc_wd q cA) s σ H locs → W p l e R s m args below meth c H locs 0 0 Q (F0 m pc ls []))   : ∀ (x1 : Int) (σ : np_S) (H : Heap) (locs : List Loc) (ls : Array Slot), f_Chart_emptyRow  x1 σ = some out → np_At D np_cl A (nc_wd q cA) s σ H locs → lv_has ls 2 [(0, .ref (q 11)), (1, .int (np_i x1))] → W p l e R s m args below meth c H locs 0 0 Q (F0 m 0 ls []) := by
  intro x1 σ H locs ls hf hat hl
  unfold f_Chart_emptyRow at hf
  refine lv_aload_n C.x C.b dd_Chart_emptyRow_0 rfl (lv_at hl 0 rfl) ?_
  refine np_get (v := .ref (q 12)) C i_Chart hat.1 11 (nc_o11 _) rfl 1 (by decide) tw_122 rfl rfl dd_Chart_emptyRow_1 ?_
  refine lv_iload_n C.x C.b dd_Chart_emptyRow_4 rfl (lv_at hl 1 rfl) ?_
  refine lv_bipush (v := np_i 98) C.x C.b dd_Chart_emptyRow_5 (by decide +kernel) ?_
  refine np_imul C dd_Chart_emptyRow_7 ?_
  refine lv_iload_n C.x C.b dd_Chart_emptyRow_8 rfl (lv_at hl 1 rfl) ?_
  refine lv_iconst (v := np_i 1) C.x C.b dd_Chart_emptyRow_9 rfl ?_
  refine np_iadd C dd_Chart_emptyRow_10 ?_
  refine lv_bipush (v := np_i 98) C.x C.b dd_Chart_emptyRow_11 (by decide +kernel) ?_
  refine np_imul C dd_Chart_emptyRow_13 ?_
  refine lv_iconst (v := np_i 0) C.x C.b dd_Chart_emptyRow_14 rfl ?_
  refine np_callSv (As := [.ref (q 12), .int (np_i (x1 * 98)), .int (np_i ((x1 + 1) * 98)), .int (np_i 0)]) (rest := []) C (c_Arrays_fill_12 l (x1 * 98) ((x1 + 1) * 98) 0 _) np_allgood tw_753 tw_492 tw_3 tw_493 (nA := 4) (by decide +kernel) rfl ⟨rfl, rfl, Nat.le_of_ble_eq_true rfl, Nat.le_of_ble_eq_true rfl⟩ hat rfl hl.1 (Nat.le_of_ble_eq_true rfl) dd_Chart_emptyRow_15 hf (fun o1 H locs hf hat => ?_)
  exact hQ _ _ _ _ dd_Chart_emptyRow_18 hf hat
set_option maxHeartbeats 4000000 in
set_option maxRecDepth 100000 in
theorem c_Chart_emptyRow (l : Launch) {gA : Nat → Nat} {D : va_G} {q : Nat → Nat} {cA : Nat → ClassId} (x1 : Int) (σ : np_S) : np_Mv gA l D np_cl (np_ty cA) (nc_wd q cA) yy_Chart_emptyRow (.code yy_Chart_emptyRow prog_2_method_4_code 2 none :: np_al) { frames := 2, cells := 0, slots := 0, locals := 46 } [.ref (q 11), .int (np_i x1)] σ (f_Chart_emptyRow x1 σ) :=
  np_mkv (by decide +kernel) (Nat.le_of_ble_eq_true rfl) (fun o p e R s m args below meth c Q A ls hf C hQ hat hl => w_f_Chart_emptyRow C hQ x1 σ _ _ _ hf hat (lv_sub hl [0, 1] rfl))
set_option maxHeartbeats 4000000 in
set_option maxRecDepth 100000 in
theorem w_f_Chart_scan_84 (C : np_Cx gA p R s m args c D np_cl (np_ty cA) A np_al "NotationParse$Chart" prog_2_method_6_code 8 { frames := 1, cells := 0, slots := 0, locals := 20 }) (hQ : ∀ (pc : Nat) (ls : Array Slot) (H : Heap) (locs : List Loc) (v : Int) {σ : np_S}, decode prog_2_method_6_code pc = .ok (.ireturn, 1) → np_ck (v = 0 ∨ v = 1) (some (v, σ)) = some out → np_At D np_cl A (nc_wd q cA) s σ H locs → W p l e R s m args below meth c H locs 0 0 Q (F0 m pc ls [.int (np_i v)])) {k19 : (Int → Int → Int → Int → Int → np_S → Option np_O)} (h19 : ∀ (x2 x4 x5 x6 x7 : Int) (σ : np_S) (H : Heap) (locs : List Loc) (ls : Array Slot), k19 x2 x4 x5 x6 x7 σ = some out → np_At D np_cl A (nc_wd q cA) s σ H locs → lv_has ls 8 [(0, .ref (q 11)), (2, .long (np_l x2)), (4, .int (np_i x4)), (5, .int (np_i x5)), (6, .int (np_i x6)), (7, .int (np_i x7))] → W p l e R s m args below meth c H locs 0 0 Q (F0 m 19 ls [])) : ∀ (x2 x4 x5 x6 x7 : Int) (σ : np_S) (H : Heap) (locs : List Loc) (ls : Array Slot), f_Chart_scan_84 k19 x2 x4 x5 x6 x7 σ = some out → np_At D np_cl A (nc_wd q cA) s σ H locs → lv_has ls 8 [(0, .ref (q 11)), (2, .long (np_l x2)), (4, .int (np_i x4)), (5, .int (np_i x5)), (6, .int (np_i x6)), (7, .int (np_i x7))] → W p l e R s m args below meth c H locs 0 0 Q (F0 m 84 ls []) := by
  intro x2 x4 x5 x6 x7 σ H locs ls hf hat hl
  unfold f_Chart_scan_84 at hf
  refine lv_iinc (v := np_i (x7 + 1)) (lv' := [(7, .int (np_i (x7 + 1))), (0, .ref (q 11)), (2, .long (np_l x2)), (4, .int (np_i x4)), (5, .int (np_i x5)), (6, .int (np_i x6))]) C.x C.b dd_Chart_scan_84 hl (k := 5) rfl (np_inc _ _) (by decide) rfl (fun ls hl => ?_)
  refine lv_goto (tgt := 19) C.x C.b dd_Chart_scan_87 (by decide) ?_
  exact h19 _ _ _ _ _ _ _ _ _ hf hat (lv_sub hl [1, 2, 3, 4, 5, 0] rfl)
set_option maxHeartbeats 4000000 in
set_option maxRecDepth 100000 in
theorem w_f_Chart_scan_19 (C : np_Cx gA p R s m args c D np_cl (np_ty cA) A np_al "NotationParse$Chart" prog_2_method_6_code 8 { frames := 1, cells := 0, slots := 0, locals := 20 }) (hQ : ∀ (pc : Nat) (ls : Array Slot) (H : Heap) (locs : List Loc) (v : Int) {σ : np_S}, decode prog_2_method_6_code pc = .ok (.ireturn, 1) → np_ck (v = 0 ∨ v = 1) (some (v, σ)) = some out → np_At D np_cl A (nc_wd q cA) s σ H locs → W p l e R s m args below meth c H locs 0 0 Q (F0 m pc ls [.int (np_i v)]))   : ∀ (n : Nat), ∀ (x2 x4 x5 x6 x7 : Int) (σ : np_S) (H : Heap) (locs : List Loc) (ls : Array Slot), f_Chart_scan_19  n x2 x4 x5 x6 x7 σ = some out → np_At D np_cl A (nc_wd q cA) s σ H locs → lv_has ls 8 [(0, .ref (q 11)), (2, .long (np_l x2)), (4, .int (np_i x4)), (5, .int (np_i x5)), (6, .int (np_i x6)), (7, .int (np_i x7))] → W p l e R s m args below meth c H locs 0 0 Q (F0 m 19 ls []) := by
  intro n
  induction n with
  | zero => intro x2 x4 x5 x6 x7 σ H locs ls hf; cases hf
  | succ n ih =>
    intro x2 x4 x5 x6 x7 σ H locs ls hf hat hl
    have h19 := ih
    have hf : f_Chart_scan_19_b  (fun x2 x4 x5 x6 x7 σ => f_Chart_scan_19  n x2 x4 x5 x6 x7 σ) x2 x4 x5 x6 x7 σ = some out := hf
    unfold f_Chart_scan_19_b at hf
    refine lv_iload C.x C.b dd_Chart_scan_19 (lv_at hl 5 rfl) ?_
    refine lv_aload_n C.x C.b dd_Chart_scan_21 rfl (lv_at hl 0 rfl) ?_
    refine np_get (v := .ref (q 1)) C i_Chart hat.1 11 (nc_o11 _) rfl 0 (by decide) tw_121 rfl rfl dd_Chart_scan_22 ?_
    refine np_callVi (As := []) (rest := [.int (np_i x7)]) C (c_Grammar_usedDots l _) np_allgood tw_766 tw_356 tw_357 tw_2 tw_358 (nA := 0) (by decide +kernel) rfl ⟨rfl, rfl, Nat.le_of_ble_eq_true rfl, Nat.le_of_ble_eq_true rfl⟩ (va_recv C.k hat.1 (ci := 1) (q0 := 1) rfl (nc_o1 _)) hat rfl hl.1 (Nat.le_of_ble_eq_true rfl) dd_Chart_scan_25 hf (fun o1 H locs hf hat => ?_)
    refine np_icmp_ge (tgt := 90) C dd_Chart_scan_28 (by decide) hf (fun _ hf => ?_) (fun _ hf => ?_)
    · refine lv_iload C.x C.b dd_Chart_scan_90 (lv_at hl 4 rfl) ?_
      exact hQ _ _ _ _ _ dd_Chart_scan_92 hf hat
    · refine lv_aload_n C.x C.b dd_Chart_scan_31 rfl (lv_at hl 0 rfl) ?_
      refine np_get (v := .ref (q 12)) C i_Chart hat.1 11 (nc_o11 _) rfl 1 (by decide) tw_122 rfl rfl dd_Chart_scan_32 ?_
      refine lv_iload C.x C.b dd_Chart_scan_35 (lv_at hl 2 rfl) ?_
      refine lv_iload C.x C.b dd_Chart_scan_37 (lv_at hl 5 rfl) ?_
      refine np_iadd C dd_Chart_scan_39 ?_
      refine np_iaload C hat.1 12 (nc_a12 _) 0 rfl (by decide) dd_Chart_scan_40 hf (fun hf => ?_)
      refine np_if_eq (tgt := 84) C dd_Chart_scan_41 (by decide) hf (fun _ hf => ?_) (fun _ hf => ?_)
      · exact w_f_Chart_scan_84 C hQ h19 _ _ _ _ _ _ _ _ _ hf hat (lv_sub hl [0, 1, 2, 3, 4, 5] rfl)
      · refine lv_aload_n C.x C.b dd_Chart_scan_44 rfl (lv_at hl 0 rfl) ?_
        refine np_get (v := .ref (q 1)) C i_Chart hat.1 11 (nc_o11 _) rfl 0 (by decide) tw_121 rfl rfl dd_Chart_scan_45 ?_
        refine np_get (v := .ref (q 3)) C i_Grammar hat.1 1 (nc_o1 _) rfl 1 (by decide) tw_54 rfl rfl dd_Chart_scan_48 ?_
        refine lv_iload C.x C.b dd_Chart_scan_51 (lv_at hl 5 rfl) ?_
        refine np_laload C hat.1 3 (nc_a3 _) 1 rfl (by decide) dd_Chart_scan_53 hf (fun hf => ?_)
        refine lv_lload_n C.x C.b dd_Chart_scan_54 rfl (lv_at hl 1 rfl) ?_
        refine np_lcmp C dd_Chart_scan_55 hf (fun hf => ?_)
        refine np_if_ne (tgt := 84) C dd_Chart_scan_56 (by decide) hf (fun _ hf => ?_) (fun _ hf => ?_)
        · exact w_f_Chart_scan_84 C hQ h19 _ _ _ _ _ _ _ _ _ hf hat (lv_sub hl [0, 1, 2, 3, 4, 5] rfl)
        · refine lv_aload_n C.x C.b dd_Chart_scan_59 rfl (lv_at hl 0 rfl) ?_
          refine np_get (v := .ref (q 12)) C i_Chart hat.1 11 (nc_o11 _) rfl 1 (by decide) tw_122 rfl rfl dd_Chart_scan_60 ?_
          refine lv_iload C.x C.b dd_Chart_scan_63 (lv_at hl 3 rfl) ?_
          refine lv_iload C.x C.b dd_Chart_scan_65 (lv_at hl 5 rfl) ?_
          refine np_iadd C dd_Chart_scan_67 ?_
          refine lv_iconst (v := np_i 1) C.x C.b dd_Chart_scan_68 rfl ?_
          refine np_iadd C dd_Chart_scan_69 ?_
          refine lv_aload_n C.x C.b dd_Chart_scan_70 rfl (lv_at hl 0 rfl) ?_
          refine np_get (v := .ref (q 12)) C i_Chart hat.1 11 (nc_o11 _) rfl 1 (by decide) tw_122 rfl rfl dd_Chart_scan_71 ?_
          refine lv_iload C.x C.b dd_Chart_scan_74 (lv_at hl 2 rfl) ?_
          refine lv_iload C.x C.b dd_Chart_scan_76 (lv_at hl 5 rfl) ?_
          refine np_iadd C dd_Chart_scan_78 ?_
          refine np_iaload C hat.1 12 (nc_a12 _) 0 rfl (by decide) dd_Chart_scan_79 hf (fun hf => ?_)
          refine np_iastore C hat 12 (nc_a12 _) 0 rfl (by decide) (nc_s12 _ _ _) dd_Chart_scan_80 hf (fun H locs hat hf => ?_)
          refine lv_iconst (v := np_i 1) C.x C.b dd_Chart_scan_81 rfl ?_
          refine lv_istore (lv' := [(6, .int (np_i 1)), (0, .ref (q 11)), (2, .long (np_l x2)), (4, .int (np_i x4)), (5, .int (np_i x5)), (7, .int (np_i x7))]) C.x C.b dd_Chart_scan_82 hl (by decide) rfl (fun ls hl => ?_)
          exact w_f_Chart_scan_84 C hQ h19 _ _ _ _ _ _ _ _ _ hf hat (lv_sub hl [1, 2, 3, 4, 0, 5] rfl)
set_option maxHeartbeats 4000000 in
set_option maxRecDepth 100000 in
theorem w_f_Chart_scan (C : np_Cx gA p R s m args c D np_cl (np_ty cA) A np_al "NotationParse$Chart" prog_2_method_6_code 8 { frames := 1, cells := 0, slots := 0, locals := 20 }) (hQ : ∀ (pc : Nat) (ls : Array Slot) (H : Heap) (locs : List Loc) (v : Int) {σ : np_S}, decode prog_2_method_6_code pc = .ok (.ireturn, 1) → np_ck (v = 0 ∨ v = 1) (some (v, σ)) = some out → np_At D np_cl A (nc_wd q cA) s σ H locs → W p l e R s m args below meth c H locs 0 0 Q (F0 m pc ls [.int (np_i v)]))   : ∀ (x1 x2 : Int) (σ : np_S) (H : Heap) (locs : List Loc) (ls : Array Slot), f_Chart_scan  x1 x2 σ = some out → np_At D np_cl A (nc_wd q cA) s σ H locs → lv_has ls 8 [(0, .ref (q 11)), (1, .int (np_i x1)), (2, .long (np_l x2))] → W p l e R s m args below meth c H locs 0 0 Q (F0 m 0 ls []) := by
  intro x1 x2 σ H locs ls hf hat hl
  unfold f_Chart_scan at hf
  refine lv_iload_n C.x C.b dd_Chart_scan_0 rfl (lv_at hl 1 rfl) ?_
  refine lv_bipush (v := np_i 98) C.x C.b dd_Chart_scan_1 (by decide +kernel) ?_
  refine np_imul C dd_Chart_scan_3 ?_
  refine lv_istore (lv' := [(4, .int (np_i (x1 * 98))), (0, .ref (q 11)), (1, .int (np_i x1)), (2, .long (np_l x2))]) C.x C.b dd_Chart_scan_4 hl (by decide) rfl (fun ls hl => ?_)
  refine lv_iload C.x C.b dd_Chart_scan_6 (lv_at hl 0 rfl) ?_
  refine lv_bipush (v := np_i 98) C.x C.b dd_Chart_scan_8 (by decide +kernel) ?_
  refine np_iadd C dd_Chart_scan_10 ?_
  refine lv_istore (lv' := [(5, .int (np_i ((x1 * 98) + 98))), (4, .int (np_i (x1 * 98))), (0, .ref (q 11)), (1, .int (np_i x1)), (2, .long (np_l x2))]) C.x C.b dd_Chart_scan_11 hl (by decide) rfl (fun ls hl => ?_)
  refine lv_iconst (v := np_i 0) C.x C.b dd_Chart_scan_13 rfl ?_
  refine lv_istore (lv' := [(6, .int (np_i 0)), (5, .int (np_i ((x1 * 98) + 98))), (4, .int (np_i (x1 * 98))), (0, .ref (q 11)), (1, .int (np_i x1)), (2, .long (np_l x2))]) C.x C.b dd_Chart_scan_14 hl (by decide) rfl (fun ls hl => ?_)
  refine lv_iconst (v := np_i 0) C.x C.b dd_Chart_scan_16 rfl ?_
  refine lv_istore (lv' := [(7, .int (np_i 0)), (6, .int (np_i 0)), (5, .int (np_i ((x1 * 98) + 98))), (4, .int (np_i (x1 * 98))), (0, .ref (q 11)), (1, .int (np_i x1)), (2, .long (np_l x2))]) C.x C.b dd_Chart_scan_17 hl (by decide) rfl (fun ls hl => ?_)
  exact w_f_Chart_scan_19 C hQ  6000 _ _ _ _ _ _ _ _ _ hf hat (lv_sub hl [4, 6, 3, 2, 1, 0] rfl)
set_option maxHeartbeats 4000000 in
set_option maxRecDepth 100000 in
theorem c_Chart_scan (l : Launch) {gA : Nat → Nat} {D : va_G} {q : Nat → Nat} {cA : Nat → ClassId} (x1 x2 : Int) (σ : np_S) : np_Mi gA l D np_cl (np_ty cA) (nc_wd q cA) yy_Chart_scan (.code yy_Chart_scan prog_2_method_6_code 8 (some .boolean) :: np_al) { frames := 1, cells := 0, slots := 0, locals := 20 } [.ref (q 11), .int (np_i x1), .long (np_l x2)] σ (f_Chart_scan x1 x2 σ) :=
  np_mkz (by decide +kernel) (Nat.le_of_ble_eq_true rfl) (fun o p e R s m args below meth c Q A ls hf C hQ hat hl => w_f_Chart_scan C hQ x1 x2 σ _ _ _ hf hat (lv_sub hl [0, 1, 2] rfl))
set_option maxHeartbeats 4000000 in
set_option maxRecDepth 100000 in
theorem w_f_Grammar_lastDot (C : np_Cx gA p R s m args c D np_cl (np_ty cA) A np_al "NotationParse$Grammar" prog_3_method_3_code 2 { frames := 0, cells := 0, slots := 0, locals := 0 }) (hQ : ∀ (pc : Nat) (ls : Array Slot) (H : Heap) (locs : List Loc) (v : Int) {σ : np_S}, decode prog_3_method_3_code pc = .ok (.ireturn, 1) → some (v, σ) = some out → np_At D np_cl A (nc_wd q cA) s σ H locs → W p l e R s m args below meth c H locs 0 0 Q (F0 m pc ls [.int (np_i v)]))   : ∀ (x1 : Int) (σ : np_S) (H : Heap) (locs : List Loc) (ls : Array Slot), f_Grammar_lastDot  x1 σ = some out → np_At D np_cl A (nc_wd q cA) s σ H locs → lv_has ls 2 [(0, .ref (q 1)), (1, .int (np_i x1))] → W p l e R s m args below meth c H locs 0 0 Q (F0 m 0 ls []) := by
  intro x1 σ H locs ls hf hat hl
  unfold f_Grammar_lastDot at hf
  refine lv_iload_n C.x C.b dd_Grammar_lastDot_0 rfl (lv_at hl 1 rfl) ?_
  refine lv_bipush (v := np_i 7) C.x C.b dd_Grammar_lastDot_1 (by decide +kernel) ?_
  refine np_imul C dd_Grammar_lastDot_3 ?_
  refine lv_aload_n C.x C.b dd_Grammar_lastDot_4 rfl (lv_at hl 0 rfl) ?_
  refine np_get (v := .ref (q 5)) C i_Grammar hat.1 1 (nc_o1 _) rfl 3 (by decide) tw_58 rfl rfl dd_Grammar_lastDot_5 ?_
  refine lv_iload_n C.x C.b dd_Grammar_lastDot_8 rfl (lv_at hl 1 rfl) ?_
  refine np_iaload C hat.1 5 (nc_a5 _) 0 rfl (by decide) dd_Grammar_lastDot_9 hf (fun hf => ?_)
  refine np_iadd C dd_Grammar_lastDot_10 ?_
  exact hQ _ _ _ _ _ dd_Grammar_lastDot_11 hf hat
set_option maxHeartbeats 4000000 in
set_option maxRecDepth 100000 in
theorem c_Grammar_lastDot (l : Launch) {gA : Nat → Nat} {D : va_G} {q : Nat → Nat} {cA : Nat → ClassId} (x1 : Int) (σ : np_S) : np_Mi gA l D np_cl (np_ty cA) (nc_wd q cA) yy_Grammar_lastDot (.code yy_Grammar_lastDot prog_3_method_3_code 2 (some .int) :: np_al) { frames := 0, cells := 0, slots := 0, locals := 0 } [.ref (q 1), .int (np_i x1)] σ (f_Grammar_lastDot x1 σ) :=
  np_mki (by decide +kernel) (Nat.le_of_ble_eq_true rfl) (fun o p e R s m args below meth c Q A ls hf C hQ hat hl => w_f_Grammar_lastDot C hQ x1 σ _ _ _ hf hat (lv_sub hl [0, 1] rfl))
set_option maxHeartbeats 4000000 in
set_option maxRecDepth 100000 in
theorem w_f_Chart_isReached_23 (C : np_Cx gA p R s m args c D np_cl (np_ty cA) A np_al "NotationParse$Chart" prog_2_method_5_code 4 { frames := 0, cells := 0, slots := 0, locals := 0 }) (hQ : ∀ (pc : Nat) (ls : Array Slot) (H : Heap) (locs : List Loc) (v : Int) {σ : np_S}, decode prog_2_method_5_code pc = .ok (.ireturn, 1) → np_ck (v = 0 ∨ v = 1) (some (v, σ)) = some out → np_At D np_cl A (nc_wd q cA) s σ H locs → W p l e R s m args below meth c H locs 0 0 Q (F0 m pc ls [.int (np_i v)]))   : ∀ (t0 : Int) (σ : np_S) (H : Heap) (locs : List Loc) (ls : Array Slot), f_Chart_isReached_23  t0 σ = some out → np_At D np_cl A (nc_wd q cA) s σ H locs → lv_has ls 4 [] → W p l e R s m args below meth c H locs 0 0 Q (F0 m 23 ls [.int (np_i t0)]) := by
  intro t0 σ H locs ls hf hat hl
  unfold f_Chart_isReached_23 at hf
  exact hQ _ _ _ _ _ dd_Chart_isReached_23 hf hat
set_option maxHeartbeats 4000000 in
set_option maxRecDepth 100000 in
theorem w_f_Chart_isReached (C : np_Cx gA p R s m args c D np_cl (np_ty cA) A np_al "NotationParse$Chart" prog_2_method_5_code 4 { frames := 0, cells := 0, slots := 0, locals := 0 }) (hQ : ∀ (pc : Nat) (ls : Array Slot) (H : Heap) (locs : List Loc) (v : Int) {σ : np_S}, decode prog_2_method_5_code pc = .ok (.ireturn, 1) → np_ck (v = 0 ∨ v = 1) (some (v, σ)) = some out → np_At D np_cl A (nc_wd q cA) s σ H locs → W p l e R s m args below meth c H locs 0 0 Q (F0 m pc ls [.int (np_i v)]))   : ∀ (x1 x2 x3 : Int) (σ : np_S) (H : Heap) (locs : List Loc) (ls : Array Slot), f_Chart_isReached  x1 x2 x3 σ = some out → np_At D np_cl A (nc_wd q cA) s σ H locs → lv_has ls 4 [(0, .ref (q 11)), (1, .int (np_i x1)), (2, .int (np_i x2)), (3, .int (np_i x3))] → W p l e R s m args below meth c H locs 0 0 Q (F0 m 0 ls []) := by
  intro x1 x2 x3 σ H locs ls hf hat hl
  unfold f_Chart_isReached at hf
  refine lv_aload_n C.x C.b dd_Chart_isReached_0 rfl (lv_at hl 0 rfl) ?_
  refine np_get (v := .ref (q 12)) C i_Chart hat.1 11 (nc_o11 _) rfl 1 (by decide) tw_122 rfl rfl dd_Chart_isReached_1 ?_
  refine lv_iload_n C.x C.b dd_Chart_isReached_4 rfl (lv_at hl 2 rfl) ?_
  refine lv_bipush (v := np_i 98) C.x C.b dd_Chart_isReached_5 (by decide +kernel) ?_
  refine np_imul C dd_Chart_isReached_7 ?_
  refine lv_iload_n C.x C.b dd_Chart_isReached_8 rfl (lv_at hl 3 rfl) ?_
  refine np_iadd C dd_Chart_isReached_9 ?_
  refine np_iaload C hat.1 12 (nc_a12 _) 0 rfl (by decide) dd_Chart_isReached_10 hf (fun hf => ?_)
  refine lv_iload_n C.x C.b dd_Chart_isReached_11 rfl (lv_at hl 1 rfl) ?_
  refine np_iushr C dd_Chart_isReached_12 ?_
  refine lv_iconst (v := np_i 1) C.x C.b dd_Chart_isReached_13 rfl ?_
  refine np_iand C dd_Chart_isReached_14 ?_
  refine np_if_eq (tgt := 22) C dd_Chart_isReached_15 (by decide) hf (fun _ hf => ?_) (fun _ hf => ?_)
  · refine lv_iconst (v := np_i 0) C.x C.b dd_Chart_isReached_22 rfl ?_
    exact w_f_Chart_isReached_23 C hQ  _ _ _ _ _ hf hat (lv_sub hl [] rfl)
  · refine lv_iconst (v := np_i 1) C.x C.b dd_Chart_isReached_18 rfl ?_
    refine lv_goto (tgt := 23) C.x C.b dd_Chart_isReached_19 (by decide) ?_
    exact w_f_Chart_isReached_23 C hQ  _ _ _ _ _ hf hat (lv_sub hl [] rfl)
set_option maxHeartbeats 4000000 in
set_option maxRecDepth 100000 in
theorem c_Chart_isReached (l : Launch) {gA : Nat → Nat} {D : va_G} {q : Nat → Nat} {cA : Nat → ClassId} (x1 x2 x3 : Int) (σ : np_S) : np_Mi gA l D np_cl (np_ty cA) (nc_wd q cA) yy_Chart_isReached (.code yy_Chart_isReached prog_2_method_5_code 4 (some .boolean) :: np_al) { frames := 0, cells := 0, slots := 0, locals := 0 } [.ref (q 11), .int (np_i x1), .int (np_i x2), .int (np_i x3)] σ (f_Chart_isReached x1 x2 x3 σ) :=
  np_mkz (by decide +kernel) (Nat.le_of_ble_eq_true rfl) (fun o p e R s m args below meth c Q A ls hf C hQ hat hl => w_f_Chart_isReached C hQ x1 x2 x3 σ _ _ _ hf hat (lv_sub hl [0, 1, 2, 3] rfl))
set_option maxHeartbeats 4000000 in
set_option maxRecDepth 100000 in
theorem w_f_Chart_highestTerm_60 (C : np_Cx gA p R s m args c D np_cl (np_ty cA) A np_al "NotationParse$Chart" prog_2_method_8_code 5 { frames := 1, cells := 0, slots := 0, locals := 23 }) (hQ : ∀ (pc : Nat) (ls : Array Slot) (H : Heap) (locs : List Loc) (v : Int) {σ : np_S}, decode prog_2_method_8_code pc = .ok (.ireturn, 1) → some (v, σ) = some out → np_At D np_cl A (nc_wd q cA) s σ H locs → W p l e R s m args below meth c H locs 0 0 Q (F0 m pc ls [.int (np_i v)])) {k5 : (Int → Int → Int → Int → np_S → Option np_O)} (h5 : ∀ (x1 x2 x3 x4 : Int) (σ : np_S) (H : Heap) (locs : List Loc) (ls : Array Slot), k5 x1 x2 x3 x4 σ = some out → np_At D np_cl A (nc_wd q cA) s σ H locs → lv_has ls 5 [(0, .ref (q 11)), (1, .int (np_i x1)), (2, .int (np_i x2)), (3, .int (np_i x3)), (4, .int (np_i x4))] → W p l e R s m args below meth c H locs 0 0 Q (F0 m 5 ls [])) : ∀ (x1 x2 x3 x4 : Int) (σ : np_S) (H : Heap) (locs : List Loc) (ls : Array Slot), f_Chart_highestTerm_60 k5 x1 x2 x3 x4 σ = some out → np_At D np_cl A (nc_wd q cA) s σ H locs → lv_has ls 5 [(0, .ref (q 11)), (1, .int (np_i x1)), (2, .int (np_i x2)), (3, .int (np_i x3)), (4, .int (np_i x4))] → W p l e R s m args below meth c H locs 0 0 Q (F0 m 60 ls []) := by
  intro x1 x2 x3 x4 σ H locs ls hf hat hl
  unfold f_Chart_highestTerm_60 at hf
  refine lv_iinc (v := np_i (x4 + 1)) (lv' := [(4, .int (np_i (x4 + 1))), (0, .ref (q 11)), (1, .int (np_i x1)), (2, .int (np_i x2)), (3, .int (np_i x3))]) C.x C.b dd_Chart_highestTerm_60 hl (k := 4) rfl (np_inc _ _) (by decide) rfl (fun ls hl => ?_)
  refine lv_goto (tgt := 5) C.x C.b dd_Chart_highestTerm_63 (by decide) ?_
  exact h5 _ _ _ _ _ _ _ _ hf hat (lv_sub hl [1, 2, 3, 4, 0] rfl)
set_option maxHeartbeats 4000000 in
set_option maxRecDepth 100000 in
theorem w_f_Chart_highestTerm_5 (C : np_Cx gA p R s m args c D np_cl (np_ty cA) A np_al "NotationParse$Chart" prog_2_method_8_code 5 { frames := 1, cells := 0, slots := 0, locals := 23 }) (hQ : ∀ (pc : Nat) (ls : Array Slot) (H : Heap) (locs : List Loc) (v : Int) {σ : np_S}, decode prog_2_method_8_code pc = .ok (.ireturn, 1) → some (v, σ) = some out → np_At D np_cl A (nc_wd q cA) s σ H locs → W p l e R s m args below meth c H locs 0 0 Q (F0 m pc ls [.int (np_i v)]))   : ∀ (n : Nat), ∀ (x1 x2 x3 x4 : Int) (σ : np_S) (H : Heap) (locs : List Loc) (ls : Array Slot), f_Chart_highestTerm_5  n x1 x2 x3 x4 σ = some out → np_At D np_cl A (nc_wd q cA) s σ H locs → lv_has ls 5 [(0, .ref (q 11)), (1, .int (np_i x1)), (2, .int (np_i x2)), (3, .int (np_i x3)), (4, .int (np_i x4))] → W p l e R s m args below meth c H locs 0 0 Q (F0 m 5 ls []) := by
  intro n
  induction n with
  | zero => intro x1 x2 x3 x4 σ H locs ls hf; cases hf
  | succ n ih =>
    intro x1 x2 x3 x4 σ H locs ls hf hat hl
    have h5 := ih
    have hf : f_Chart_highestTerm_5_b  (fun x1 x2 x3 x4 σ => f_Chart_highestTerm_5  n x1 x2 x3 x4 σ) x1 x2 x3 x4 σ = some out := hf
    unfold f_Chart_highestTerm_5_b at hf
    refine lv_iload C.x C.b dd_Chart_highestTerm_5 (lv_at hl 4 rfl) ?_
    refine lv_aload_n C.x C.b dd_Chart_highestTerm_7 rfl (lv_at hl 0 rfl) ?_
    refine np_get (v := .ref (q 1)) C i_Chart hat.1 11 (nc_o11 _) rfl 0 (by decide) tw_121 rfl rfl dd_Chart_highestTerm_8 ?_
    refine np_get (v := .int (np_i (σ 1 4))) C i_Grammar hat.1 1 (nc_o1 _) rfl 4 (by decide) tw_61 rfl rfl dd_Chart_highestTerm_11 ?_
    refine np_icmp_ge (tgt := 66) C dd_Chart_highestTerm_14 (by decide) hf (fun _ hf => ?_) (fun _ hf => ?_)
    · refine lv_iload_n C.x C.b dd_Chart_highestTerm_66 rfl (lv_at hl 3 rfl) ?_
      exact hQ _ _ _ _ _ dd_Chart_highestTerm_67 hf hat
    · refine lv_aload_n C.x C.b dd_Chart_highestTerm_17 rfl (lv_at hl 0 rfl) ?_
      refine np_get (v := .ref (q 1)) C i_Chart hat.1 11 (nc_o11 _) rfl 0 (by decide) tw_121 rfl rfl dd_Chart_highestTerm_18 ?_
      refine np_get (v := .ref (q 4)) C i_Grammar hat.1 1 (nc_o1 _) rfl 2 (by decide) tw_56 rfl rfl dd_Chart_highestTerm_21 ?_
      refine lv_iload C.x C.b dd_Chart_highestTerm_24 (lv_at hl 4 rfl) ?_
      refine np_iaload C hat.1 4 (nc_a4 _) 0 rfl (by decide) dd_Chart_highestTerm_26 hf (fun hf => ?_)
      refine lv_iload_n C.x C.b dd_Chart_highestTerm_27 rfl (lv_at hl 3 rfl) ?_
      refine np_icmp_le (tgt := 60) C dd_Chart_highestTerm_28 (by decide) hf (fun _ hf => ?_) (fun _ hf => ?_)
      · exact w_f_Chart_highestTerm_60 C hQ h5 _ _ _ _ _ _ _ _ hf hat (lv_sub hl [0, 1, 2, 3, 4] rfl)
      · refine lv_aload_n C.x C.b dd_Chart_highestTerm_31 rfl (lv_at hl 0 rfl) ?_
        refine lv_iload_n C.x C.b dd_Chart_highestTerm_32 rfl (lv_at hl 1 rfl) ?_
        refine lv_iload_n C.x C.b dd_Chart_highestTerm_33 rfl (lv_at hl 2 rfl) ?_
        refine lv_aload_n C.x C.b dd_Chart_highestTerm_34 rfl (lv_at hl 0 rfl) ?_
        refine np_get (v := .ref (q 1)) C i_Chart hat.1 11 (nc_o11 _) rfl 0 (by decide) tw_121 rfl rfl dd_Chart_highestTerm_35 ?_
        refine lv_iload C.x C.b dd_Chart_highestTerm_38 (lv_at hl 4 rfl) ?_
        refine np_callVi (As := [.int (np_i x4)]) (rest := [.int (np_i x2), .int (np_i x1), .ref (q 11)]) C (c_Grammar_lastDot l x4 _) np_allgood tw_775 tw_776 tw_777 tw_2 tw_778 (nA := 1) (by decide +kernel) rfl ⟨rfl, rfl, Nat.le_of_ble_eq_true rfl, Nat.le_of_ble_eq_true rfl⟩ (va_recv C.k hat.1 (ci := 1) (q0 := 1) rfl (nc_o1 _)) hat rfl hl.1 (Nat.le_of_ble_eq_true rfl) dd_Chart_highestTerm_40 hf (fun o1 H locs hf hat => ?_)
        refine np_callVi (As := [.int (np_i x1), .int (np_i x2), .int (np_i o1.1)]) (rest := []) C (c_Chart_isReached l x1 x2 o1.1 _) np_allgood tw_779 tw_781 tp_11 tw_5 tw_782 (nA := 3) (by decide +kernel) rfl ⟨rfl, rfl, Nat.le_of_ble_eq_true rfl, Nat.le_of_ble_eq_true rfl⟩ (va_recv C.k hat.1 (ci := 3) (q0 := 11) rfl (nc_o11 _)) hat rfl hl.1 (Nat.le_of_ble_eq_true rfl) dd_Chart_highestTerm_43 hf (fun o2 H locs hf hat => ?_)
        refine np_if_eq (tgt := 60) C dd_Chart_highestTerm_46 (by decide) hf (fun _ hf => ?_) (fun _ hf => ?_)
        · exact w_f_Chart_highestTerm_60 C hQ h5 _ _ _ _ _ _ _ _ hf hat (lv_sub hl [0, 1, 2, 3, 4] rfl)
        · refine lv_aload_n C.x C.b dd_Chart_highestTerm_49 rfl (lv_at hl 0 rfl) ?_
          refine np_get (v := .ref (q 1)) C i_Chart hat.1 11 (nc_o11 _) rfl 0 (by decide) tw_121 rfl rfl dd_Chart_highestTerm_50 ?_
          refine np_get (v := .ref (q 4)) C i_Grammar hat.1 1 (nc_o1 _) rfl 2 (by decide) tw_56 rfl rfl dd_Chart_highestTerm_53 ?_
          refine lv_iload C.x C.b dd_Chart_highestTerm_56 (lv_at hl 4 rfl) ?_
          refine np_iaload C hat.1 4 (nc_a4 _) 0 rfl (by decide) dd_Chart_highestTerm_58 hf (fun hf => ?_)
          refine lv_istore_n (lv' := [(3, .int (np_i (o2.2 4 x4))), (0, .ref (q 11)), (1, .int (np_i x1)), (2, .int (np_i x2)), (4, .int (np_i x4))]) C.x C.b dd_Chart_highestTerm_59 rfl hl (by decide) rfl (fun ls hl => ?_)
          exact w_f_Chart_highestTerm_60 C hQ h5 _ _ _ _ _ _ _ _ hf hat (lv_sub hl [1, 2, 3, 0, 4] rfl)
set_option maxHeartbeats 4000000 in
set_option maxRecDepth 100000 in
theorem w_f_Chart_highestTerm (C : np_Cx gA p R s m args c D np_cl (np_ty cA) A np_al "NotationParse$Chart" prog_2_method_8_code 5 { frames := 1, cells := 0, slots := 0, locals := 23 }) (hQ : ∀ (pc : Nat) (ls : Array Slot) (H : Heap) (locs : List Loc) (v : Int) {σ : np_S}, decode prog_2_method_8_code pc = .ok (.ireturn, 1) → some (v, σ) = some out → np_At D np_cl A (nc_wd q cA) s σ H locs → W p l e R s m args below meth c H locs 0 0 Q (F0 m pc ls [.int (np_i v)]))   : ∀ (x1 x2 : Int) (σ : np_S) (H : Heap) (locs : List Loc) (ls : Array Slot), f_Chart_highestTerm  x1 x2 σ = some out → np_At D np_cl A (nc_wd q cA) s σ H locs → lv_has ls 5 [(0, .ref (q 11)), (1, .int (np_i x1)), (2, .int (np_i x2))] → W p l e R s m args below meth c H locs 0 0 Q (F0 m 0 ls []) := by
  intro x1 x2 σ H locs ls hf hat hl
  unfold f_Chart_highestTerm at hf
  refine lv_iconst (v := np_i (-1)) C.x C.b dd_Chart_highestTerm_0 rfl ?_
  refine lv_istore_n (lv' := [(3, .int (np_i ((-1)))), (0, .ref (q 11)), (1, .int (np_i x1)), (2, .int (np_i x2))]) C.x C.b dd_Chart_highestTerm_1 rfl hl (by decide) rfl (fun ls hl => ?_)
  refine lv_iconst (v := np_i 0) C.x C.b dd_Chart_highestTerm_2 rfl ?_
  refine lv_istore (lv' := [(4, .int (np_i 0)), (3, .int (np_i ((-1)))), (0, .ref (q 11)), (1, .int (np_i x1)), (2, .int (np_i x2))]) C.x C.b dd_Chart_highestTerm_3 hl (by decide) rfl (fun ls hl => ?_)
  exact w_f_Chart_highestTerm_5 C hQ  6000 _ _ _ _ _ _ _ _ hf hat (lv_sub hl [2, 3, 4, 1, 0] rfl)
set_option maxHeartbeats 4000000 in
set_option maxRecDepth 100000 in
theorem c_Chart_highestTerm (l : Launch) {gA : Nat → Nat} {D : va_G} {q : Nat → Nat} {cA : Nat → ClassId} (x1 x2 : Int) (σ : np_S) : np_Mi gA l D np_cl (np_ty cA) (nc_wd q cA) yy_Chart_highestTerm (.code yy_Chart_highestTerm prog_2_method_8_code 5 (some .int) :: np_al) { frames := 1, cells := 0, slots := 0, locals := 23 } [.ref (q 11), .int (np_i x1), .int (np_i x2)] σ (f_Chart_highestTerm x1 x2 σ) :=
  np_mki (by decide +kernel) (Nat.le_of_ble_eq_true rfl) (fun o p e R s m args below meth c Q A ls hf C hQ hat hl => w_f_Chart_highestTerm C hQ x1 x2 σ _ _ _ hf hat (lv_sub hl [0, 1, 2] rfl))
end NW1
