section NW0
variable {p : Program} {l : Launch} {e : Env} {R : Room} {s : State} {m : MethodId} {args : Array Value} {below : List Frame} {meth : Method} {c : Code} {Q : State → Prop} {D : va_G} {A : Nat → Prop} {q : Nat → Nat} {cA : Nat → ClassId} {out : np_O} {gA : Nat → Nat}
set_option maxHeartbeats 4000000 in
set_option maxRecDepth 100000 in
theorem w_f_Grammar_usedDots (C : np_Cx gA p R s m args c D np_cl (np_ty cA) A np_al "NotationParse$Grammar" prog_3_method_2_code 1 { frames := 0, cells := 0, slots := 0, locals := 0 }) (hQ : ∀ (pc : Nat) (ls : Array Slot) (H : Heap) (locs : List Loc) (v : Int) {σ : np_S}, decode prog_3_method_2_code pc = .ok (.ireturn, 1) → some (v, σ) = some out → np_At D np_cl A (nc_wd q cA) s σ H locs → W p l e R s m args below meth c H locs 0 0 Q (F0 m pc ls [.int (np_i v)]))   : ∀ (σ : np_S) (H : Heap) (locs : List Loc) (ls : Array Slot), f_Grammar_usedDots  σ = some out → np_At D np_cl A (nc_wd q cA) s σ H locs → lv_has ls 1 [(0, .ref (q 1))] → W p l e R s m args below meth c H locs 0 0 Q (F0 m 0 ls []) := by
  intro σ H locs ls hf hat hl
  unfold f_Grammar_usedDots at hf
  refine lv_aload_n C.x C.b dd_Grammar_usedDots_0 rfl (lv_at hl 0 rfl) ?_
  refine np_get (v := .int (np_i (σ 1 4))) C i_Grammar hat.1 1 (nc_o1 _) rfl 4 (by decide) tw_59 rfl rfl dd_Grammar_usedDots_1 ?_
  refine lv_bipush (v := np_i 7) C.x C.b dd_Grammar_usedDots_4 (by decide +kernel) ?_
  refine np_imul C dd_Grammar_usedDots_6 ?_
  exact hQ _ _ _ _ _ dd_Grammar_usedDots_7 hf hat
set_option maxHeartbeats 4000000 in
set_option maxRecDepth 100000 in
theorem c_Grammar_usedDots (l : Launch) {gA : Nat → Nat} {D : va_G} {q : Nat → Nat} {cA : Nat → ClassId} (σ : np_S) : np_Mi gA l D np_cl (np_ty cA) (nc_wd q cA) yy_Grammar_usedDots (.code yy_Grammar_usedDots prog_3_method_2_code 1 (some .int) :: np_al) { frames := 0, cells := 0, slots := 0, locals := 0 } [.ref (q 1)] σ (f_Grammar_usedDots  σ) :=
  np_mki (by decide +kernel) (Nat.le_of_ble_eq_true rfl) (fun o p e R s m args below meth c Q A ls hf C hQ hat hl => w_f_Grammar_usedDots C hQ  σ _ _ _ hf hat (lv_sub hl [0] rfl))
set_option maxHeartbeats 4000000 in
set_option maxRecDepth 100000 in
theorem w_f_Grammar_handEndsInHole_32 (C : np_Cx gA p R s m args c D np_cl (np_ty cA) A np_al "NotationParse$Grammar" prog_3_method_4_code 1 { frames := 1, cells := 0, slots := 0, locals := 20 }) (hQ : ∀ (pc : Nat) (ls : Array Slot) (H : Heap) (locs : List Loc) (v : Int) {σ : np_S}, decode prog_3_method_4_code pc = .ok (.ireturn, 1) → np_ck (v = 0 ∨ v = 1) (some (v, σ)) = some out → np_At D np_cl A (nc_wd q cA) s σ H locs → W p l e R s m args below meth c H locs 0 0 Q (F0 m pc ls [.int (np_i v)]))   : ∀ (t0 : Int) (σ : np_S) (H : Heap) (locs : List Loc) (ls : Array Slot), f_Grammar_handEndsInHole_32  t0 σ = some out → np_At D np_cl A (nc_wd q cA) s σ H locs → lv_has ls 1 [] → W p l e R s m args below meth c H locs 0 0 Q (F0 m 32 ls [.int (np_i t0)]) := by
  intro t0 σ H locs ls hf hat hl
  unfold f_Grammar_handEndsInHole_32 at hf
  exact hQ _ _ _ _ _ dd_Grammar_handEndsInHole_32 hf hat
set_option maxHeartbeats 4000000 in
set_option maxRecDepth 100000 in
theorem w_f_Grammar_handEndsInHole_31 (C : np_Cx gA p R s m args c D np_cl (np_ty cA) A np_al "NotationParse$Grammar" prog_3_method_4_code 1 { frames := 1, cells := 0, slots := 0, locals := 20 }) (hQ : ∀ (pc : Nat) (ls : Array Slot) (H : Heap) (locs : List Loc) (v : Int) {σ : np_S}, decode prog_3_method_4_code pc = .ok (.ireturn, 1) → np_ck (v = 0 ∨ v = 1) (some (v, σ)) = some out → np_At D np_cl A (nc_wd q cA) s σ H locs → W p l e R s m args below meth c H locs 0 0 Q (F0 m pc ls [.int (np_i v)]))   : ∀ (σ : np_S) (H : Heap) (locs : List Loc) (ls : Array Slot), f_Grammar_handEndsInHole_31  σ = some out → np_At D np_cl A (nc_wd q cA) s σ H locs → lv_has ls 1 [] → W p l e R s m args below meth c H locs 0 0 Q (F0 m 31 ls []) := by
  intro σ H locs ls hf hat hl
  unfold f_Grammar_handEndsInHole_31 at hf
  refine lv_iconst (v := np_i 0) C.x C.b dd_Grammar_handEndsInHole_31 rfl ?_
  exact w_f_Grammar_handEndsInHole_32 C hQ  _ _ _ _ _ hf hat (lv_sub hl [] rfl)
set_option maxHeartbeats 4000000 in
set_option maxRecDepth 100000 in
theorem w_f_Grammar_handEndsInHole (C : np_Cx gA p R s m args c D np_cl (np_ty cA) A np_al "NotationParse$Grammar" prog_3_method_4_code 1 { frames := 1, cells := 0, slots := 0, locals := 20 }) (hQ : ∀ (pc : Nat) (ls : Array Slot) (H : Heap) (locs : List Loc) (v : Int) {σ : np_S}, decode prog_3_method_4_code pc = .ok (.ireturn, 1) → np_ck (v = 0 ∨ v = 1) (some (v, σ)) = some out → np_At D np_cl A (nc_wd q cA) s σ H locs → W p l e R s m args below meth c H locs 0 0 Q (F0 m pc ls [.int (np_i v)]))   : ∀ (σ : np_S) (H : Heap) (locs : List Loc) (ls : Array Slot), f_Grammar_handEndsInHole  σ = some out → np_At D np_cl A (nc_wd q cA) s σ H locs → lv_has ls 1 [(0, .ref (q 1))] → W p l e R s m args below meth c H locs 0 0 Q (F0 m 0 ls []) := by
  intro σ H locs ls hf hat hl
  unfold f_Grammar_handEndsInHole at hf
  refine lv_aload_n C.x C.b dd_Grammar_handEndsInHole_0 rfl (lv_at hl 0 rfl) ?_
  refine np_get (v := .int (np_i (σ 1 5))) C i_Grammar hat.1 1 (nc_o1 _) rfl 5 (by decide) tw_62 rfl rfl dd_Grammar_handEndsInHole_1 ?_
  refine np_if_le (tgt := 31) C dd_Grammar_handEndsInHole_4 (by decide) hf (fun _ hf => ?_) (fun _ hf => ?_)
  · exact w_f_Grammar_handEndsInHole_31 C hQ   _ _ _ _ hf hat (lv_sub hl [] rfl)
  · refine lv_aload_n C.x C.b dd_Grammar_handEndsInHole_7 rfl (lv_at hl 0 rfl) ?_
    refine np_get (v := .ref (q 2)) C i_Grammar hat.1 1 (nc_o1 _) rfl 0 (by decide) tw_50 rfl rfl dd_Grammar_handEndsInHole_8 ?_
    refine lv_aload_n C.x C.b dd_Grammar_handEndsInHole_11 rfl (lv_at hl 0 rfl) ?_
    refine np_callVi (As := []) (rest := [.ref (q 2)]) C (c_Grammar_usedDots l _) np_allgood tw_355 tw_356 tw_357 tw_2 tw_358 (nA := 0) (by decide +kernel) rfl ⟨rfl, rfl, Nat.le_of_ble_eq_true rfl, Nat.le_of_ble_eq_true rfl⟩ (va_recv C.k hat.1 (ci := 1) (q0 := 1) rfl (nc_o1 _)) hat rfl hl.1 (Nat.le_of_ble_eq_true rfl) dd_Grammar_handEndsInHole_12 hf (fun o1 H locs hf hat => ?_)
    refine lv_aload_n C.x C.b dd_Grammar_handEndsInHole_15 rfl (lv_at hl 0 rfl) ?_
    refine np_get (v := .int (np_i (o1.2 1 5))) C i_Grammar hat.1 1 (nc_o1 _) rfl 5 (by decide) tw_62 rfl rfl dd_Grammar_handEndsInHole_16 ?_
    refine np_iadd C dd_Grammar_handEndsInHole_19 ?_
    refine lv_iconst (v := np_i 1) C.x C.b dd_Grammar_handEndsInHole_20 rfl ?_
    refine np_isub C dd_Grammar_handEndsInHole_21 ?_
    refine np_iaload C hat.1 2 (nc_a2 _) 0 rfl (by decide) dd_Grammar_handEndsInHole_22 hf (fun hf => ?_)
    refine lv_iconst (v := np_i (-1)) C.x C.b dd_Grammar_handEndsInHole_23 rfl ?_
    refine np_icmp_eq (tgt := 31) C dd_Grammar_handEndsInHole_24 (by decide) hf (fun _ hf => ?_) (fun _ hf => ?_)
    · exact w_f_Grammar_handEndsInHole_31 C hQ   _ _ _ _ hf hat (lv_sub hl [] rfl)
    · refine lv_iconst (v := np_i 1) C.x C.b dd_Grammar_handEndsInHole_27 rfl ?_
      refine lv_goto (tgt := 32) C.x C.b dd_Grammar_handEndsInHole_28 (by decide) ?_
      exact w_f_Grammar_handEndsInHole_32 C hQ  _ _ _ _ _ hf hat (lv_sub hl [] rfl)
set_option maxHeartbeats 4000000 in
set_option maxRecDepth 100000 in
theorem c_Grammar_handEndsInHole (l : Launch) {gA : Nat → Nat} {D : va_G} {q : Nat → Nat} {cA : Nat → ClassId} (σ : np_S) : np_Mi gA l D np_cl (np_ty cA) (nc_wd q cA) yy_Grammar_handEndsInHole (.code yy_Grammar_handEndsInHole prog_3_method_4_code 1 (some .boolean) :: np_al) { frames := 1, cells := 0, slots := 0, locals := 20 } [.ref (q 1)] σ (f_Grammar_handEndsInHole  σ) :=
  np_mkz (by decide +kernel) (Nat.le_of_ble_eq_true rfl) (fun o p e R s m args below meth c Q A ls hf C hQ hat hl => w_f_Grammar_handEndsInHole C hQ  σ _ _ _ hf hat (lv_sub hl [0] rfl))
set_option maxHeartbeats 4000000 in
set_option maxRecDepth 100000 in
theorem w_f_Grammar_takePart (C : np_Cx gA p R s m args c D np_cl (np_ty cA) A np_al "NotationParse$Grammar" prog_3_method_6_code 4 { frames := 1, cells := 0, slots := 0, locals := 20 }) (hQ : ∀ (pc : Nat) (ls : Array Slot) (H : Heap) (locs : List Loc) (v : Int) {σ : np_S}, decode prog_3_method_6_code pc = .ok (.ireturn, 1) → some (v, σ) = some out → np_At D np_cl A (nc_wd q cA) s σ H locs → W p l e R s m args below meth c H locs 0 0 Q (F0 m pc ls [.int (np_i v)]))   : ∀ (x1 x2 : Int) (σ : np_S) (H : Heap) (locs : List Loc) (ls : Array Slot), f_Grammar_takePart  x1 x2 σ = some out → np_At D np_cl A (nc_wd q cA) s σ H locs → lv_has ls 4 [(0, .ref (q 1)), (1, .int (np_i x1)), (2, .long (np_l x2))] → W p l e R s m args below meth c H locs 0 0 Q (F0 m 0 ls []) := by
  intro x1 x2 σ H locs ls hf hat hl
  unfold f_Grammar_takePart at hf
  refine lv_aload_n C.x C.b dd_Grammar_takePart_0 rfl (lv_at hl 0 rfl) ?_
  refine np_get (v := .ref (q 2)) C i_Grammar hat.1 1 (nc_o1 _) rfl 0 (by decide) tw_50 rfl rfl dd_Grammar_takePart_1 ?_
  refine lv_aload_n C.x C.b dd_Grammar_takePart_4 rfl (lv_at hl 0 rfl) ?_
  refine np_callVi (As := []) (rest := [.ref (q 2)]) C (c_Grammar_usedDots l _) np_allgood tw_355 tw_356 tw_357 tw_2 tw_358 (nA := 0) (by decide +kernel) rfl ⟨rfl, rfl, Nat.le_of_ble_eq_true rfl, Nat.le_of_ble_eq_true rfl⟩ (va_recv C.k hat.1 (ci := 1) (q0 := 1) rfl (nc_o1 _)) hat rfl hl.1 (Nat.le_of_ble_eq_true rfl) dd_Grammar_takePart_5 hf (fun o1 H locs hf hat => ?_)
  refine lv_aload_n C.x C.b dd_Grammar_takePart_8 rfl (lv_at hl 0 rfl) ?_
  refine np_get (v := .int (np_i (o1.2 1 5))) C i_Grammar hat.1 1 (nc_o1 _) rfl 5 (by decide) tw_62 rfl rfl dd_Grammar_takePart_9 ?_
  refine np_iadd C dd_Grammar_takePart_12 ?_
  refine lv_iload_n C.x C.b dd_Grammar_takePart_13 rfl (lv_at hl 1 rfl) ?_
  refine np_iastore C hat 2 (nc_a2 _) 0 rfl (by decide) (nc_s2 _ _ _) dd_Grammar_takePart_14 hf (fun H locs hat hf => ?_)
  refine lv_aload_n C.x C.b dd_Grammar_takePart_15 rfl (lv_at hl 0 rfl) ?_
  refine np_get (v := .ref (q 3)) C i_Grammar hat.1 1 (nc_o1 _) rfl 1 (by decide) tw_53 rfl rfl dd_Grammar_takePart_16 ?_
  refine lv_aload_n C.x C.b dd_Grammar_takePart_19 rfl (lv_at hl 0 rfl) ?_
  refine np_callVi (As := []) (rest := [.ref (q 3)]) C (c_Grammar_usedDots l _) np_allgood tw_355 tw_356 tw_357 tw_2 tw_358 (nA := 0) (by decide +kernel) rfl ⟨rfl, rfl, Nat.le_of_ble_eq_true rfl, Nat.le_of_ble_eq_true rfl⟩ (va_recv C.k hat.1 (ci := 1) (q0 := 1) rfl (nc_o1 _)) hat rfl hl.1 (Nat.le_of_ble_eq_true rfl) dd_Grammar_takePart_20 hf (fun o2 H locs hf hat => ?_)
  refine lv_aload_n C.x C.b dd_Grammar_takePart_23 rfl (lv_at hl 0 rfl) ?_
  refine np_get (v := .int (np_i (o2.2 1 5))) C i_Grammar hat.1 1 (nc_o1 _) rfl 5 (by decide) tw_62 rfl rfl dd_Grammar_takePart_24 ?_
  refine np_iadd C dd_Grammar_takePart_27 ?_
  refine lv_lload_n C.x C.b dd_Grammar_takePart_28 rfl (lv_at hl 2 rfl) ?_
  refine np_lastore C hat 3 (nc_a3 _) 1 rfl (by decide) (nc_s3 _ _ _) dd_Grammar_takePart_29 hf (fun H locs hat hf => ?_)
  refine lv_aload_n C.x C.b dd_Grammar_takePart_30 rfl (lv_at hl 0 rfl) ?_
  refine lv_dup C.x C.b dd_Grammar_takePart_31 rfl ?_
  refine np_get (v := .int (np_i ((np_st o2.2 3 (o2.1 + (o2.2 1 5)) x2) 1 5))) C i_Grammar hat.1 1 (nc_o1 _) rfl 5 (by decide) tw_62 rfl rfl dd_Grammar_takePart_32 ?_
  refine lv_iconst (v := np_i 1) C.x C.b dd_Grammar_takePart_35 rfl ?_
  refine np_iadd C dd_Grammar_takePart_36 ?_
  refine np_put C i_Grammar t_Grammar tok_Grammar n_Grammar hat 1 (nc_o1 _) rfl 5 (by decide) tw_62 rfl rfl (by decide +kernel) (np_narI (((np_st o2.2 3 (o2.1 + (o2.2 1 5)) x2) 1 5) + 1)) (np_fitI (((np_st o2.2 3 (o2.1 + (o2.2 1 5)) x2) 1 5) + 1)) (Nat.le_of_ble_eq_true rfl) (nc_s1_5 _ _) dd_Grammar_takePart_37 (fun H locs hat => ?_)
  refine lv_aload_n C.x C.b dd_Grammar_takePart_40 rfl (lv_at hl 0 rfl) ?_
  refine np_get (v := .int (np_i ((np_st (np_st o2.2 3 (o2.1 + (o2.2 1 5)) x2) 1 5 (((np_st o2.2 3 (o2.1 + (o2.2 1 5)) x2) 1 5) + 1)) 1 5))) C i_Grammar hat.1 1 (nc_o1 _) rfl 5 (by decide) tw_62 rfl rfl dd_Grammar_takePart_41 ?_
  exact hQ _ _ _ _ _ dd_Grammar_takePart_44 hf hat
set_option maxHeartbeats 4000000 in
set_option maxRecDepth 100000 in
theorem c_Grammar_takePart (l : Launch) {gA : Nat → Nat} {D : va_G} {q : Nat → Nat} {cA : Nat → ClassId} (x1 x2 : Int) (σ : np_S) : np_Mi gA l D np_cl (np_ty cA) (nc_wd q cA) yy_Grammar_takePart (.code yy_Grammar_takePart prog_3_method_6_code 4 (some .int) :: np_al) { frames := 1, cells := 0, slots := 0, locals := 20 } [.ref (q 1), .int (np_i x1), .long (np_l x2)] σ (f_Grammar_takePart x1 x2 σ) :=
  np_mki (by decide +kernel) (Nat.le_of_ble_eq_true rfl) (fun o p e R s m args below meth c Q A ls hf C hQ hat hl => w_f_Grammar_takePart C hQ x1 x2 σ _ _ _ hf hat (lv_sub hl [0, 1, 2] rfl))
set_option maxHeartbeats 4000000 in
set_option maxRecDepth 100000 in
theorem w_f_Spelling_byteOf (C : np_Cx gA p R s m args c D np_cl (np_ty cA) A np_al "NotationParse$Spelling" prog_5_method_3_code 3 { frames := 0, cells := 0, slots := 0, locals := 0 }) (hQ : ∀ (pc : Nat) (ls : Array Slot) (H : Heap) (locs : List Loc) (v : Int) {σ : np_S}, decode prog_5_method_3_code pc = .ok (.ireturn, 1) → some (v, σ) = some out → np_At D np_cl A (nc_wd q cA) s σ H locs → W p l e R s m args below meth c H locs 0 0 Q (F0 m pc ls [.int (np_i v)]))   : ∀ (x0 x2 : Int) (σ : np_S) (H : Heap) (locs : List Loc) (ls : Array Slot), f_Spelling_byteOf  x0 x2 σ = some out → np_At D np_cl A (nc_wd q cA) s σ H locs → lv_has ls 3 [(0, .long (np_l x0)), (2, .int (np_i x2))] → W p l e R s m args below meth c H locs 0 0 Q (F0 m 0 ls []) := by
  intro x0 x2 σ H locs ls hf hat hl
  unfold f_Spelling_byteOf at hf
  refine lv_lload_n C.x C.b dd_Spelling_byteOf_0 rfl (lv_at hl 0 rfl) ?_
  refine lv_bipush (v := np_i 8) C.x C.b dd_Spelling_byteOf_1 (by decide +kernel) ?_
  refine lv_iload_n C.x C.b dd_Spelling_byteOf_3 rfl (lv_at hl 1 rfl) ?_
  refine np_imul C dd_Spelling_byteOf_4 ?_
  refine np_lushr C dd_Spelling_byteOf_5 ?_
  refine np_l2i C dd_Spelling_byteOf_6 ?_
  refine lv_sipush (v := np_i 255) C.x C.b dd_Spelling_byteOf_7 (by decide +kernel) ?_
  refine np_iand C dd_Spelling_byteOf_10 ?_
  exact hQ _ _ _ _ _ dd_Spelling_byteOf_11 hf hat
set_option maxHeartbeats 4000000 in
set_option maxRecDepth 100000 in
theorem c_Spelling_byteOf (l : Launch) {gA : Nat → Nat} {D : va_G} {q : Nat → Nat} {cA : Nat → ClassId} (x0 x2 : Int) (σ : np_S) : np_Mi gA l D np_cl (np_ty cA) (nc_wd q cA) yy_Spelling_byteOf (.code yy_Spelling_byteOf prog_5_method_3_code 3 (some .int) :: np_al) { frames := 0, cells := 0, slots := 0, locals := 0 } [.long (np_l x0), .int (np_i x2)] σ (f_Spelling_byteOf x0 x2 σ) :=
  np_mki (by decide +kernel) (Nat.le_of_ble_eq_true rfl) (fun o p e R s m args below meth c Q A ls hf C hQ hat hl => w_f_Spelling_byteOf C hQ x0 x2 σ _ _ _ hf hat (lv_sub hl [0, 1] rfl))
set_option maxHeartbeats 4000000 in
set_option maxRecDepth 100000 in
theorem w_f_String_isLatin1_k0_18 (C : np_Cx gA p R s m args c D np_cl (np_ty cA) A np_al "java/lang/String" prog_19_method_154_code 1 { frames := 0, cells := 0, slots := 0, locals := 0 }) (hQ : ∀ (pc : Nat) (ls : Array Slot) (H : Heap) (locs : List Loc) (v : Int) {σ : np_S}, decode prog_19_method_154_code pc = .ok (.ireturn, 1) → np_ck (v = 0 ∨ v = 1) (some (v, σ)) = some out → np_At D np_cl A (nc_wd q cA) s σ H locs → W p l e R s m args below meth c H locs 0 0 Q (F0 m pc ls [.int (np_i v)]))   : ∀ (t0 : Int) (σ : np_S) (H : Heap) (locs : List Loc) (ls : Array Slot), f_String_isLatin1_k0_18  t0 σ = some out → np_At D np_cl A (nc_wd q cA) s σ H locs → lv_has ls 1 [] → W p l e R s m args below meth c H locs 0 0 Q (F0 m 18 ls [.int (np_i t0)]) := by
  intro t0 σ H locs ls hf hat hl
  unfold f_String_isLatin1_k0_18 at hf
  exact hQ _ _ _ _ _ dd_String_isLatin1_18 hf hat
set_option maxHeartbeats 4000000 in
set_option maxRecDepth 100000 in
theorem w_f_String_isLatin1_k0_17 (C : np_Cx gA p R s m args c D np_cl (np_ty cA) A np_al "java/lang/String" prog_19_method_154_code 1 { frames := 0, cells := 0, slots := 0, locals := 0 }) (hQ : ∀ (pc : Nat) (ls : Array Slot) (H : Heap) (locs : List Loc) (v : Int) {σ : np_S}, decode prog_19_method_154_code pc = .ok (.ireturn, 1) → np_ck (v = 0 ∨ v = 1) (some (v, σ)) = some out → np_At D np_cl A (nc_wd q cA) s σ H locs → W p l e R s m args below meth c H locs 0 0 Q (F0 m pc ls [.int (np_i v)]))   : ∀ (σ : np_S) (H : Heap) (locs : List Loc) (ls : Array Slot), f_String_isLatin1_k0_17  σ = some out → np_At D np_cl A (nc_wd q cA) s σ H locs → lv_has ls 1 [] → W p l e R s m args below meth c H locs 0 0 Q (F0 m 17 ls []) := by
  intro σ H locs ls hf hat hl
  unfold f_String_isLatin1_k0_17 at hf
  refine lv_iconst (v := np_i 0) C.x C.b dd_String_isLatin1_17 rfl ?_
  exact w_f_String_isLatin1_k0_18 C hQ  _ _ _ _ _ hf hat (lv_sub hl [] rfl)
set_option maxHeartbeats 4000000 in
set_option maxRecDepth 100000 in
theorem w_f_String_isLatin1_k0 (C : np_Cx gA p R s m args c D np_cl (np_ty cA) A np_al "java/lang/String" prog_19_method_154_code 1 { frames := 0, cells := 0, slots := 0, locals := 0 }) (hQ : ∀ (pc : Nat) (ls : Array Slot) (H : Heap) (locs : List Loc) (v : Int) {σ : np_S}, decode prog_19_method_154_code pc = .ok (.ireturn, 1) → np_ck (v = 0 ∨ v = 1) (some (v, σ)) = some out → np_At D np_cl A (nc_wd q cA) s σ H locs → W p l e R s m args below meth c H locs 0 0 Q (F0 m pc ls [.int (np_i v)]))   : ∀ (σ : np_S) (H : Heap) (locs : List Loc) (ls : Array Slot), f_String_isLatin1_k0  σ = some out → np_At D np_cl A (nc_wd q cA) s σ H locs → lv_has ls 1 [(0, .ref (gA 0))] → W p l e R s m args below meth c H locs 0 0 Q (F0 m 0 ls []) := by
  intro σ H locs ls hf hat hl
  unfold f_String_isLatin1_k0 at hf
  refine np_gets (v := .int (np_i 1)) C hat C.en.2.2.2.1 tw_273 dd_String_isLatin1_0 ?_
  refine np_if_eq (tgt := 17) C dd_String_isLatin1_3 (by decide) hf (fun _ hf => ?_) (fun _ hf => ?_)
  · exact w_f_String_isLatin1_k0_17 C hQ   _ _ _ _ hf hat (lv_sub hl [] rfl)
  · refine lv_aload_n C.x C.b dd_String_isLatin1_6 rfl (lv_at hl 0 rfl) ?_
    refine np_getk (v := .int (np_i 0)) C hat ((C.en.1.1 0 (by decide)).2.1) tw_693 dd_String_isLatin1_7 ?_
    refine np_if_ne (tgt := 17) C dd_String_isLatin1_10 (by decide) hf (fun _ hf => ?_) (fun _ hf => ?_)
    · exact w_f_String_isLatin1_k0_17 C hQ   _ _ _ _ hf hat (lv_sub hl [] rfl)
    · refine lv_iconst (v := np_i 1) C.x C.b dd_String_isLatin1_13 rfl ?_
      refine lv_goto (tgt := 18) C.x C.b dd_String_isLatin1_14 (by decide) ?_
      exact w_f_String_isLatin1_k0_18 C hQ  _ _ _ _ _ hf hat (lv_sub hl [] rfl)
set_option maxHeartbeats 4000000 in
set_option maxRecDepth 100000 in
theorem c_String_isLatin1_k0 (l : Launch) {gA : Nat → Nat} {D : va_G} {q : Nat → Nat} {cA : Nat → ClassId} (σ : np_S) : np_Mi gA l D np_cl (np_ty cA) (nc_wd q cA) yy_String_isLatin1 (.code yy_String_isLatin1 prog_19_method_154_code 1 (some .boolean) :: np_al) { frames := 0, cells := 0, slots := 0, locals := 0 } [.ref (gA 0)] σ (f_String_isLatin1_k0  σ) :=
  np_mkz (by decide +kernel) (Nat.le_of_ble_eq_true rfl) (fun o p e R s m args below meth c Q A ls hf C hQ hat hl => w_f_String_isLatin1_k0 C hQ  σ _ _ _ hf hat (lv_sub hl [0] rfl))
set_option maxHeartbeats 4000000 in
set_option maxRecDepth 100000 in
theorem w_f_String_coder_k0_14 (C : np_Cx gA p R s m args c D np_cl (np_ty cA) A np_al "java/lang/String" prog_19_method_152_code 1 { frames := 0, cells := 0, slots := 0, locals := 0 }) (hQ : ∀ (pc : Nat) (ls : Array Slot) (H : Heap) (locs : List Loc) (v : Int) {σ : np_S}, decode prog_19_method_152_code pc = .ok (.ireturn, 1) → np_ck (v = 0 ∨ v = 1) (some (v, σ)) = some out → np_At D np_cl A (nc_wd q cA) s σ H locs → W p l e R s m args below meth c H locs 0 0 Q (F0 m pc ls [.int (np_i v)]))   : ∀ (t0 : Int) (σ : np_S) (H : Heap) (locs : List Loc) (ls : Array Slot), f_String_coder_k0_14  t0 σ = some out → np_At D np_cl A (nc_wd q cA) s σ H locs → lv_has ls 1 [] → W p l e R s m args below meth c H locs 0 0 Q (F0 m 14 ls [.int (np_i t0)]) := by
  intro t0 σ H locs ls hf hat hl
  unfold f_String_coder_k0_14 at hf
  exact hQ _ _ _ _ _ dd_String_coder_14 hf hat
set_option maxHeartbeats 4000000 in
set_option maxRecDepth 100000 in
theorem w_f_String_coder_k0 (C : np_Cx gA p R s m args c D np_cl (np_ty cA) A np_al "java/lang/String" prog_19_method_152_code 1 { frames := 0, cells := 0, slots := 0, locals := 0 }) (hQ : ∀ (pc : Nat) (ls : Array Slot) (H : Heap) (locs : List Loc) (v : Int) {σ : np_S}, decode prog_19_method_152_code pc = .ok (.ireturn, 1) → np_ck (v = 0 ∨ v = 1) (some (v, σ)) = some out → np_At D np_cl A (nc_wd q cA) s σ H locs → W p l e R s m args below meth c H locs 0 0 Q (F0 m pc ls [.int (np_i v)]))   : ∀ (σ : np_S) (H : Heap) (locs : List Loc) (ls : Array Slot), f_String_coder_k0  σ = some out → np_At D np_cl A (nc_wd q cA) s σ H locs → lv_has ls 1 [(0, .ref (gA 0))] → W p l e R s m args below meth c H locs 0 0 Q (F0 m 0 ls []) := by
  intro σ H locs ls hf hat hl
  unfold f_String_coder_k0 at hf
  refine np_gets (v := .int (np_i 1)) C hat C.en.2.2.2.1 tw_273 dd_String_coder_0 ?_
  refine np_if_eq (tgt := 13) C dd_String_coder_3 (by decide) hf (fun _ hf => ?_) (fun _ hf => ?_)
  · refine lv_iconst (v := np_i 1) C.x C.b dd_String_coder_13 rfl ?_
    exact w_f_String_coder_k0_14 C hQ  _ _ _ _ _ hf hat (lv_sub hl [] rfl)
  · refine lv_aload_n C.x C.b dd_String_coder_6 rfl (lv_at hl 0 rfl) ?_
    refine np_getk (v := .int (np_i 0)) C hat ((C.en.1.1 0 (by decide)).2.1) tw_693 dd_String_coder_7 ?_
    refine lv_goto (tgt := 14) C.x C.b dd_String_coder_10 (by decide) ?_
    exact w_f_String_coder_k0_14 C hQ  _ _ _ _ _ hf hat (lv_sub hl [] rfl)
set_option maxHeartbeats 4000000 in
set_option maxRecDepth 100000 in
theorem c_String_coder_k0 (l : Launch) {gA : Nat → Nat} {D : va_G} {q : Nat → Nat} {cA : Nat → ClassId} (σ : np_S) : np_Mi gA l D np_cl (np_ty cA) (nc_wd q cA) yy_String_coder (.code yy_String_coder prog_19_method_152_code 1 (some .byte) :: np_al) { frames := 0, cells := 0, slots := 0, locals := 0 } [.ref (gA 0)] σ (f_String_coder_k0  σ) :=
  np_mkb (by decide +kernel) (Nat.le_of_ble_eq_true rfl) (fun o p e R s m args below meth c Q A ls hf C hQ hat hl => w_f_String_coder_k0 C hQ  σ _ _ _ hf hat (lv_sub hl [0] rfl))
set_option maxHeartbeats 4000000 in
set_option maxRecDepth 100000 in
theorem w_f_String_length_k0 (C : np_Cx gA p R s m args c D np_cl (np_ty cA) A np_al "java/lang/String" prog_19_method_54_code 1 { frames := 1, cells := 0, slots := 0, locals := 20 }) (hQ : ∀ (pc : Nat) (ls : Array Slot) (H : Heap) (locs : List Loc) (v : Int) {σ : np_S}, decode prog_19_method_54_code pc = .ok (.ireturn, 1) → some (v, σ) = some out → np_At D np_cl A (nc_wd q cA) s σ H locs → W p l e R s m args below meth c H locs 0 0 Q (F0 m pc ls [.int (np_i v)]))   : ∀ (σ : np_S) (H : Heap) (locs : List Loc) (ls : Array Slot), f_String_length_k0  σ = some out → np_At D np_cl A (nc_wd q cA) s σ H locs → lv_has ls 1 [(0, .ref (gA 0))] → W p l e R s m args below meth c H locs 0 0 Q (F0 m 0 ls []) := by
  intro σ H locs ls hf hat hl
  unfold f_String_length_k0 at hf
  refine lv_aload_n C.x C.b dd_String_length_0 rfl (lv_at hl 0 rfl) ?_
  refine np_getk (v := .ref (gA (100 + 0))) C hat ((C.en.1.1 0 (by decide)).2.2.1) tw_692 dd_String_length_1 ?_
  refine np_klen (n := 19) C hat ((C.en.1.1 0 (by decide)).2.2.2) (by decide +kernel) dd_String_length_4 ?_
  refine lv_aload_n C.x C.b dd_String_length_5 rfl (lv_at hl 0 rfl) ?_
  refine np_callVi (As := []) (rest := [.int (np_i 19)]) C (c_String_coder_k0 l _) np_allgood tw_279 tw_280 tw_281 tw_15 tw_282 (nA := 0) (by decide +kernel) rfl ⟨rfl, rfl, Nat.le_of_ble_eq_true rfl, Nat.le_of_ble_eq_true rfl⟩ (vk_recv C.en.1 (i := 0) (by decide) hat.2.2) hat rfl hl.1 (Nat.le_of_ble_eq_true rfl) dd_String_length_6 hf (fun o1 H locs hf hat => ?_)
  refine np_ishr C dd_String_length_9 ?_
  exact hQ _ _ _ _ _ dd_String_length_10 hf hat
set_option maxHeartbeats 4000000 in
set_option maxRecDepth 100000 in
theorem c_String_length_k0 (l : Launch) {gA : Nat → Nat} {D : va_G} {q : Nat → Nat} {cA : Nat → ClassId} (σ : np_S) : np_Mi gA l D np_cl (np_ty cA) (nc_wd q cA) yy_String_length (.code yy_String_length prog_19_method_54_code 1 (some .int) :: np_al) { frames := 1, cells := 0, slots := 0, locals := 20 } [.ref (gA 0)] σ (f_String_length_k0  σ) :=
  np_mki (by decide +kernel) (Nat.le_of_ble_eq_true rfl) (fun o p e R s m args below meth c Q A ls hf C hQ hat hl => w_f_String_length_k0 C hQ  σ _ _ _ hf hat (lv_sub hl [0] rfl))
set_option maxHeartbeats 4000000 in
set_option maxRecDepth 100000 in
theorem w_f_StringLatin1_canEncode_16 (C : np_Cx gA p R s m args c D np_cl (np_ty cA) A np_al "java/lang/StringLatin1" prog_21_method_4_code 1 { frames := 0, cells := 0, slots := 0, locals := 0 }) (hQ : ∀ (pc : Nat) (ls : Array Slot) (H : Heap) (locs : List Loc) (v : Int) {σ : np_S}, decode prog_21_method_4_code pc = .ok (.ireturn, 1) → np_ck (v = 0 ∨ v = 1) (some (v, σ)) = some out → np_At D np_cl A (nc_wd q cA) s σ H locs → W p l e R s m args below meth c H locs 0 0 Q (F0 m pc ls [.int (np_i v)]))   : ∀ (t0 : Int) (σ : np_S) (H : Heap) (locs : List Loc) (ls : Array Slot), f_StringLatin1_canEncode_16  t0 σ = some out → np_At D np_cl A (nc_wd q cA) s σ H locs → lv_has ls 1 [] → W p l e R s m args below meth c H locs 0 0 Q (F0 m 16 ls [.int (np_i t0)]) := by
  intro t0 σ H locs ls hf hat hl
  unfold f_StringLatin1_canEncode_16 at hf
  exact hQ _ _ _ _ _ dd_StringLatin1_canEncode_16 hf hat
set_option maxHeartbeats 4000000 in
set_option maxRecDepth 100000 in
theorem w_f_StringLatin1_canEncode_15 (C : np_Cx gA p R s m args c D np_cl (np_ty cA) A np_al "java/lang/StringLatin1" prog_21_method_4_code 1 { frames := 0, cells := 0, slots := 0, locals := 0 }) (hQ : ∀ (pc : Nat) (ls : Array Slot) (H : Heap) (locs : List Loc) (v : Int) {σ : np_S}, decode prog_21_method_4_code pc = .ok (.ireturn, 1) → np_ck (v = 0 ∨ v = 1) (some (v, σ)) = some out → np_At D np_cl A (nc_wd q cA) s σ H locs → W p l e R s m args below meth c H locs 0 0 Q (F0 m pc ls [.int (np_i v)]))   : ∀ (σ : np_S) (H : Heap) (locs : List Loc) (ls : Array Slot), f_StringLatin1_canEncode_15  σ = some out → np_At D np_cl A (nc_wd q cA) s σ H locs → lv_has ls 1 [] → W p l e R s m args below meth c H locs 0 0 Q (F0 m 15 ls []) := by
  intro σ H locs ls hf hat hl
  unfold f_StringLatin1_canEncode_15 at hf
  refine lv_iconst (v := np_i 0) C.x C.b dd_StringLatin1_canEncode_15 rfl ?_
  exact w_f_StringLatin1_canEncode_16 C hQ  _ _ _ _ _ hf hat (lv_sub hl [] rfl)
set_option maxHeartbeats 4000000 in
set_option maxRecDepth 100000 in
theorem w_f_StringLatin1_canEncode (C : np_Cx gA p R s m args c D np_cl (np_ty cA) A np_al "java/lang/StringLatin1" prog_21_method_4_code 1 { frames := 0, cells := 0, slots := 0, locals := 0 }) (hQ : ∀ (pc : Nat) (ls : Array Slot) (H : Heap) (locs : List Loc) (v : Int) {σ : np_S}, decode prog_21_method_4_code pc = .ok (.ireturn, 1) → np_ck (v = 0 ∨ v = 1) (some (v, σ)) = some out → np_At D np_cl A (nc_wd q cA) s σ H locs → W p l e R s m args below meth c H locs 0 0 Q (F0 m pc ls [.int (np_i v)]))   : ∀ (x0 : Int) (σ : np_S) (H : Heap) (locs : List Loc) (ls : Array Slot), f_StringLatin1_canEncode  x0 σ = some out → np_At D np_cl A (nc_wd q cA) s σ H locs → lv_has ls 1 [(0, .int (np_i x0))] → W p l e R s m args below meth c H locs 0 0 Q (F0 m 0 ls []) := by
  intro x0 σ H locs ls hf hat hl
  unfold f_StringLatin1_canEncode at hf
  refine lv_iload_n C.x C.b dd_StringLatin1_canEncode_0 rfl (lv_at hl 0 rfl) ?_
  refine np_if_lt (tgt := 15) C dd_StringLatin1_canEncode_1 (by decide) hf (fun _ hf => ?_) (fun _ hf => ?_)
  · exact w_f_StringLatin1_canEncode_15 C hQ   _ _ _ _ hf hat (lv_sub hl [] rfl)
  · refine lv_iload_n C.x C.b dd_StringLatin1_canEncode_4 rfl (lv_at hl 0 rfl) ?_
    refine lv_sipush (v := np_i 255) C.x C.b dd_StringLatin1_canEncode_5 (by decide +kernel) ?_
    refine np_icmp_gt (tgt := 15) C dd_StringLatin1_canEncode_8 (by decide) hf (fun _ hf => ?_) (fun _ hf => ?_)
    · exact w_f_StringLatin1_canEncode_15 C hQ   _ _ _ _ hf hat (lv_sub hl [] rfl)
    · refine lv_iconst (v := np_i 1) C.x C.b dd_StringLatin1_canEncode_11 rfl ?_
      refine lv_goto (tgt := 16) C.x C.b dd_StringLatin1_canEncode_12 (by decide) ?_
      exact w_f_StringLatin1_canEncode_16 C hQ  _ _ _ _ _ hf hat (lv_sub hl [] rfl)
set_option maxHeartbeats 4000000 in
set_option maxRecDepth 100000 in
theorem c_StringLatin1_canEncode (l : Launch) {gA : Nat → Nat} {D : va_G} {q : Nat → Nat} {cA : Nat → ClassId} (x0 : Int) (σ : np_S) : np_Mi gA l D np_cl (np_ty cA) (nc_wd q cA) yy_StringLatin1_canEncode (.code yy_StringLatin1_canEncode prog_21_method_4_code 1 (some .boolean) :: np_al) { frames := 0, cells := 0, slots := 0, locals := 0 } [.int (np_i x0)] σ (f_StringLatin1_canEncode x0 σ) :=
  np_mkz (by decide +kernel) (Nat.le_of_ble_eq_true rfl) (fun o p e R s m args below meth c Q A ls hf C hQ hat hl => w_f_StringLatin1_canEncode C hQ x0 σ _ _ _ hf hat (lv_sub hl [0] rfl))
set_option maxHeartbeats 4000000 in
set_option maxRecDepth 100000 in
theorem w_f_StringLatin1_indexOfChar_kb0_7 (C : np_Cx gA p R s m args c D np_cl (np_ty cA) A np_al "java/lang/StringLatin1" prog_21_method_23_code 6 { frames := 0, cells := 0, slots := 0, locals := 0 }) (hQ : ∀ (pc : Nat) (ls : Array Slot) (H : Heap) (locs : List Loc) (v : Int) {σ : np_S}, decode prog_21_method_23_code pc = .ok (.ireturn, 1) → some (v, σ) = some out → np_At D np_cl A (nc_wd q cA) s σ H locs → W p l e R s m args below meth c H locs 0 0 Q (F0 m pc ls [.int (np_i v)]))   : ∀ (n : Nat), ∀ (x3 x4 x5 : Int) (σ : np_S) (H : Heap) (locs : List Loc) (ls : Array Slot), f_StringLatin1_indexOfChar_kb0_7  n x3 x4 x5 σ = some out → np_At D np_cl A (nc_wd q cA) s σ H locs → lv_has ls 6 [(0, .ref (gA (100 + 0))), (3, .int (np_i x3)), (4, .int (np_i x4)), (5, .int (np_i x5))] → W p l e R s m args below meth c H locs 0 0 Q (F0 m 7 ls []) := by
  intro n
  induction n with
  | zero => intro x3 x4 x5 σ H locs ls hf; cases hf
  | succ n ih =>
    intro x3 x4 x5 σ H locs ls hf hat hl
    have h7 := ih
    have hf : f_StringLatin1_indexOfChar_kb0_7_b  (fun x3 x4 x5 σ => f_StringLatin1_indexOfChar_kb0_7  n x3 x4 x5 σ) x3 x4 x5 σ = some out := hf
    unfold f_StringLatin1_indexOfChar_kb0_7_b at hf
    refine lv_iload C.x C.b dd_StringLatin1_indexOfChar_7 (lv_at hl 3 rfl) ?_
    refine lv_iload_n C.x C.b dd_StringLatin1_indexOfChar_9 rfl (lv_at hl 1 rfl) ?_
    refine np_icmp_ge (tgt := 31) C dd_StringLatin1_indexOfChar_10 (by decide) hf (fun _ hf => ?_) (fun _ hf => ?_)
    · refine lv_iconst (v := np_i (-1)) C.x C.b dd_StringLatin1_indexOfChar_31 rfl ?_
      exact hQ _ _ _ _ _ dd_StringLatin1_indexOfChar_32 hf hat
    · refine lv_aload_n C.x C.b dd_StringLatin1_indexOfChar_13 rfl (lv_at hl 0 rfl) ?_
      refine lv_iload C.x C.b dd_StringLatin1_indexOfChar_14 (lv_at hl 3 rfl) ?_
      refine np_kald (i := 0) (n := 19) C hat ((C.en.1.1 0 (by decide)).2.2.2) rfl (by decide) dd_StringLatin1_indexOfChar_16 hf (fun hf => ?_)
      refine lv_iload C.x C.b dd_StringLatin1_indexOfChar_17 (lv_at hl 2 rfl) ?_
      refine np_icmp_ne (tgt := 25) C dd_StringLatin1_indexOfChar_19 (by decide) hf (fun _ hf => ?_) (fun _ hf => ?_)
      · refine lv_iinc (v := np_i (x5 + 1)) (lv' := [(5, .int (np_i (x5 + 1))), (0, .ref (gA (100 + 0))), (3, .int (np_i x3)), (4, .int (np_i x4))]) C.x C.b dd_StringLatin1_indexOfChar_25 hl (k := 3) rfl (np_inc _ _) (by decide) rfl (fun ls hl => ?_)
        refine lv_goto (tgt := 7) C.x C.b dd_StringLatin1_indexOfChar_28 (by decide) ?_
        exact h7 _ _ _ _ _ _ _ hf hat (lv_sub hl [1, 2, 3, 0] rfl)
      · refine lv_iload C.x C.b dd_StringLatin1_indexOfChar_22 (lv_at hl 3 rfl) ?_
        exact hQ _ _ _ _ _ dd_StringLatin1_indexOfChar_24 hf hat
set_option maxHeartbeats 4000000 in
set_option maxRecDepth 100000 in
theorem w_f_StringLatin1_indexOfChar_kb0 (C : np_Cx gA p R s m args c D np_cl (np_ty cA) A np_al "java/lang/StringLatin1" prog_21_method_23_code 6 { frames := 0, cells := 0, slots := 0, locals := 0 }) (hQ : ∀ (pc : Nat) (ls : Array Slot) (H : Heap) (locs : List Loc) (v : Int) {σ : np_S}, decode prog_21_method_23_code pc = .ok (.ireturn, 1) → some (v, σ) = some out → np_At D np_cl A (nc_wd q cA) s σ H locs → W p l e R s m args below meth c H locs 0 0 Q (F0 m pc ls [.int (np_i v)]))   : ∀ (x1 x2 x3 : Int) (σ : np_S) (H : Heap) (locs : List Loc) (ls : Array Slot), f_StringLatin1_indexOfChar_kb0  x1 x2 x3 σ = some out → np_At D np_cl A (nc_wd q cA) s σ H locs → lv_has ls 6 [(0, .ref (gA (100 + 0))), (1, .int (np_i x1)), (2, .int (np_i x2)), (3, .int (np_i x3))] → W p l e R s m args below meth c H locs 0 0 Q (F0 m 0 ls []) := by
  intro x1 x2 x3 σ H locs ls hf hat hl
  unfold f_StringLatin1_indexOfChar_kb0 at hf
  refine lv_iload_n C.x C.b dd_StringLatin1_indexOfChar_0 rfl (lv_at hl 1 rfl) ?_
  refine np_i2b C dd_StringLatin1_indexOfChar_1 ?_
  refine lv_istore (lv' := [(4, .int (np_i (Int.bmod x1 256))), (0, .ref (gA (100 + 0))), (1, .int (np_i x1)), (2, .int (np_i x2)), (3, .int (np_i x3))]) C.x C.b dd_StringLatin1_indexOfChar_2 hl (by decide) rfl (fun ls hl => ?_)
  refine lv_iload_n C.x C.b dd_StringLatin1_indexOfChar_4 rfl (lv_at hl 3 rfl) ?_
  refine lv_istore (lv' := [(5, .int (np_i x2)), (4, .int (np_i (Int.bmod x1 256))), (0, .ref (gA (100 + 0))), (1, .int (np_i x1)), (2, .int (np_i x2)), (3, .int (np_i x3))]) C.x C.b dd_StringLatin1_indexOfChar_5 hl (by decide) rfl (fun ls hl => ?_)
  exact w_f_StringLatin1_indexOfChar_kb0_7 C hQ  20000 _ _ _ _ _ _ _ hf hat (lv_sub hl [2, 5, 1, 0] rfl)
set_option maxHeartbeats 4000000 in
set_option maxRecDepth 100000 in
theorem c_StringLatin1_indexOfChar_kb0 (l : Launch) {gA : Nat → Nat} {D : va_G} {q : Nat → Nat} {cA : Nat → ClassId} (x1 x2 x3 : Int) (σ : np_S) : np_Mi gA l D np_cl (np_ty cA) (nc_wd q cA) yy_StringLatin1_indexOfChar (.code yy_StringLatin1_indexOfChar prog_21_method_23_code 6 (some .int) :: np_al) { frames := 0, cells := 0, slots := 0, locals := 0 } [.ref (gA (100 + 0)), .int (np_i x1), .int (np_i x2), .int (np_i x3)] σ (f_StringLatin1_indexOfChar_kb0 x1 x2 x3 σ) :=
  np_mki (by decide +kernel) (Nat.le_of_ble_eq_true rfl) (fun o p e R s m args below meth c Q A ls hf C hQ hat hl => w_f_StringLatin1_indexOfChar_kb0 C hQ x1 x2 x3 σ _ _ _ hf hat (lv_sub hl [0, 1, 2, 3] rfl))
set_option maxHeartbeats 4000000 in
set_option maxRecDepth 100000 in
theorem w_f_StringLatin1_indexOf_kb0 (C : np_Cx gA p R s m args c D np_cl (np_ty cA) A np_al "java/lang/StringLatin1" prog_21_method_22_code 4 { frames := 1, cells := 0, slots := 0, locals := 25 }) (hQ : ∀ (pc : Nat) (ls : Array Slot) (H : Heap) (locs : List Loc) (v : Int) {σ : np_S}, decode prog_21_method_22_code pc = .ok (.ireturn, 1) → some (v, σ) = some out → np_At D np_cl A (nc_wd q cA) s σ H locs → W p l e R s m args below meth c H locs 0 0 Q (F0 m pc ls [.int (np_i v)]))   : ∀ (x1 x2 x3 : Int) (σ : np_S) (H : Heap) (locs : List Loc) (ls : Array Slot), f_StringLatin1_indexOf_kb0  x1 x2 x3 σ = some out → np_At D np_cl A (nc_wd q cA) s σ H locs → lv_has ls 4 [(0, .ref (gA (100 + 0))), (1, .int (np_i x1)), (2, .int (np_i x2)), (3, .int (np_i x3))] → W p l e R s m args below meth c H locs 0 0 Q (F0 m 0 ls []) := by
  intro x1 x2 x3 σ H locs ls hf hat hl
  unfold f_StringLatin1_indexOf_kb0 at hf
  refine lv_iload_n C.x C.b dd_StringLatin1_indexOf_0 rfl (lv_at hl 1 rfl) ?_
  refine np_callSi (As := [.int (np_i x1)]) (rest := []) C (c_StringLatin1_canEncode l x1 _) np_allgood tw_286 tw_287 tw_16 tw_288 (nA := 1) (by decide +kernel) rfl ⟨rfl, rfl, Nat.le_of_ble_eq_true rfl, Nat.le_of_ble_eq_true rfl⟩ hat rfl hl.1 (Nat.le_of_ble_eq_true rfl) dd_StringLatin1_indexOf_1 hf (fun o1 H locs hf hat => ?_)
  refine np_if_ne (tgt := 9) C dd_StringLatin1_indexOf_4 (by decide) hf (fun _ hf => ?_) (fun _ hf => ?_)
  · refine lv_iload_n C.x C.b dd_StringLatin1_indexOf_9 rfl (lv_at hl 2 rfl) ?_
    refine lv_iconst (v := np_i 0) C.x C.b dd_StringLatin1_indexOf_10 rfl ?_
    refine np_mmax C tw_289 tw_290 tw_17 tw_291 (Nat.le_of_ble_eq_true rfl) (Nat.le_of_ble_eq_true rfl) hl.1 dd_StringLatin1_indexOf_11 hf (fun hf => ?_)
    refine lv_istore_n (lv' := [(2, .int (np_i (np_max x2 0))), (0, .ref (gA (100 + 0))), (1, .int (np_i x1)), (3, .int (np_i x3))]) C.x C.b dd_StringLatin1_indexOf_14 rfl hl (by decide) rfl (fun ls hl => ?_)
    refine lv_iload_n C.x C.b dd_StringLatin1_indexOf_15 rfl (lv_at hl 3 rfl) ?_
    refine lv_aload_n C.x C.b dd_StringLatin1_indexOf_16 rfl (lv_at hl 1 rfl) ?_
    refine np_klen (n := 19) C hat ((C.en.1.1 0 (by decide)).2.2.2) (by decide +kernel) dd_StringLatin1_indexOf_17 ?_
    refine np_mmin C tw_292 tw_293 tw_17 tw_294 (Nat.le_of_ble_eq_true rfl) (Nat.le_of_ble_eq_true rfl) hl.1 dd_StringLatin1_indexOf_18 hf (fun hf => ?_)
    refine lv_istore_n (lv' := [(3, .int (np_i (np_min x3 19))), (2, .int (np_i (np_max x2 0))), (0, .ref (gA (100 + 0))), (1, .int (np_i x1))]) C.x C.b dd_StringLatin1_indexOf_21 rfl hl (by decide) rfl (fun ls hl => ?_)
    refine lv_iload_n C.x C.b dd_StringLatin1_indexOf_22 rfl (lv_at hl 1 rfl) ?_
    refine lv_iload_n C.x C.b dd_StringLatin1_indexOf_23 rfl (lv_at hl 0 rfl) ?_
    refine np_icmp_lt (tgt := 29) C dd_StringLatin1_indexOf_24 (by decide) hf (fun _ hf => ?_) (fun _ hf => ?_)
    · refine lv_aload_n C.x C.b dd_StringLatin1_indexOf_29 rfl (lv_at hl 2 rfl) ?_
      refine lv_iload_n C.x C.b dd_StringLatin1_indexOf_30 rfl (lv_at hl 3 rfl) ?_
      refine lv_iload_n C.x C.b dd_StringLatin1_indexOf_31 rfl (lv_at hl 1 rfl) ?_
      refine lv_iload_n C.x C.b dd_StringLatin1_indexOf_32 rfl (lv_at hl 0 rfl) ?_
      refine np_callSi (As := [.ref (gA (100 + 0)), .int (np_i x1), .int (np_i (np_max x2 0)), .int (np_i (np_min x3 19))]) (rest := []) C (c_StringLatin1_indexOfChar_kb0 l x1 (np_max x2 0) (np_min x3 19) _) np_allgood tw_295 tw_296 tw_16 tw_297 (nA := 4) (by decide +kernel) rfl ⟨rfl, rfl, Nat.le_of_ble_eq_true rfl, Nat.le_of_ble_eq_true rfl⟩ hat rfl hl.1 (Nat.le_of_ble_eq_true rfl) dd_StringLatin1_indexOf_33 hf (fun o2 H locs hf hat => ?_)
      exact hQ _ _ _ _ _ dd_StringLatin1_indexOf_36 hf hat
    · refine lv_iconst (v := np_i (-1)) C.x C.b dd_StringLatin1_indexOf_27 rfl ?_
      exact hQ _ _ _ _ _ dd_StringLatin1_indexOf_28 hf hat
  · refine lv_iconst (v := np_i (-1)) C.x C.b dd_StringLatin1_indexOf_7 rfl ?_
    exact hQ _ _ _ _ _ dd_StringLatin1_indexOf_8 hf hat
set_option maxHeartbeats 4000000 in
set_option maxRecDepth 100000 in
theorem c_StringLatin1_indexOf_kb0 (l : Launch) {gA : Nat → Nat} {D : va_G} {q : Nat → Nat} {cA : Nat → ClassId} (x1 x2 x3 : Int) (σ : np_S) : np_Mi gA l D np_cl (np_ty cA) (nc_wd q cA) yy_StringLatin1_indexOf (.code yy_StringLatin1_indexOf prog_21_method_22_code 4 (some .int) :: np_al) { frames := 1, cells := 0, slots := 0, locals := 25 } [.ref (gA (100 + 0)), .int (np_i x1), .int (np_i x2), .int (np_i x3)] σ (f_StringLatin1_indexOf_kb0 x1 x2 x3 σ) :=
  np_mki (by decide +kernel) (Nat.le_of_ble_eq_true rfl) (fun o p e R s m args below meth c Q A ls hf C hQ hat hl => w_f_StringLatin1_indexOf_kb0 C hQ x1 x2 x3 σ _ _ _ hf hat (lv_sub hl [0, 1, 2, 3] rfl))
set_option maxHeartbeats 4000000 in
set_option maxRecDepth 100000 in
theorem w_f_String_indexOf2_k0_36 (C : np_Cx gA p R s m args c D np_cl (np_ty cA) A np_al "java/lang/String" prog_19_method_80_code 3 { frames := 2, cells := 0, slots := 0, locals := 48 }) (hQ : ∀ (pc : Nat) (ls : Array Slot) (H : Heap) (locs : List Loc) (v : Int) {σ : np_S}, decode prog_19_method_80_code pc = .ok (.ireturn, 1) → some (v, σ) = some out → np_At D np_cl A (nc_wd q cA) s σ H locs → W p l e R s m args below meth c H locs 0 0 Q (F0 m pc ls [.int (np_i v)]))   : ∀ (t0 : Int) (σ : np_S) (H : Heap) (locs : List Loc) (ls : Array Slot), f_String_indexOf2_k0_36  t0 σ = some out → np_At D np_cl A (nc_wd q cA) s σ H locs → lv_has ls 3 [] → W p l e R s m args below meth c H locs 0 0 Q (F0 m 36 ls [.int (np_i t0)]) := by
  intro t0 σ H locs ls hf hat hl
  unfold f_String_indexOf2_k0_36 at hf
  exact hQ _ _ _ _ _ dd_String_indexOf2_36 hf hat
set_option maxHeartbeats 4000000 in
set_option maxRecDepth 100000 in
theorem w_f_String_indexOf2_k0 (C : np_Cx gA p R s m args c D np_cl (np_ty cA) A np_al "java/lang/String" prog_19_method_80_code 3 { frames := 2, cells := 0, slots := 0, locals := 48 }) (hQ : ∀ (pc : Nat) (ls : Array Slot) (H : Heap) (locs : List Loc) (v : Int) {σ : np_S}, decode prog_19_method_80_code pc = .ok (.ireturn, 1) → some (v, σ) = some out → np_At D np_cl A (nc_wd q cA) s σ H locs → W p l e R s m args below meth c H locs 0 0 Q (F0 m pc ls [.int (np_i v)]))   : ∀ (x1 x2 : Int) (σ : np_S) (H : Heap) (locs : List Loc) (ls : Array Slot), f_String_indexOf2_k0  x1 x2 σ = some out → np_At D np_cl A (nc_wd q cA) s σ H locs → lv_has ls 3 [(0, .ref (gA 0)), (1, .int (np_i x1)), (2, .int (np_i x2))] → W p l e R s m args below meth c H locs 0 0 Q (F0 m 0 ls []) := by
  intro x1 x2 σ H locs ls hf hat hl
  unfold f_String_indexOf2_k0 at hf
  refine lv_aload_n C.x C.b dd_String_indexOf2_0 rfl (lv_at hl 0 rfl) ?_
  refine np_callVi (As := []) (rest := []) C (c_String_isLatin1_k0 l _) np_allgood tw_269 tw_270 tw_271 tw_15 tw_272 (nA := 0) (by decide +kernel) rfl ⟨rfl, rfl, Nat.le_of_ble_eq_true rfl, Nat.le_of_ble_eq_true rfl⟩ (vk_recv C.en.1 (i := 0) (by decide) hat.2.2) hat rfl hl.1 (Nat.le_of_ble_eq_true rfl) dd_String_indexOf2_1 hf (fun o1 H locs hf hat => ?_)
  refine np_if_eq (tgt := 23) C dd_String_indexOf2_4 (by decide) hf (fun _ hf => ?_) (fun _ hf => ?_)
  · refine lv_aload_n C.x C.b dd_String_indexOf2_23 rfl (lv_at hl 0 rfl) ?_
    refine np_getk (v := .ref (gA (100 + 0))) C hat ((C.en.1.1 0 (by decide)).2.2.1) tw_692 dd_String_indexOf2_24 ?_
    refine lv_iload_n C.x C.b dd_String_indexOf2_27 rfl (lv_at hl 1 rfl) ?_
    refine lv_iload_n C.x C.b dd_String_indexOf2_28 rfl (lv_at hl 2 rfl) ?_
    refine lv_aload_n C.x C.b dd_String_indexOf2_29 rfl (lv_at hl 0 rfl) ?_
    refine np_callVi (As := []) (rest := [.int (np_i x2), .int (np_i x1), .ref (gA (100 + 0))]) C (c_String_length_k0 l _) np_allgood tw_275 tw_276 tw_277 tw_15 tw_278 (nA := 0) (by decide +kernel) rfl ⟨rfl, rfl, Nat.le_of_ble_eq_true rfl, Nat.le_of_ble_eq_true rfl⟩ (vk_recv C.en.1 (i := 0) (by decide) hat.2.2) hat rfl hl.1 (Nat.le_of_ble_eq_true rfl) dd_String_indexOf2_30 hf (fun o2 H locs hf hat => ?_)
    cases hf
  · refine lv_aload_n C.x C.b dd_String_indexOf2_7 rfl (lv_at hl 0 rfl) ?_
    refine np_getk (v := .ref (gA (100 + 0))) C hat ((C.en.1.1 0 (by decide)).2.2.1) tw_692 dd_String_indexOf2_8 ?_
    refine lv_iload_n C.x C.b dd_String_indexOf2_11 rfl (lv_at hl 1 rfl) ?_
    refine lv_iload_n C.x C.b dd_String_indexOf2_12 rfl (lv_at hl 2 rfl) ?_
    refine lv_aload_n C.x C.b dd_String_indexOf2_13 rfl (lv_at hl 0 rfl) ?_
    refine np_callVi (As := []) (rest := [.int (np_i x2), .int (np_i x1), .ref (gA (100 + 0))]) C (c_String_length_k0 l _) np_allgood tw_275 tw_276 tw_277 tw_15 tw_278 (nA := 0) (by decide +kernel) rfl ⟨rfl, rfl, Nat.le_of_ble_eq_true rfl, Nat.le_of_ble_eq_true rfl⟩ (vk_recv C.en.1 (i := 0) (by decide) hat.2.2) hat rfl hl.1 (Nat.le_of_ble_eq_true rfl) dd_String_indexOf2_14 hf (fun o3 H locs hf hat => ?_)
    refine np_callSi (As := [.ref (gA (100 + 0)), .int (np_i x1), .int (np_i x2), .int (np_i o3.1)]) (rest := []) C (c_StringLatin1_indexOf_kb0 l x1 x2 o3.1 _) np_allgood tw_283 tw_284 tw_16 tw_285 (nA := 4) (by decide +kernel) rfl ⟨rfl, rfl, Nat.le_of_ble_eq_true rfl, Nat.le_of_ble_eq_true rfl⟩ hat rfl hl.1 (Nat.le_of_ble_eq_true rfl) dd_String_indexOf2_17 hf (fun o4 H locs hf hat => ?_)
    refine lv_goto (tgt := 36) C.x C.b dd_String_indexOf2_20 (by decide) ?_
    exact w_f_String_indexOf2_k0_36 C hQ  _ _ _ _ _ hf hat (lv_sub hl [] rfl)
set_option maxHeartbeats 4000000 in
set_option maxRecDepth 100000 in
theorem c_String_indexOf2_k0 (l : Launch) {gA : Nat → Nat} {D : va_G} {q : Nat → Nat} {cA : Nat → ClassId} (x1 x2 : Int) (σ : np_S) : np_Mi gA l D np_cl (np_ty cA) (nc_wd q cA) yy_String_indexOf2 (.code yy_String_indexOf2 prog_19_method_80_code 3 (some .int) :: np_al) { frames := 2, cells := 0, slots := 0, locals := 48 } [.ref (gA 0), .int (np_i x1), .int (np_i x2)] σ (f_String_indexOf2_k0 x1 x2 σ) :=
  np_mki (by decide +kernel) (Nat.le_of_ble_eq_true rfl) (fun o p e R s m args below meth c Q A ls hf C hQ hat hl => w_f_String_indexOf2_k0 C hQ x1 x2 σ _ _ _ hf hat (lv_sub hl [0, 1, 2] rfl))
set_option maxHeartbeats 4000000 in
set_option maxRecDepth 100000 in
theorem w_f_String_indexOf_k0 (C : np_Cx gA p R s m args c D np_cl (np_ty cA) A np_al "java/lang/String" prog_19_method_79_code 2 { frames := 3, cells := 0, slots := 0, locals := 70 }) (hQ : ∀ (pc : Nat) (ls : Array Slot) (H : Heap) (locs : List Loc) (v : Int) {σ : np_S}, decode prog_19_method_79_code pc = .ok (.ireturn, 1) → some (v, σ) = some out → np_At D np_cl A (nc_wd q cA) s σ H locs → W p l e R s m args below meth c H locs 0 0 Q (F0 m pc ls [.int (np_i v)]))   : ∀ (x1 : Int) (σ : np_S) (H : Heap) (locs : List Loc) (ls : Array Slot), f_String_indexOf_k0  x1 σ = some out → np_At D np_cl A (nc_wd q cA) s σ H locs → lv_has ls 2 [(0, .ref (gA 0)), (1, .int (np_i x1))] → W p l e R s m args below meth c H locs 0 0 Q (F0 m 0 ls []) := by
  intro x1 σ H locs ls hf hat hl
  unfold f_String_indexOf_k0 at hf
  refine lv_aload_n C.x C.b dd_String_indexOf_0 rfl (lv_at hl 0 rfl) ?_
  refine lv_iload_n C.x C.b dd_String_indexOf_1 rfl (lv_at hl 1 rfl) ?_
  refine lv_iconst (v := np_i 0) C.x C.b dd_String_indexOf_2 rfl ?_
  refine np_callVi (As := [.int (np_i x1), .int (np_i 0)]) (rest := []) C (c_String_indexOf2_k0 l x1 0 _) np_allgood tw_265 tw_266 tw_267 tw_15 tw_268 (nA := 2) (by decide +kernel) rfl ⟨rfl, rfl, Nat.le_of_ble_eq_true rfl, Nat.le_of_ble_eq_true rfl⟩ (vk_recv C.en.1 (i := 0) (by decide) hat.2.2) hat rfl hl.1 (Nat.le_of_ble_eq_true rfl) dd_String_indexOf_3 hf (fun o1 H locs hf hat => ?_)
  exact hQ _ _ _ _ _ dd_String_indexOf_6 hf hat
set_option maxHeartbeats 4000000 in
set_option maxRecDepth 100000 in
theorem c_String_indexOf_k0 (l : Launch) {gA : Nat → Nat} {D : va_G} {q : Nat → Nat} {cA : Nat → ClassId} (x1 : Int) (σ : np_S) : np_Mi gA l D np_cl (np_ty cA) (nc_wd q cA) yy_String_indexOf (.code yy_String_indexOf prog_19_method_79_code 2 (some .int) :: np_al) { frames := 3, cells := 0, slots := 0, locals := 70 } [.ref (gA 0), .int (np_i x1)] σ (f_String_indexOf_k0 x1 σ) :=
  np_mki (by decide +kernel) (Nat.le_of_ble_eq_true rfl) (fun o p e R s m args below meth c Q A ls hf C hQ hat hl => w_f_String_indexOf_k0 C hQ x1 σ _ _ _ hf hat (lv_sub hl [0, 1] rfl))
set_option maxHeartbeats 4000000 in
set_option maxRecDepth 100000 in
theorem w_f_String_isLatin1_k1_18 (C : np_Cx gA p R s m args c D np_cl (np_ty cA) A np_al "java/lang/String" prog_19_method_154_code 1 { frames := 0, cells := 0, slots := 0, locals := 0 }) (hQ : ∀ (pc : Nat) (ls : Array Slot) (H : Heap) (locs : List Loc) (v : Int) {σ : np_S}, decode prog_19_method_154_code pc = .ok (.ireturn, 1) → np_ck (v = 0 ∨ v = 1) (some (v, σ)) = some out → np_At D np_cl A (nc_wd q cA) s σ H locs → W p l e R s m args below meth c H locs 0 0 Q (F0 m pc ls [.int (np_i v)]))   : ∀ (t0 : Int) (σ : np_S) (H : Heap) (locs : List Loc) (ls : Array Slot), f_String_isLatin1_k1_18  t0 σ = some out → np_At D np_cl A (nc_wd q cA) s σ H locs → lv_has ls 1 [] → W p l e R s m args below meth c H locs 0 0 Q (F0 m 18 ls [.int (np_i t0)]) := by
  intro t0 σ H locs ls hf hat hl
  unfold f_String_isLatin1_k1_18 at hf
  exact hQ _ _ _ _ _ dd_String_isLatin1_18 hf hat
set_option maxHeartbeats 4000000 in
set_option maxRecDepth 100000 in
theorem w_f_String_isLatin1_k1_17 (C : np_Cx gA p R s m args c D np_cl (np_ty cA) A np_al "java/lang/String" prog_19_method_154_code 1 { frames := 0, cells := 0, slots := 0, locals := 0 }) (hQ : ∀ (pc : Nat) (ls : Array Slot) (H : Heap) (locs : List Loc) (v : Int) {σ : np_S}, decode prog_19_method_154_code pc = .ok (.ireturn, 1) → np_ck (v = 0 ∨ v = 1) (some (v, σ)) = some out → np_At D np_cl A (nc_wd q cA) s σ H locs → W p l e R s m args below meth c H locs 0 0 Q (F0 m pc ls [.int (np_i v)]))   : ∀ (σ : np_S) (H : Heap) (locs : List Loc) (ls : Array Slot), f_String_isLatin1_k1_17  σ = some out → np_At D np_cl A (nc_wd q cA) s σ H locs → lv_has ls 1 [] → W p l e R s m args below meth c H locs 0 0 Q (F0 m 17 ls []) := by
  intro σ H locs ls hf hat hl
  unfold f_String_isLatin1_k1_17 at hf
  refine lv_iconst (v := np_i 0) C.x C.b dd_String_isLatin1_17 rfl ?_
  exact w_f_String_isLatin1_k1_18 C hQ  _ _ _ _ _ hf hat (lv_sub hl [] rfl)
set_option maxHeartbeats 4000000 in
set_option maxRecDepth 100000 in
theorem w_f_String_isLatin1_k1 (C : np_Cx gA p R s m args c D np_cl (np_ty cA) A np_al "java/lang/String" prog_19_method_154_code 1 { frames := 0, cells := 0, slots := 0, locals := 0 }) (hQ : ∀ (pc : Nat) (ls : Array Slot) (H : Heap) (locs : List Loc) (v : Int) {σ : np_S}, decode prog_19_method_154_code pc = .ok (.ireturn, 1) → np_ck (v = 0 ∨ v = 1) (some (v, σ)) = some out → np_At D np_cl A (nc_wd q cA) s σ H locs → W p l e R s m args below meth c H locs 0 0 Q (F0 m pc ls [.int (np_i v)]))   : ∀ (σ : np_S) (H : Heap) (locs : List Loc) (ls : Array Slot), f_String_isLatin1_k1  σ = some out → np_At D np_cl A (nc_wd q cA) s σ H locs → lv_has ls 1 [(0, .ref (gA 1))] → W p l e R s m args below meth c H locs 0 0 Q (F0 m 0 ls []) := by
  intro σ H locs ls hf hat hl
  unfold f_String_isLatin1_k1 at hf
  refine np_gets (v := .int (np_i 1)) C hat C.en.2.2.2.1 tw_273 dd_String_isLatin1_0 ?_
  refine np_if_eq (tgt := 17) C dd_String_isLatin1_3 (by decide) hf (fun _ hf => ?_) (fun _ hf => ?_)
  · exact w_f_String_isLatin1_k1_17 C hQ   _ _ _ _ hf hat (lv_sub hl [] rfl)
  · refine lv_aload_n C.x C.b dd_String_isLatin1_6 rfl (lv_at hl 0 rfl) ?_
    refine np_getk (v := .int (np_i 0)) C hat ((C.en.1.1 1 (by decide)).2.1) tw_693 dd_String_isLatin1_7 ?_
    refine np_if_ne (tgt := 17) C dd_String_isLatin1_10 (by decide) hf (fun _ hf => ?_) (fun _ hf => ?_)
    · exact w_f_String_isLatin1_k1_17 C hQ   _ _ _ _ hf hat (lv_sub hl [] rfl)
    · refine lv_iconst (v := np_i 1) C.x C.b dd_String_isLatin1_13 rfl ?_
      refine lv_goto (tgt := 18) C.x C.b dd_String_isLatin1_14 (by decide) ?_
      exact w_f_String_isLatin1_k1_18 C hQ  _ _ _ _ _ hf hat (lv_sub hl [] rfl)
set_option maxHeartbeats 4000000 in
set_option maxRecDepth 100000 in
theorem c_String_isLatin1_k1 (l : Launch) {gA : Nat → Nat} {D : va_G} {q : Nat → Nat} {cA : Nat → ClassId} (σ : np_S) : np_Mi gA l D np_cl (np_ty cA) (nc_wd q cA) yy_String_isLatin1 (.code yy_String_isLatin1 prog_19_method_154_code 1 (some .boolean) :: np_al) { frames := 0, cells := 0, slots := 0, locals := 0 } [.ref (gA 1)] σ (f_String_isLatin1_k1  σ) :=
  np_mkz (by decide +kernel) (Nat.le_of_ble_eq_true rfl) (fun o p e R s m args below meth c Q A ls hf C hQ hat hl => w_f_String_isLatin1_k1 C hQ  σ _ _ _ hf hat (lv_sub hl [0] rfl))
set_option maxHeartbeats 4000000 in
set_option maxRecDepth 100000 in
theorem w_f_String_coder_k1_14 (C : np_Cx gA p R s m args c D np_cl (np_ty cA) A np_al "java/lang/String" prog_19_method_152_code 1 { frames := 0, cells := 0, slots := 0, locals := 0 }) (hQ : ∀ (pc : Nat) (ls : Array Slot) (H : Heap) (locs : List Loc) (v : Int) {σ : np_S}, decode prog_19_method_152_code pc = .ok (.ireturn, 1) → np_ck (v = 0 ∨ v = 1) (some (v, σ)) = some out → np_At D np_cl A (nc_wd q cA) s σ H locs → W p l e R s m args below meth c H locs 0 0 Q (F0 m pc ls [.int (np_i v)]))   : ∀ (t0 : Int) (σ : np_S) (H : Heap) (locs : List Loc) (ls : Array Slot), f_String_coder_k1_14  t0 σ = some out → np_At D np_cl A (nc_wd q cA) s σ H locs → lv_has ls 1 [] → W p l e R s m args below meth c H locs 0 0 Q (F0 m 14 ls [.int (np_i t0)]) := by
  intro t0 σ H locs ls hf hat hl
  unfold f_String_coder_k1_14 at hf
  exact hQ _ _ _ _ _ dd_String_coder_14 hf hat
set_option maxHeartbeats 4000000 in
set_option maxRecDepth 100000 in
theorem w_f_String_coder_k1 (C : np_Cx gA p R s m args c D np_cl (np_ty cA) A np_al "java/lang/String" prog_19_method_152_code 1 { frames := 0, cells := 0, slots := 0, locals := 0 }) (hQ : ∀ (pc : Nat) (ls : Array Slot) (H : Heap) (locs : List Loc) (v : Int) {σ : np_S}, decode prog_19_method_152_code pc = .ok (.ireturn, 1) → np_ck (v = 0 ∨ v = 1) (some (v, σ)) = some out → np_At D np_cl A (nc_wd q cA) s σ H locs → W p l e R s m args below meth c H locs 0 0 Q (F0 m pc ls [.int (np_i v)]))   : ∀ (σ : np_S) (H : Heap) (locs : List Loc) (ls : Array Slot), f_String_coder_k1  σ = some out → np_At D np_cl A (nc_wd q cA) s σ H locs → lv_has ls 1 [(0, .ref (gA 1))] → W p l e R s m args below meth c H locs 0 0 Q (F0 m 0 ls []) := by
  intro σ H locs ls hf hat hl
  unfold f_String_coder_k1 at hf
  refine np_gets (v := .int (np_i 1)) C hat C.en.2.2.2.1 tw_273 dd_String_coder_0 ?_
  refine np_if_eq (tgt := 13) C dd_String_coder_3 (by decide) hf (fun _ hf => ?_) (fun _ hf => ?_)
  · refine lv_iconst (v := np_i 1) C.x C.b dd_String_coder_13 rfl ?_
    exact w_f_String_coder_k1_14 C hQ  _ _ _ _ _ hf hat (lv_sub hl [] rfl)
  · refine lv_aload_n C.x C.b dd_String_coder_6 rfl (lv_at hl 0 rfl) ?_
    refine np_getk (v := .int (np_i 0)) C hat ((C.en.1.1 1 (by decide)).2.1) tw_693 dd_String_coder_7 ?_
    refine lv_goto (tgt := 14) C.x C.b dd_String_coder_10 (by decide) ?_
    exact w_f_String_coder_k1_14 C hQ  _ _ _ _ _ hf hat (lv_sub hl [] rfl)
set_option maxHeartbeats 4000000 in
set_option maxRecDepth 100000 in
theorem c_String_coder_k1 (l : Launch) {gA : Nat → Nat} {D : va_G} {q : Nat → Nat} {cA : Nat → ClassId} (σ : np_S) : np_Mi gA l D np_cl (np_ty cA) (nc_wd q cA) yy_String_coder (.code yy_String_coder prog_19_method_152_code 1 (some .byte) :: np_al) { frames := 0, cells := 0, slots := 0, locals := 0 } [.ref (gA 1)] σ (f_String_coder_k1  σ) :=
  np_mkb (by decide +kernel) (Nat.le_of_ble_eq_true rfl) (fun o p e R s m args below meth c Q A ls hf C hQ hat hl => w_f_String_coder_k1 C hQ  σ _ _ _ hf hat (lv_sub hl [0] rfl))
set_option maxHeartbeats 4000000 in
set_option maxRecDepth 100000 in
theorem w_f_String_length_k1 (C : np_Cx gA p R s m args c D np_cl (np_ty cA) A np_al "java/lang/String" prog_19_method_54_code 1 { frames := 1, cells := 0, slots := 0, locals := 20 }) (hQ : ∀ (pc : Nat) (ls : Array Slot) (H : Heap) (locs : List Loc) (v : Int) {σ : np_S}, decode prog_19_method_54_code pc = .ok (.ireturn, 1) → some (v, σ) = some out → np_At D np_cl A (nc_wd q cA) s σ H locs → W p l e R s m args below meth c H locs 0 0 Q (F0 m pc ls [.int (np_i v)]))   : ∀ (σ : np_S) (H : Heap) (locs : List Loc) (ls : Array Slot), f_String_length_k1  σ = some out → np_At D np_cl A (nc_wd q cA) s σ H locs → lv_has ls 1 [(0, .ref (gA 1))] → W p l e R s m args below meth c H locs 0 0 Q (F0 m 0 ls []) := by
  intro σ H locs ls hf hat hl
  unfold f_String_length_k1 at hf
  refine lv_aload_n C.x C.b dd_String_length_0 rfl (lv_at hl 0 rfl) ?_
  refine np_getk (v := .ref (gA (100 + 1))) C hat ((C.en.1.1 1 (by decide)).2.2.1) tw_692 dd_String_length_1 ?_
  refine np_klen (n := 8) C hat ((C.en.1.1 1 (by decide)).2.2.2) (by decide +kernel) dd_String_length_4 ?_
  refine lv_aload_n C.x C.b dd_String_length_5 rfl (lv_at hl 0 rfl) ?_
  refine np_callVi (As := []) (rest := [.int (np_i 8)]) C (c_String_coder_k1 l _) np_allgood tw_279 tw_280 tw_281 tw_15 tw_282 (nA := 0) (by decide +kernel) rfl ⟨rfl, rfl, Nat.le_of_ble_eq_true rfl, Nat.le_of_ble_eq_true rfl⟩ (vk_recv C.en.1 (i := 1) (by decide) hat.2.2) hat rfl hl.1 (Nat.le_of_ble_eq_true rfl) dd_String_length_6 hf (fun o1 H locs hf hat => ?_)
  refine np_ishr C dd_String_length_9 ?_
  exact hQ _ _ _ _ _ dd_String_length_10 hf hat
set_option maxHeartbeats 4000000 in
set_option maxRecDepth 100000 in
theorem c_String_length_k1 (l : Launch) {gA : Nat → Nat} {D : va_G} {q : Nat → Nat} {cA : Nat → ClassId} (σ : np_S) : np_Mi gA l D np_cl (np_ty cA) (nc_wd q cA) yy_String_length (.code yy_String_length prog_19_method_54_code 1 (some .int) :: np_al) { frames := 1, cells := 0, slots := 0, locals := 20 } [.ref (gA 1)] σ (f_String_length_k1  σ) :=
  np_mki (by decide +kernel) (Nat.le_of_ble_eq_true rfl) (fun o p e R s m args below meth c Q A ls hf C hQ hat hl => w_f_String_length_k1 C hQ  σ _ _ _ hf hat (lv_sub hl [0] rfl))
set_option maxHeartbeats 4000000 in
set_option maxRecDepth 100000 in
theorem w_f_StringLatin1_indexOfChar_kb1_7 (C : np_Cx gA p R s m args c D np_cl (np_ty cA) A np_al "java/lang/StringLatin1" prog_21_method_23_code 6 { frames := 0, cells := 0, slots := 0, locals := 0 }) (hQ : ∀ (pc : Nat) (ls : Array Slot) (H : Heap) (locs : List Loc) (v : Int) {σ : np_S}, decode prog_21_method_23_code pc = .ok (.ireturn, 1) → some (v, σ) = some out → np_At D np_cl A (nc_wd q cA) s σ H locs → W p l e R s m args below meth c H locs 0 0 Q (F0 m pc ls [.int (np_i v)]))   : ∀ (n : Nat), ∀ (x3 x4 x5 : Int) (σ : np_S) (H : Heap) (locs : List Loc) (ls : Array Slot), f_StringLatin1_indexOfChar_kb1_7  n x3 x4 x5 σ = some out → np_At D np_cl A (nc_wd q cA) s σ H locs → lv_has ls 6 [(0, .ref (gA (100 + 1))), (3, .int (np_i x3)), (4, .int (np_i x4)), (5, .int (np_i x5))] → W p l e R s m args below meth c H locs 0 0 Q (F0 m 7 ls []) := by
  intro n
  induction n with
  | zero => intro x3 x4 x5 σ H locs ls hf; cases hf
  | succ n ih =>
    intro x3 x4 x5 σ H locs ls hf hat hl
    have h7 := ih
    have hf : f_StringLatin1_indexOfChar_kb1_7_b  (fun x3 x4 x5 σ => f_StringLatin1_indexOfChar_kb1_7  n x3 x4 x5 σ) x3 x4 x5 σ = some out := hf
    unfold f_StringLatin1_indexOfChar_kb1_7_b at hf
    refine lv_iload C.x C.b dd_StringLatin1_indexOfChar_7 (lv_at hl 3 rfl) ?_
    refine lv_iload_n C.x C.b dd_StringLatin1_indexOfChar_9 rfl (lv_at hl 1 rfl) ?_
    refine np_icmp_ge (tgt := 31) C dd_StringLatin1_indexOfChar_10 (by decide) hf (fun _ hf => ?_) (fun _ hf => ?_)
    · refine lv_iconst (v := np_i (-1)) C.x C.b dd_StringLatin1_indexOfChar_31 rfl ?_
      exact hQ _ _ _ _ _ dd_StringLatin1_indexOfChar_32 hf hat
    · refine lv_aload_n C.x C.b dd_StringLatin1_indexOfChar_13 rfl (lv_at hl 0 rfl) ?_
      refine lv_iload C.x C.b dd_StringLatin1_indexOfChar_14 (lv_at hl 3 rfl) ?_
      refine np_kald (i := 1) (n := 8) C hat ((C.en.1.1 1 (by decide)).2.2.2) rfl (by decide) dd_StringLatin1_indexOfChar_16 hf (fun hf => ?_)
      refine lv_iload C.x C.b dd_StringLatin1_indexOfChar_17 (lv_at hl 2 rfl) ?_
      refine np_icmp_ne (tgt := 25) C dd_StringLatin1_indexOfChar_19 (by decide) hf (fun _ hf => ?_) (fun _ hf => ?_)
      · refine lv_iinc (v := np_i (x5 + 1)) (lv' := [(5, .int (np_i (x5 + 1))), (0, .ref (gA (100 + 1))), (3, .int (np_i x3)), (4, .int (np_i x4))]) C.x C.b dd_StringLatin1_indexOfChar_25 hl (k := 3) rfl (np_inc _ _) (by decide) rfl (fun ls hl => ?_)
        refine lv_goto (tgt := 7) C.x C.b dd_StringLatin1_indexOfChar_28 (by decide) ?_
        exact h7 _ _ _ _ _ _ _ hf hat (lv_sub hl [1, 2, 3, 0] rfl)
      · refine lv_iload C.x C.b dd_StringLatin1_indexOfChar_22 (lv_at hl 3 rfl) ?_
        exact hQ _ _ _ _ _ dd_StringLatin1_indexOfChar_24 hf hat
set_option maxHeartbeats 4000000 in
set_option maxRecDepth 100000 in
theorem w_f_StringLatin1_indexOfChar_kb1 (C : np_Cx gA p R s m args c D np_cl (np_ty cA) A np_al "java/lang/StringLatin1" prog_21_method_23_code 6 { frames := 0, cells := 0, slots := 0, locals := 0 }) (hQ : ∀ (pc : Nat) (ls : Array Slot) (H : Heap) (locs : List Loc) (v : Int) {σ : np_S}, decode prog_21_method_23_code pc = .ok (.ireturn, 1) → some (v, σ) = some out → np_At D np_cl A (nc_wd q cA) s σ H locs → W p l e R s m args below meth c H locs 0 0 Q (F0 m pc ls [.int (np_i v)]))   : ∀ (x1 x2 x3 : Int) (σ : np_S) (H : Heap) (locs : List Loc) (ls : Array Slot), f_StringLatin1_indexOfChar_kb1  x1 x2 x3 σ = some out → np_At D np_cl A (nc_wd q cA) s σ H locs → lv_has ls 6 [(0, .ref (gA (100 + 1))), (1, .int (np_i x1)), (2, .int (np_i x2)), (3, .int (np_i x3))] → W p l e R s m args below meth c H locs 0 0 Q (F0 m 0 ls []) := by
  intro x1 x2 x3 σ H locs ls hf hat hl
  unfold f_StringLatin1_indexOfChar_kb1 at hf
  refine lv_iload_n C.x C.b dd_StringLatin1_indexOfChar_0 rfl (lv_at hl 1 rfl) ?_
  refine np_i2b C dd_StringLatin1_indexOfChar_1 ?_
  refine lv_istore (lv' := [(4, .int (np_i (Int.bmod x1 256))), (0, .ref (gA (100 + 1))), (1, .int (np_i x1)), (2, .int (np_i x2)), (3, .int (np_i x3))]) C.x C.b dd_StringLatin1_indexOfChar_2 hl (by decide) rfl (fun ls hl => ?_)
  refine lv_iload_n C.x C.b dd_StringLatin1_indexOfChar_4 rfl (lv_at hl 3 rfl) ?_
  refine lv_istore (lv' := [(5, .int (np_i x2)), (4, .int (np_i (Int.bmod x1 256))), (0, .ref (gA (100 + 1))), (1, .int (np_i x1)), (2, .int (np_i x2)), (3, .int (np_i x3))]) C.x C.b dd_StringLatin1_indexOfChar_5 hl (by decide) rfl (fun ls hl => ?_)
  exact w_f_StringLatin1_indexOfChar_kb1_7 C hQ  20000 _ _ _ _ _ _ _ hf hat (lv_sub hl [2, 5, 1, 0] rfl)
set_option maxHeartbeats 4000000 in
set_option maxRecDepth 100000 in
theorem c_StringLatin1_indexOfChar_kb1 (l : Launch) {gA : Nat → Nat} {D : va_G} {q : Nat → Nat} {cA : Nat → ClassId} (x1 x2 x3 : Int) (σ : np_S) : np_Mi gA l D np_cl (np_ty cA) (nc_wd q cA) yy_StringLatin1_indexOfChar (.code yy_StringLatin1_indexOfChar prog_21_method_23_code 6 (some .int) :: np_al) { frames := 0, cells := 0, slots := 0, locals := 0 } [.ref (gA (100 + 1)), .int (np_i x1), .int (np_i x2), .int (np_i x3)] σ (f_StringLatin1_indexOfChar_kb1 x1 x2 x3 σ) :=
  np_mki (by decide +kernel) (Nat.le_of_ble_eq_true rfl) (fun o p e R s m args below meth c Q A ls hf C hQ hat hl => w_f_StringLatin1_indexOfChar_kb1 C hQ x1 x2 x3 σ _ _ _ hf hat (lv_sub hl [0, 1, 2, 3] rfl))
set_option maxHeartbeats 4000000 in
set_option maxRecDepth 100000 in
theorem w_f_StringLatin1_indexOf_kb1 (C : np_Cx gA p R s m args c D np_cl (np_ty cA) A np_al "java/lang/StringLatin1" prog_21_method_22_code 4 { frames := 1, cells := 0, slots := 0, locals := 25 }) (hQ : ∀ (pc : Nat) (ls : Array Slot) (H : Heap) (locs : List Loc) (v : Int) {σ : np_S}, decode prog_21_method_22_code pc = .ok (.ireturn, 1) → some (v, σ) = some out → np_At D np_cl A (nc_wd q cA) s σ H locs → W p l e R s m args below meth c H locs 0 0 Q (F0 m pc ls [.int (np_i v)]))   : ∀ (x1 x2 x3 : Int) (σ : np_S) (H : Heap) (locs : List Loc) (ls : Array Slot), f_StringLatin1_indexOf_kb1  x1 x2 x3 σ = some out → np_At D np_cl A (nc_wd q cA) s σ H locs → lv_has ls 4 [(0, .ref (gA (100 + 1))), (1, .int (np_i x1)), (2, .int (np_i x2)), (3, .int (np_i x3))] → W p l e R s m args below meth c H locs 0 0 Q (F0 m 0 ls []) := by
  intro x1 x2 x3 σ H locs ls hf hat hl
  unfold f_StringLatin1_indexOf_kb1 at hf
  refine lv_iload_n C.x C.b dd_StringLatin1_indexOf_0 rfl (lv_at hl 1 rfl) ?_
  refine np_callSi (As := [.int (np_i x1)]) (rest := []) C (c_StringLatin1_canEncode l x1 _) np_allgood tw_286 tw_287 tw_16 tw_288 (nA := 1) (by decide +kernel) rfl ⟨rfl, rfl, Nat.le_of_ble_eq_true rfl, Nat.le_of_ble_eq_true rfl⟩ hat rfl hl.1 (Nat.le_of_ble_eq_true rfl) dd_StringLatin1_indexOf_1 hf (fun o1 H locs hf hat => ?_)
  refine np_if_ne (tgt := 9) C dd_StringLatin1_indexOf_4 (by decide) hf (fun _ hf => ?_) (fun _ hf => ?_)
  · refine lv_iload_n C.x C.b dd_StringLatin1_indexOf_9 rfl (lv_at hl 2 rfl) ?_
    refine lv_iconst (v := np_i 0) C.x C.b dd_StringLatin1_indexOf_10 rfl ?_
    refine np_mmax C tw_289 tw_290 tw_17 tw_291 (Nat.le_of_ble_eq_true rfl) (Nat.le_of_ble_eq_true rfl) hl.1 dd_StringLatin1_indexOf_11 hf (fun hf => ?_)
    refine lv_istore_n (lv' := [(2, .int (np_i (np_max x2 0))), (0, .ref (gA (100 + 1))), (1, .int (np_i x1)), (3, .int (np_i x3))]) C.x C.b dd_StringLatin1_indexOf_14 rfl hl (by decide) rfl (fun ls hl => ?_)
    refine lv_iload_n C.x C.b dd_StringLatin1_indexOf_15 rfl (lv_at hl 3 rfl) ?_
    refine lv_aload_n C.x C.b dd_StringLatin1_indexOf_16 rfl (lv_at hl 1 rfl) ?_
    refine np_klen (n := 8) C hat ((C.en.1.1 1 (by decide)).2.2.2) (by decide +kernel) dd_StringLatin1_indexOf_17 ?_
    refine np_mmin C tw_292 tw_293 tw_17 tw_294 (Nat.le_of_ble_eq_true rfl) (Nat.le_of_ble_eq_true rfl) hl.1 dd_StringLatin1_indexOf_18 hf (fun hf => ?_)
    refine lv_istore_n (lv' := [(3, .int (np_i (np_min x3 8))), (2, .int (np_i (np_max x2 0))), (0, .ref (gA (100 + 1))), (1, .int (np_i x1))]) C.x C.b dd_StringLatin1_indexOf_21 rfl hl (by decide) rfl (fun ls hl => ?_)
    refine lv_iload_n C.x C.b dd_StringLatin1_indexOf_22 rfl (lv_at hl 1 rfl) ?_
    refine lv_iload_n C.x C.b dd_StringLatin1_indexOf_23 rfl (lv_at hl 0 rfl) ?_
    refine np_icmp_lt (tgt := 29) C dd_StringLatin1_indexOf_24 (by decide) hf (fun _ hf => ?_) (fun _ hf => ?_)
    · refine lv_aload_n C.x C.b dd_StringLatin1_indexOf_29 rfl (lv_at hl 2 rfl) ?_
      refine lv_iload_n C.x C.b dd_StringLatin1_indexOf_30 rfl (lv_at hl 3 rfl) ?_
      refine lv_iload_n C.x C.b dd_StringLatin1_indexOf_31 rfl (lv_at hl 1 rfl) ?_
      refine lv_iload_n C.x C.b dd_StringLatin1_indexOf_32 rfl (lv_at hl 0 rfl) ?_
      refine np_callSi (As := [.ref (gA (100 + 1)), .int (np_i x1), .int (np_i (np_max x2 0)), .int (np_i (np_min x3 8))]) (rest := []) C (c_StringLatin1_indexOfChar_kb1 l x1 (np_max x2 0) (np_min x3 8) _) np_allgood tw_295 tw_296 tw_16 tw_297 (nA := 4) (by decide +kernel) rfl ⟨rfl, rfl, Nat.le_of_ble_eq_true rfl, Nat.le_of_ble_eq_true rfl⟩ hat rfl hl.1 (Nat.le_of_ble_eq_true rfl) dd_StringLatin1_indexOf_33 hf (fun o2 H locs hf hat => ?_)
      exact hQ _ _ _ _ _ dd_StringLatin1_indexOf_36 hf hat
    · refine lv_iconst (v := np_i (-1)) C.x C.b dd_StringLatin1_indexOf_27 rfl ?_
      exact hQ _ _ _ _ _ dd_StringLatin1_indexOf_28 hf hat
  · refine lv_iconst (v := np_i (-1)) C.x C.b dd_StringLatin1_indexOf_7 rfl ?_
    exact hQ _ _ _ _ _ dd_StringLatin1_indexOf_8 hf hat
set_option maxHeartbeats 4000000 in
set_option maxRecDepth 100000 in
theorem c_StringLatin1_indexOf_kb1 (l : Launch) {gA : Nat → Nat} {D : va_G} {q : Nat → Nat} {cA : Nat → ClassId} (x1 x2 x3 : Int) (σ : np_S) : np_Mi gA l D np_cl (np_ty cA) (nc_wd q cA) yy_StringLatin1_indexOf (.code yy_StringLatin1_indexOf prog_21_method_22_code 4 (some .int) :: np_al) { frames := 1, cells := 0, slots := 0, locals := 25 } [.ref (gA (100 + 1)), .int (np_i x1), .int (np_i x2), .int (np_i x3)] σ (f_StringLatin1_indexOf_kb1 x1 x2 x3 σ) :=
  np_mki (by decide +kernel) (Nat.le_of_ble_eq_true rfl) (fun o p e R s m args below meth c Q A ls hf C hQ hat hl => w_f_StringLatin1_indexOf_kb1 C hQ x1 x2 x3 σ _ _ _ hf hat (lv_sub hl [0, 1, 2, 3] rfl))
set_option maxHeartbeats 4000000 in
set_option maxRecDepth 100000 in
theorem w_f_String_indexOf2_k1_36 (C : np_Cx gA p R s m args c D np_cl (np_ty cA) A np_al "java/lang/String" prog_19_method_80_code 3 { frames := 2, cells := 0, slots := 0, locals := 48 }) (hQ : ∀ (pc : Nat) (ls : Array Slot) (H : Heap) (locs : List Loc) (v : Int) {σ : np_S}, decode prog_19_method_80_code pc = .ok (.ireturn, 1) → some (v, σ) = some out → np_At D np_cl A (nc_wd q cA) s σ H locs → W p l e R s m args below meth c H locs 0 0 Q (F0 m pc ls [.int (np_i v)]))   : ∀ (t0 : Int) (σ : np_S) (H : Heap) (locs : List Loc) (ls : Array Slot), f_String_indexOf2_k1_36  t0 σ = some out → np_At D np_cl A (nc_wd q cA) s σ H locs → lv_has ls 3 [] → W p l e R s m args below meth c H locs 0 0 Q (F0 m 36 ls [.int (np_i t0)]) := by
  intro t0 σ H locs ls hf hat hl
  unfold f_String_indexOf2_k1_36 at hf
  exact hQ _ _ _ _ _ dd_String_indexOf2_36 hf hat
set_option maxHeartbeats 4000000 in
set_option maxRecDepth 100000 in
theorem w_f_String_indexOf2_k1 (C : np_Cx gA p R s m args c D np_cl (np_ty cA) A np_al "java/lang/String" prog_19_method_80_code 3 { frames := 2, cells := 0, slots := 0, locals := 48 }) (hQ : ∀ (pc : Nat) (ls : Array Slot) (H : Heap) (locs : List Loc) (v : Int) {σ : np_S}, decode prog_19_method_80_code pc = .ok (.ireturn, 1) → some (v, σ) = some out → np_At D np_cl A (nc_wd q cA) s σ H locs → W p l e R s m args below meth c H locs 0 0 Q (F0 m pc ls [.int (np_i v)]))   : ∀ (x1 x2 : Int) (σ : np_S) (H : Heap) (locs : List Loc) (ls : Array Slot), f_String_indexOf2_k1  x1 x2 σ = some out → np_At D np_cl A (nc_wd q cA) s σ H locs → lv_has ls 3 [(0, .ref (gA 1)), (1, .int (np_i x1)), (2, .int (np_i x2))] → W p l e R s m args below meth c H locs 0 0 Q (F0 m 0 ls []) := by
  intro x1 x2 σ H locs ls hf hat hl
  unfold f_String_indexOf2_k1 at hf
  refine lv_aload_n C.x C.b dd_String_indexOf2_0 rfl (lv_at hl 0 rfl) ?_
  refine np_callVi (As := []) (rest := []) C (c_String_isLatin1_k1 l _) np_allgood tw_269 tw_270 tw_271 tw_15 tw_272 (nA := 0) (by decide +kernel) rfl ⟨rfl, rfl, Nat.le_of_ble_eq_true rfl, Nat.le_of_ble_eq_true rfl⟩ (vk_recv C.en.1 (i := 1) (by decide) hat.2.2) hat rfl hl.1 (Nat.le_of_ble_eq_true rfl) dd_String_indexOf2_1 hf (fun o1 H locs hf hat => ?_)
  refine np_if_eq (tgt := 23) C dd_String_indexOf2_4 (by decide) hf (fun _ hf => ?_) (fun _ hf => ?_)
  · refine lv_aload_n C.x C.b dd_String_indexOf2_23 rfl (lv_at hl 0 rfl) ?_
    refine np_getk (v := .ref (gA (100 + 1))) C hat ((C.en.1.1 1 (by decide)).2.2.1) tw_692 dd_String_indexOf2_24 ?_
    refine lv_iload_n C.x C.b dd_String_indexOf2_27 rfl (lv_at hl 1 rfl) ?_
    refine lv_iload_n C.x C.b dd_String_indexOf2_28 rfl (lv_at hl 2 rfl) ?_
    refine lv_aload_n C.x C.b dd_String_indexOf2_29 rfl (lv_at hl 0 rfl) ?_
    refine np_callVi (As := []) (rest := [.int (np_i x2), .int (np_i x1), .ref (gA (100 + 1))]) C (c_String_length_k1 l _) np_allgood tw_275 tw_276 tw_277 tw_15 tw_278 (nA := 0) (by decide +kernel) rfl ⟨rfl, rfl, Nat.le_of_ble_eq_true rfl, Nat.le_of_ble_eq_true rfl⟩ (vk_recv C.en.1 (i := 1) (by decide) hat.2.2) hat rfl hl.1 (Nat.le_of_ble_eq_true rfl) dd_String_indexOf2_30 hf (fun o2 H locs hf hat => ?_)
    cases hf
  · refine lv_aload_n C.x C.b dd_String_indexOf2_7 rfl (lv_at hl 0 rfl) ?_
    refine np_getk (v := .ref (gA (100 + 1))) C hat ((C.en.1.1 1 (by decide)).2.2.1) tw_692 dd_String_indexOf2_8 ?_
    refine lv_iload_n C.x C.b dd_String_indexOf2_11 rfl (lv_at hl 1 rfl) ?_
    refine lv_iload_n C.x C.b dd_String_indexOf2_12 rfl (lv_at hl 2 rfl) ?_
    refine lv_aload_n C.x C.b dd_String_indexOf2_13 rfl (lv_at hl 0 rfl) ?_
    refine np_callVi (As := []) (rest := [.int (np_i x2), .int (np_i x1), .ref (gA (100 + 1))]) C (c_String_length_k1 l _) np_allgood tw_275 tw_276 tw_277 tw_15 tw_278 (nA := 0) (by decide +kernel) rfl ⟨rfl, rfl, Nat.le_of_ble_eq_true rfl, Nat.le_of_ble_eq_true rfl⟩ (vk_recv C.en.1 (i := 1) (by decide) hat.2.2) hat rfl hl.1 (Nat.le_of_ble_eq_true rfl) dd_String_indexOf2_14 hf (fun o3 H locs hf hat => ?_)
    refine np_callSi (As := [.ref (gA (100 + 1)), .int (np_i x1), .int (np_i x2), .int (np_i o3.1)]) (rest := []) C (c_StringLatin1_indexOf_kb1 l x1 x2 o3.1 _) np_allgood tw_283 tw_284 tw_16 tw_285 (nA := 4) (by decide +kernel) rfl ⟨rfl, rfl, Nat.le_of_ble_eq_true rfl, Nat.le_of_ble_eq_true rfl⟩ hat rfl hl.1 (Nat.le_of_ble_eq_true rfl) dd_String_indexOf2_17 hf (fun o4 H locs hf hat => ?_)
    refine lv_goto (tgt := 36) C.x C.b dd_String_indexOf2_20 (by decide) ?_
    exact w_f_String_indexOf2_k1_36 C hQ  _ _ _ _ _ hf hat (lv_sub hl [] rfl)
set_option maxHeartbeats 4000000 in
set_option maxRecDepth 100000 in
theorem c_String_indexOf2_k1 (l : Launch) {gA : Nat → Nat} {D : va_G} {q : Nat → Nat} {cA : Nat → ClassId} (x1 x2 : Int) (σ : np_S) : np_Mi gA l D np_cl (np_ty cA) (nc_wd q cA) yy_String_indexOf2 (.code yy_String_indexOf2 prog_19_method_80_code 3 (some .int) :: np_al) { frames := 2, cells := 0, slots := 0, locals := 48 } [.ref (gA 1), .int (np_i x1), .int (np_i x2)] σ (f_String_indexOf2_k1 x1 x2 σ) :=
  np_mki (by decide +kernel) (Nat.le_of_ble_eq_true rfl) (fun o p e R s m args below meth c Q A ls hf C hQ hat hl => w_f_String_indexOf2_k1 C hQ x1 x2 σ _ _ _ hf hat (lv_sub hl [0, 1, 2] rfl))
set_option maxHeartbeats 4000000 in
set_option maxRecDepth 100000 in
theorem w_f_String_indexOf_k1 (C : np_Cx gA p R s m args c D np_cl (np_ty cA) A np_al "java/lang/String" prog_19_method_79_code 2 { frames := 3, cells := 0, slots := 0, locals := 70 }) (hQ : ∀ (pc : Nat) (ls : Array Slot) (H : Heap) (locs : List Loc) (v : Int) {σ : np_S}, decode prog_19_method_79_code pc = .ok (.ireturn, 1) → some (v, σ) = some out → np_At D np_cl A (nc_wd q cA) s σ H locs → W p l e R s m args below meth c H locs 0 0 Q (F0 m pc ls [.int (np_i v)]))   : ∀ (x1 : Int) (σ : np_S) (H : Heap) (locs : List Loc) (ls : Array Slot), f_String_indexOf_k1  x1 σ = some out → np_At D np_cl A (nc_wd q cA) s σ H locs → lv_has ls 2 [(0, .ref (gA 1)), (1, .int (np_i x1))] → W p l e R s m args below meth c H locs 0 0 Q (F0 m 0 ls []) := by
  intro x1 σ H locs ls hf hat hl
  unfold f_String_indexOf_k1 at hf
  refine lv_aload_n C.x C.b dd_String_indexOf_0 rfl (lv_at hl 0 rfl) ?_
  refine lv_iload_n C.x C.b dd_String_indexOf_1 rfl (lv_at hl 1 rfl) ?_
  refine lv_iconst (v := np_i 0) C.x C.b dd_String_indexOf_2 rfl ?_
  refine np_callVi (As := [.int (np_i x1), .int (np_i 0)]) (rest := []) C (c_String_indexOf2_k1 l x1 0 _) np_allgood tw_265 tw_266 tw_267 tw_15 tw_268 (nA := 2) (by decide +kernel) rfl ⟨rfl, rfl, Nat.le_of_ble_eq_true rfl, Nat.le_of_ble_eq_true rfl⟩ (vk_recv C.en.1 (i := 1) (by decide) hat.2.2) hat rfl hl.1 (Nat.le_of_ble_eq_true rfl) dd_String_indexOf_3 hf (fun o1 H locs hf hat => ?_)
  exact hQ _ _ _ _ _ dd_String_indexOf_6 hf hat
set_option maxHeartbeats 4000000 in
set_option maxRecDepth 100000 in
theorem c_String_indexOf_k1 (l : Launch) {gA : Nat → Nat} {D : va_G} {q : Nat → Nat} {cA : Nat → ClassId} (x1 : Int) (σ : np_S) : np_Mi gA l D np_cl (np_ty cA) (nc_wd q cA) yy_String_indexOf (.code yy_String_indexOf prog_19_method_79_code 2 (some .int) :: np_al) { frames := 3, cells := 0, slots := 0, locals := 70 } [.ref (gA 1), .int (np_i x1)] σ (f_String_indexOf_k1 x1 σ) :=
  np_mki (by decide +kernel) (Nat.le_of_ble_eq_true rfl) (fun o p e R s m args below meth c Q A ls hf C hQ hat hl => w_f_String_indexOf_k1 C hQ x1 σ _ _ _ hf hat (lv_sub hl [0, 1] rfl))
set_option maxHeartbeats 4000000 in
set_option maxRecDepth 100000 in
theorem w_f_Spelling_kindOf_12 (C : np_Cx gA p R s m args c D np_cl (np_ty cA) A np_al "NotationParse$Spelling" prog_5_method_2_code 1 { frames := 4, cells := 0, slots := 0, locals := 91 }) (hQ : ∀ (pc : Nat) (ls : Array Slot) (H : Heap) (locs : List Loc) (v : Int) {σ : np_S}, decode prog_5_method_2_code pc = .ok (.ireturn, 1) → some (v, σ) = some out → np_At D np_cl A (nc_wd q cA) s σ H locs → W p l e R s m args below meth c H locs 0 0 Q (F0 m pc ls [.int (np_i v)]))   : ∀ (σ : np_S) (H : Heap) (locs : List Loc) (ls : Array Slot), f_Spelling_kindOf_12  σ = some out → np_At D np_cl A (nc_wd q cA) s σ H locs → lv_has ls 1 [] → W p l e R s m args below meth c H locs 0 0 Q (F0 m 12 ls []) := by
  intro σ H locs ls hf hat hl
  unfold f_Spelling_kindOf_12 at hf
  refine lv_iconst (v := np_i 1) C.x C.b dd_Spelling_kindOf_12 rfl ?_
  exact hQ _ _ _ _ _ dd_Spelling_kindOf_13 hf hat
set_option maxHeartbeats 4000000 in
set_option maxRecDepth 100000 in
theorem w_f_Spelling_kindOf_81 (C : np_Cx gA p R s m args c D np_cl (np_ty cA) A np_al "NotationParse$Spelling" prog_5_method_2_code 1 { frames := 4, cells := 0, slots := 0, locals := 91 }) (hQ : ∀ (pc : Nat) (ls : Array Slot) (H : Heap) (locs : List Loc) (v : Int) {σ : np_S}, decode prog_5_method_2_code pc = .ok (.ireturn, 1) → some (v, σ) = some out → np_At D np_cl A (nc_wd q cA) s σ H locs → W p l e R s m args below meth c H locs 0 0 Q (F0 m pc ls [.int (np_i v)]))   : ∀ (t0 : Int) (σ : np_S) (H : Heap) (locs : List Loc) (ls : Array Slot), f_Spelling_kindOf_81  t0 σ = some out → np_At D np_cl A (nc_wd q cA) s σ H locs → lv_has ls 1 [] → W p l e R s m args below meth c H locs 0 0 Q (F0 m 81 ls [.int (np_i t0)]) := by
  intro t0 σ H locs ls hf hat hl
  unfold f_Spelling_kindOf_81 at hf
  exact hQ _ _ _ _ _ dd_Spelling_kindOf_81 hf hat
set_option maxHeartbeats 4000000 in
set_option maxRecDepth 100000 in
theorem w_f_Spelling_kindOf_54 (C : np_Cx gA p R s m args c D np_cl (np_ty cA) A np_al "NotationParse$Spelling" prog_5_method_2_code 1 { frames := 4, cells := 0, slots := 0, locals := 91 }) (hQ : ∀ (pc : Nat) (ls : Array Slot) (H : Heap) (locs : List Loc) (v : Int) {σ : np_S}, decode prog_5_method_2_code pc = .ok (.ireturn, 1) → some (v, σ) = some out → np_At D np_cl A (nc_wd q cA) s σ H locs → W p l e R s m args below meth c H locs 0 0 Q (F0 m pc ls [.int (np_i v)]))   : ∀ (x0 : Int) (σ : np_S) (H : Heap) (locs : List Loc) (ls : Array Slot), f_Spelling_kindOf_54  x0 σ = some out → np_At D np_cl A (nc_wd q cA) s σ H locs → lv_has ls 1 [(0, .int (np_i x0))] → W p l e R s m args below meth c H locs 0 0 Q (F0 m 54 ls []) := by
  intro x0 σ H locs ls hf hat hl
  unfold f_Spelling_kindOf_54 at hf
  refine va_ldcS C.x C.b C.o C.en.2.1 dd_Spelling_kindOf_54 ?_
  refine lv_iload_n C.x C.b dd_Spelling_kindOf_56 rfl (lv_at hl 0 rfl) ?_
  refine np_i2c C dd_Spelling_kindOf_57 ?_
  refine np_callVi (As := [.int (np_i (x0 % 65536))]) (rest := []) C (c_String_indexOf_k0 l (x0 % 65536) _) np_allgood tw_261 tw_262 tw_263 tw_15 tw_264 (nA := 1) (by decide +kernel) rfl ⟨rfl, rfl, Nat.le_of_ble_eq_true rfl, Nat.le_of_ble_eq_true rfl⟩ (vk_recv C.en.1 (i := 0) (by decide) hat.2.2) hat rfl hl.1 (Nat.le_of_ble_eq_true rfl) dd_Spelling_kindOf_58 hf (fun o1 H locs hf hat => ?_)
  refine np_if_lt (tgt := 66) C dd_Spelling_kindOf_61 (by decide) hf (fun _ hf => ?_) (fun _ hf => ?_)
  · refine va_ldcS C.x C.b C.o C.en.2.2.1 dd_Spelling_kindOf_66 ?_
    refine lv_iload_n C.x C.b dd_Spelling_kindOf_68 rfl (lv_at hl 0 rfl) ?_
    refine np_i2c C dd_Spelling_kindOf_69 ?_
    refine np_callVi (As := [.int (np_i (x0 % 65536))]) (rest := []) C (c_String_indexOf_k1 l (x0 % 65536) _) np_allgood tw_261 tw_262 tw_263 tw_15 tw_264 (nA := 1) (by decide +kernel) rfl ⟨rfl, rfl, Nat.le_of_ble_eq_true rfl, Nat.le_of_ble_eq_true rfl⟩ (vk_recv C.en.1 (i := 1) (by decide) hat.2.2) hat rfl hl.1 (Nat.le_of_ble_eq_true rfl) dd_Spelling_kindOf_70 hf (fun o2 H locs hf hat => ?_)
    refine np_if_lt (tgt := 80) C dd_Spelling_kindOf_73 (by decide) hf (fun _ hf => ?_) (fun _ hf => ?_)
    · refine lv_iconst (v := np_i 0) C.x C.b dd_Spelling_kindOf_80 rfl ?_
      exact w_f_Spelling_kindOf_81 C hQ  _ _ _ _ _ hf hat (lv_sub hl [] rfl)
    · refine lv_iconst (v := np_i 5) C.x C.b dd_Spelling_kindOf_76 rfl ?_
      refine lv_goto (tgt := 81) C.x C.b dd_Spelling_kindOf_77 (by decide) ?_
      exact w_f_Spelling_kindOf_81 C hQ  _ _ _ _ _ hf hat (lv_sub hl [] rfl)
  · refine lv_iconst (v := np_i 4) C.x C.b dd_Spelling_kindOf_64 rfl ?_
    exact hQ _ _ _ _ _ dd_Spelling_kindOf_65 hf hat
set_option maxHeartbeats 4000000 in
set_option maxRecDepth 100000 in
theorem w_f_Spelling_kindOf_40 (C : np_Cx gA p R s m args c D np_cl (np_ty cA) A np_al "NotationParse$Spelling" prog_5_method_2_code 1 { frames := 4, cells := 0, slots := 0, locals := 91 }) (hQ : ∀ (pc : Nat) (ls : Array Slot) (H : Heap) (locs : List Loc) (v : Int) {σ : np_S}, decode prog_5_method_2_code pc = .ok (.ireturn, 1) → some (v, σ) = some out → np_At D np_cl A (nc_wd q cA) s σ H locs → W p l e R s m args below meth c H locs 0 0 Q (F0 m pc ls [.int (np_i v)]))   : ∀ (x0 : Int) (σ : np_S) (H : Heap) (locs : List Loc) (ls : Array Slot), f_Spelling_kindOf_40  x0 σ = some out → np_At D np_cl A (nc_wd q cA) s σ H locs → lv_has ls 1 [(0, .int (np_i x0))] → W p l e R s m args below meth c H locs 0 0 Q (F0 m 40 ls []) := by
  intro x0 σ H locs ls hf hat hl
  unfold f_Spelling_kindOf_40 at hf
  refine lv_iload_n C.x C.b dd_Spelling_kindOf_40 rfl (lv_at hl 0 rfl) ?_
  refine lv_bipush (v := np_i 48) C.x C.b dd_Spelling_kindOf_41 (by decide +kernel) ?_
  refine np_icmp_lt (tgt := 54) C dd_Spelling_kindOf_43 (by decide) hf (fun _ hf => ?_) (fun _ hf => ?_)
  · exact w_f_Spelling_kindOf_54 C hQ  _ _ _ _ _ hf hat (lv_sub hl [0] rfl)
  · refine lv_iload_n C.x C.b dd_Spelling_kindOf_46 rfl (lv_at hl 0 rfl) ?_
    refine lv_bipush (v := np_i 57) C.x C.b dd_Spelling_kindOf_47 (by decide +kernel) ?_
    refine np_icmp_gt (tgt := 54) C dd_Spelling_kindOf_49 (by decide) hf (fun _ hf => ?_) (fun _ hf => ?_)
    · exact w_f_Spelling_kindOf_54 C hQ  _ _ _ _ _ hf hat (lv_sub hl [0] rfl)
    · refine lv_iconst (v := np_i 3) C.x C.b dd_Spelling_kindOf_52 rfl ?_
      exact hQ _ _ _ _ _ dd_Spelling_kindOf_53 hf hat
set_option maxHeartbeats 4000000 in
set_option maxRecDepth 100000 in
theorem w_f_Spelling_kindOf_38 (C : np_Cx gA p R s m args c D np_cl (np_ty cA) A np_al "NotationParse$Spelling" prog_5_method_2_code 1 { frames := 4, cells := 0, slots := 0, locals := 91 }) (hQ : ∀ (pc : Nat) (ls : Array Slot) (H : Heap) (locs : List Loc) (v : Int) {σ : np_S}, decode prog_5_method_2_code pc = .ok (.ireturn, 1) → some (v, σ) = some out → np_At D np_cl A (nc_wd q cA) s σ H locs → W p l e R s m args below meth c H locs 0 0 Q (F0 m pc ls [.int (np_i v)]))   : ∀ (σ : np_S) (H : Heap) (locs : List Loc) (ls : Array Slot), f_Spelling_kindOf_38  σ = some out → np_At D np_cl A (nc_wd q cA) s σ H locs → lv_has ls 1 [] → W p l e R s m args below meth c H locs 0 0 Q (F0 m 38 ls []) := by
  intro σ H locs ls hf hat hl
  unfold f_Spelling_kindOf_38 at hf
  refine lv_iconst (v := np_i 2) C.x C.b dd_Spelling_kindOf_38 rfl ?_
  exact hQ _ _ _ _ _ dd_Spelling_kindOf_39 hf hat
set_option maxHeartbeats 4000000 in
set_option maxRecDepth 100000 in
theorem w_f_Spelling_kindOf_26 (C : np_Cx gA p R s m args c D np_cl (np_ty cA) A np_al "NotationParse$Spelling" prog_5_method_2_code 1 { frames := 4, cells := 0, slots := 0, locals := 91 }) (hQ : ∀ (pc : Nat) (ls : Array Slot) (H : Heap) (locs : List Loc) (v : Int) {σ : np_S}, decode prog_5_method_2_code pc = .ok (.ireturn, 1) → some (v, σ) = some out → np_At D np_cl A (nc_wd q cA) s σ H locs → W p l e R s m args below meth c H locs 0 0 Q (F0 m pc ls [.int (np_i v)]))   : ∀ (x0 : Int) (σ : np_S) (H : Heap) (locs : List Loc) (ls : Array Slot), f_Spelling_kindOf_26  x0 σ = some out → np_At D np_cl A (nc_wd q cA) s σ H locs → lv_has ls 1 [(0, .int (np_i x0))] → W p l e R s m args below meth c H locs 0 0 Q (F0 m 26 ls []) := by
  intro x0 σ H locs ls hf hat hl
  unfold f_Spelling_kindOf_26 at hf
  refine lv_iload_n C.x C.b dd_Spelling_kindOf_26 rfl (lv_at hl 0 rfl) ?_
  refine lv_bipush (v := np_i 65) C.x C.b dd_Spelling_kindOf_27 (by decide +kernel) ?_
  refine np_icmp_lt (tgt := 40) C dd_Spelling_kindOf_29 (by decide) hf (fun _ hf => ?_) (fun _ hf => ?_)
  · exact w_f_Spelling_kindOf_40 C hQ  _ _ _ _ _ hf hat (lv_sub hl [0] rfl)
  · refine lv_iload_n C.x C.b dd_Spelling_kindOf_32 rfl (lv_at hl 0 rfl) ?_
    refine lv_bipush (v := np_i 90) C.x C.b dd_Spelling_kindOf_33 (by decide +kernel) ?_
    refine np_icmp_gt (tgt := 40) C dd_Spelling_kindOf_35 (by decide) hf (fun _ hf => ?_) (fun _ hf => ?_)
    · exact w_f_Spelling_kindOf_40 C hQ  _ _ _ _ _ hf hat (lv_sub hl [0] rfl)
    · exact w_f_Spelling_kindOf_38 C hQ   _ _ _ _ hf hat (lv_sub hl [] rfl)
set_option maxHeartbeats 4000000 in
set_option maxRecDepth 100000 in
theorem w_f_Spelling_kindOf (C : np_Cx gA p R s m args c D np_cl (np_ty cA) A np_al "NotationParse$Spelling" prog_5_method_2_code 1 { frames := 4, cells := 0, slots := 0, locals := 91 }) (hQ : ∀ (pc : Nat) (ls : Array Slot) (H : Heap) (locs : List Loc) (v : Int) {σ : np_S}, decode prog_5_method_2_code pc = .ok (.ireturn, 1) → some (v, σ) = some out → np_At D np_cl A (nc_wd q cA) s σ H locs → W p l e R s m args below meth c H locs 0 0 Q (F0 m pc ls [.int (np_i v)]))   : ∀ (x0 : Int) (σ : np_S) (H : Heap) (locs : List Loc) (ls : Array Slot), f_Spelling_kindOf  x0 σ = some out → np_At D np_cl A (nc_wd q cA) s σ H locs → lv_has ls 1 [(0, .int (np_i x0))] → W p l e R s m args below meth c H locs 0 0 Q (F0 m 0 ls []) := by
  intro x0 σ H locs ls hf hat hl
  unfold f_Spelling_kindOf at hf
  refine lv_iload_n C.x C.b dd_Spelling_kindOf_0 rfl (lv_at hl 0 rfl) ?_
  refine lv_bipush (v := np_i 32) C.x C.b dd_Spelling_kindOf_1 (by decide +kernel) ?_
  refine np_icmp_eq (tgt := 12) C dd_Spelling_kindOf_3 (by decide) hf (fun _ hf => ?_) (fun _ hf => ?_)
  · exact w_f_Spelling_kindOf_12 C hQ   _ _ _ _ hf hat (lv_sub hl [] rfl)
  · refine lv_iload_n C.x C.b dd_Spelling_kindOf_6 rfl (lv_at hl 0 rfl) ?_
    refine lv_bipush (v := np_i 10) C.x C.b dd_Spelling_kindOf_7 (by decide +kernel) ?_
    refine np_icmp_ne (tgt := 14) C dd_Spelling_kindOf_9 (by decide) hf (fun _ hf => ?_) (fun _ hf => ?_)
    · refine lv_iload_n C.x C.b dd_Spelling_kindOf_14 rfl (lv_at hl 0 rfl) ?_
      refine lv_bipush (v := np_i 97) C.x C.b dd_Spelling_kindOf_15 (by decide +kernel) ?_
      refine np_icmp_lt (tgt := 26) C dd_Spelling_kindOf_17 (by decide) hf (fun _ hf => ?_) (fun _ hf => ?_)
      · exact w_f_Spelling_kindOf_26 C hQ  _ _ _ _ _ hf hat (lv_sub hl [0] rfl)
      · refine lv_iload_n C.x C.b dd_Spelling_kindOf_20 rfl (lv_at hl 0 rfl) ?_
        refine lv_bipush (v := np_i 122) C.x C.b dd_Spelling_kindOf_21 (by decide +kernel) ?_
        refine np_icmp_le (tgt := 38) C dd_Spelling_kindOf_23 (by decide) hf (fun _ hf => ?_) (fun _ hf => ?_)
        · exact w_f_Spelling_kindOf_38 C hQ   _ _ _ _ hf hat (lv_sub hl [] rfl)
        · exact w_f_Spelling_kindOf_26 C hQ  _ _ _ _ _ hf hat (lv_sub hl [0] rfl)
    · exact w_f_Spelling_kindOf_12 C hQ   _ _ _ _ hf hat (lv_sub hl [] rfl)
set_option maxHeartbeats 4000000 in
set_option maxRecDepth 100000 in
theorem c_Spelling_kindOf (l : Launch) {gA : Nat → Nat} {D : va_G} {q : Nat → Nat} {cA : Nat → ClassId} (x0 : Int) (σ : np_S) : np_Mi gA l D np_cl (np_ty cA) (nc_wd q cA) yy_Spelling_kindOf (.code yy_Spelling_kindOf prog_5_method_2_code 1 (some .int) :: np_al) { frames := 4, cells := 0, slots := 0, locals := 91 } [.int (np_i x0)] σ (f_Spelling_kindOf x0 σ) :=
  np_mki (by decide +kernel) (Nat.le_of_ble_eq_true rfl) (fun o p e R s m args below meth c Q A ls hf C hQ hat hl => w_f_Spelling_kindOf C hQ x0 σ _ _ _ hf hat (lv_sub hl [0] rfl))
set_option maxHeartbeats 4000000 in
set_option maxRecDepth 100000 in
theorem w_f_Spelling_isSpelled_11 (C : np_Cx gA p R s m args c D np_cl (np_ty cA) A np_al "NotationParse$Spelling" prog_5_method_5_code 5 { frames := 5, cells := 0, slots := 0, locals := 111 }) (hQ : ∀ (pc : Nat) (ls : Array Slot) (H : Heap) (locs : List Loc) (v : Int) {σ : np_S}, decode prog_5_method_5_code pc = .ok (.ireturn, 1) → np_ck (v = 0 ∨ v = 1) (some (v, σ)) = some out → np_At D np_cl A (nc_wd q cA) s σ H locs → W p l e R s m args below meth c H locs 0 0 Q (F0 m pc ls [.int (np_i v)]))   : ∀ (σ : np_S) (H : Heap) (locs : List Loc) (ls : Array Slot), f_Spelling_isSpelled_11  σ = some out → np_At D np_cl A (nc_wd q cA) s σ H locs → lv_has ls 5 [] → W p l e R s m args below meth c H locs 0 0 Q (F0 m 11 ls []) := by
  intro σ H locs ls hf hat hl
  unfold f_Spelling_isSpelled_11 at hf
  refine lv_iconst (v := np_i 0) C.x C.b dd_Spelling_isSpelled_11 rfl ?_
  exact hQ _ _ _ _ _ dd_Spelling_isSpelled_12 hf hat
set_option maxHeartbeats 4000000 in
set_option maxRecDepth 100000 in
theorem w_f_Spelling_isSpelled_41 (C : np_Cx gA p R s m args c D np_cl (np_ty cA) A np_al "NotationParse$Spelling" prog_5_method_5_code 5 { frames := 5, cells := 0, slots := 0, locals := 111 }) (hQ : ∀ (pc : Nat) (ls : Array Slot) (H : Heap) (locs : List Loc) (v : Int) {σ : np_S}, decode prog_5_method_5_code pc = .ok (.ireturn, 1) → np_ck (v = 0 ∨ v = 1) (some (v, σ)) = some out → np_At D np_cl A (nc_wd q cA) s σ H locs → W p l e R s m args below meth c H locs 0 0 Q (F0 m pc ls [.int (np_i v)]))   : ∀ (σ : np_S) (H : Heap) (locs : List Loc) (ls : Array Slot), f_Spelling_isSpelled_41  σ = some out → np_At D np_cl A (nc_wd q cA) s σ H locs → lv_has ls 5 [] → W p l e R s m args below meth c H locs 0 0 Q (F0 m 41 ls []) := by
  intro σ H locs ls hf hat hl
  unfold f_Spelling_isSpelled_41 at hf
  refine lv_iconst (v := np_i 0) C.x C.b dd_Spelling_isSpelled_41 rfl ?_
  exact hQ _ _ _ _ _ dd_Spelling_isSpelled_42 hf hat
set_option maxHeartbeats 4000000 in
set_option maxRecDepth 100000 in
theorem w_f_Spelling_isSpelled_46 (C : np_Cx gA p R s m args c D np_cl (np_ty cA) A np_al "NotationParse$Spelling" prog_5_method_5_code 5 { frames := 5, cells := 0, slots := 0, locals := 111 }) (hQ : ∀ (pc : Nat) (ls : Array Slot) (H : Heap) (locs : List Loc) (v : Int) {σ : np_S}, decode prog_5_method_5_code pc = .ok (.ireturn, 1) → np_ck (v = 0 ∨ v = 1) (some (v, σ)) = some out → np_At D np_cl A (nc_wd q cA) s σ H locs → W p l e R s m args below meth c H locs 0 0 Q (F0 m pc ls [.int (np_i v)]))   : ∀ (n : Nat), ∀ (x0 x2 x3 x4 : Int) (σ : np_S) (H : Heap) (locs : List Loc) (ls : Array Slot), f_Spelling_isSpelled_46  n x0 x2 x3 x4 σ = some out → np_At D np_cl A (nc_wd q cA) s σ H locs → lv_has ls 5 [(0, .long (np_l x0)), (2, .int (np_i x2)), (3, .int (np_i x3)), (4, .int (np_i x4))] → W p l e R s m args below meth c H locs 0 0 Q (F0 m 46 ls []) := by
  intro n
  induction n with
  | zero => intro x0 x2 x3 x4 σ H locs ls hf; cases hf
  | succ n ih =>
    intro x0 x2 x3 x4 σ H locs ls hf hat hl
    have h46 := ih
    have hf : f_Spelling_isSpelled_46_b  (fun x0 x2 x3 x4 σ => f_Spelling_isSpelled_46  n x0 x2 x3 x4 σ) x0 x2 x3 x4 σ = some out := hf
    unfold f_Spelling_isSpelled_46_b at hf
    refine lv_iload C.x C.b dd_Spelling_isSpelled_46 (lv_at hl 3 rfl) ?_
    refine lv_iload_n C.x C.b dd_Spelling_isSpelled_48 rfl (lv_at hl 1 rfl) ?_
    refine np_icmp_ge (tgt := 73) C dd_Spelling_isSpelled_49 (by decide) hf (fun _ hf => ?_) (fun _ hf => ?_)
    · refine lv_iconst (v := np_i 1) C.x C.b dd_Spelling_isSpelled_73 rfl ?_
      exact hQ _ _ _ _ _ dd_Spelling_isSpelled_74 hf hat
    · refine lv_lload_n C.x C.b dd_Spelling_isSpelled_52 rfl (lv_at hl 0 rfl) ?_
      refine lv_iload C.x C.b dd_Spelling_isSpelled_53 (lv_at hl 3 rfl) ?_
      refine np_callSi (As := [.long (np_l x0), .int (np_i x4)]) (rest := []) C (c_Spelling_byteOf l x0 x4 _) np_allgood tw_256 tw_235 tw_14 tw_236 (nA := 2) (by decide +kernel) rfl ⟨rfl, rfl, Nat.le_of_ble_eq_true rfl, Nat.le_of_ble_eq_true rfl⟩ hat rfl hl.1 (Nat.le_of_ble_eq_true rfl) dd_Spelling_isSpelled_55 hf (fun o1 H locs hf hat => ?_)
      refine np_callSi (As := [.int (np_i o1.1)]) (rest := []) C (c_Spelling_kindOf l o1.1 _) np_allgood tw_257 tw_258 tw_14 tw_259 (nA := 1) (by decide +kernel) rfl ⟨rfl, rfl, Nat.le_of_ble_eq_true rfl, Nat.le_of_ble_eq_true rfl⟩ hat rfl hl.1 (Nat.le_of_ble_eq_true rfl) dd_Spelling_isSpelled_58 hf (fun o2 H locs hf hat => ?_)
      refine lv_iload_n C.x C.b dd_Spelling_isSpelled_61 rfl (lv_at hl 2 rfl) ?_
      refine np_icmp_eq (tgt := 67) C dd_Spelling_isSpelled_62 (by decide) hf (fun _ hf => ?_) (fun _ hf => ?_)
      · refine lv_iinc (v := np_i (x4 + 1)) (lv' := [(4, .int (np_i (x4 + 1))), (0, .long (np_l x0)), (2, .int (np_i x2)), (3, .int (np_i x3))]) C.x C.b dd_Spelling_isSpelled_67 hl (k := 3) rfl (np_inc _ _) (by decide) rfl (fun ls hl => ?_)
        refine lv_goto (tgt := 46) C.x C.b dd_Spelling_isSpelled_70 (by decide) ?_
        exact h46 _ _ _ _ _ _ _ _ hf hat (lv_sub hl [1, 2, 3, 0] rfl)
      · refine lv_iconst (v := np_i 0) C.x C.b dd_Spelling_isSpelled_65 rfl ?_
        exact hQ _ _ _ _ _ dd_Spelling_isSpelled_66 hf hat
set_option maxHeartbeats 4000000 in
set_option maxRecDepth 100000 in
theorem w_f_Spelling_isSpelled_43 (C : np_Cx gA p R s m args c D np_cl (np_ty cA) A np_al "NotationParse$Spelling" prog_5_method_5_code 5 { frames := 5, cells := 0, slots := 0, locals := 111 }) (hQ : ∀ (pc : Nat) (ls : Array Slot) (H : Heap) (locs : List Loc) (v : Int) {σ : np_S}, decode prog_5_method_5_code pc = .ok (.ireturn, 1) → np_ck (v = 0 ∨ v = 1) (some (v, σ)) = some out → np_At D np_cl A (nc_wd q cA) s σ H locs → W p l e R s m args below meth c H locs 0 0 Q (F0 m pc ls [.int (np_i v)]))   : ∀ (x0 x2 x3 : Int) (σ : np_S) (H : Heap) (locs : List Loc) (ls : Array Slot), f_Spelling_isSpelled_43  x0 x2 x3 σ = some out → np_At D np_cl A (nc_wd q cA) s σ H locs → lv_has ls 5 [(0, .long (np_l x0)), (2, .int (np_i x2)), (3, .int (np_i x3))] → W p l e R s m args below meth c H locs 0 0 Q (F0 m 43 ls []) := by
  intro x0 x2 x3 σ H locs ls hf hat hl
  unfold f_Spelling_isSpelled_43 at hf
  refine lv_iconst (v := np_i 1) C.x C.b dd_Spelling_isSpelled_43 rfl ?_
  refine lv_istore (lv' := [(4, .int (np_i 1)), (0, .long (np_l x0)), (2, .int (np_i x2)), (3, .int (np_i x3))]) C.x C.b dd_Spelling_isSpelled_44 hl (by decide) rfl (fun ls hl => ?_)
  exact w_f_Spelling_isSpelled_46 C hQ  20000 _ _ _ _ _ _ _ _ hf hat (lv_sub hl [1, 2, 3, 0] rfl)
set_option maxHeartbeats 4000000 in
set_option maxRecDepth 100000 in
theorem w_f_Spelling_isSpelled (C : np_Cx gA p R s m args c D np_cl (np_ty cA) A np_al "NotationParse$Spelling" prog_5_method_5_code 5 { frames := 5, cells := 0, slots := 0, locals := 111 }) (hQ : ∀ (pc : Nat) (ls : Array Slot) (H : Heap) (locs : List Loc) (v : Int) {σ : np_S}, decode prog_5_method_5_code pc = .ok (.ireturn, 1) → np_ck (v = 0 ∨ v = 1) (some (v, σ)) = some out → np_At D np_cl A (nc_wd q cA) s σ H locs → W p l e R s m args below meth c H locs 0 0 Q (F0 m pc ls [.int (np_i v)]))   : ∀ (x0 x2 : Int) (σ : np_S) (H : Heap) (locs : List Loc) (ls : Array Slot), f_Spelling_isSpelled  x0 x2 σ = some out → np_At D np_cl A (nc_wd q cA) s σ H locs → lv_has ls 5 [(0, .long (np_l x0)), (2, .int (np_i x2))] → W p l e R s m args below meth c H locs 0 0 Q (F0 m 0 ls []) := by
  intro x0 x2 σ H locs ls hf hat hl
  unfold f_Spelling_isSpelled at hf
  refine lv_iload_n C.x C.b dd_Spelling_isSpelled_0 rfl (lv_at hl 1 rfl) ?_
  refine lv_iconst (v := np_i 1) C.x C.b dd_Spelling_isSpelled_1 rfl ?_
  refine np_icmp_lt (tgt := 11) C dd_Spelling_isSpelled_2 (by decide) hf (fun _ hf => ?_) (fun _ hf => ?_)
  · exact w_f_Spelling_isSpelled_11 C hQ   _ _ _ _ hf hat (lv_sub hl [] rfl)
  · refine lv_iload_n C.x C.b dd_Spelling_isSpelled_5 rfl (lv_at hl 1 rfl) ?_
    refine lv_bipush (v := np_i 8) C.x C.b dd_Spelling_isSpelled_6 (by decide +kernel) ?_
    refine np_icmp_le (tgt := 13) C dd_Spelling_isSpelled_8 (by decide) hf (fun _ hf => ?_) (fun _ hf => ?_)
    · refine lv_lload_n C.x C.b dd_Spelling_isSpelled_13 rfl (lv_at hl 0 rfl) ?_
      refine lv_iconst (v := np_i 0) C.x C.b dd_Spelling_isSpelled_14 rfl ?_
      refine np_callSi (As := [.long (np_l x0), .int (np_i 0)]) (rest := []) C (c_Spelling_byteOf l x0 0 _) np_allgood tw_256 tw_235 tw_14 tw_236 (nA := 2) (by decide +kernel) rfl ⟨rfl, rfl, Nat.le_of_ble_eq_true rfl, Nat.le_of_ble_eq_true rfl⟩ hat rfl hl.1 (Nat.le_of_ble_eq_true rfl) dd_Spelling_isSpelled_15 hf (fun o3 H locs hf hat => ?_)
      refine np_callSi (As := [.int (np_i o3.1)]) (rest := []) C (c_Spelling_kindOf l o3.1 _) np_allgood tw_257 tw_258 tw_14 tw_259 (nA := 1) (by decide +kernel) rfl ⟨rfl, rfl, Nat.le_of_ble_eq_true rfl, Nat.le_of_ble_eq_true rfl⟩ hat rfl hl.1 (Nat.le_of_ble_eq_true rfl) dd_Spelling_isSpelled_18 hf (fun o4 H locs hf hat => ?_)
      refine lv_istore_n (lv' := [(3, .int (np_i o4.1)), (0, .long (np_l x0)), (2, .int (np_i x2))]) C.x C.b dd_Spelling_isSpelled_21 rfl hl (by decide) rfl (fun ls hl => ?_)
      refine lv_iload_n C.x C.b dd_Spelling_isSpelled_22 rfl (lv_at hl 0 rfl) ?_
      refine np_if_eq (tgt := 41) C dd_Spelling_isSpelled_23 (by decide) hf (fun _ hf => ?_) (fun _ hf => ?_)
      · exact w_f_Spelling_isSpelled_41 C hQ   _ _ _ _ hf hat (lv_sub hl [] rfl)
      · refine lv_iload_n C.x C.b dd_Spelling_isSpelled_26 rfl (lv_at hl 0 rfl) ?_
        refine lv_iconst (v := np_i 1) C.x C.b dd_Spelling_isSpelled_27 rfl ?_
        refine np_icmp_eq (tgt := 41) C dd_Spelling_isSpelled_28 (by decide) hf (fun _ hf => ?_) (fun _ hf => ?_)
        · exact w_f_Spelling_isSpelled_41 C hQ   _ _ _ _ hf hat (lv_sub hl [] rfl)
        · refine lv_iload_n C.x C.b dd_Spelling_isSpelled_31 rfl (lv_at hl 0 rfl) ?_
          refine lv_iconst (v := np_i 5) C.x C.b dd_Spelling_isSpelled_32 rfl ?_
          refine np_icmp_ne (tgt := 43) C dd_Spelling_isSpelled_33 (by decide) hf (fun _ hf => ?_) (fun _ hf => ?_)
          · exact w_f_Spelling_isSpelled_43 C hQ  _ _ _ _ _ _ _ hf hat (lv_sub hl [1, 2, 0] rfl)
          · refine lv_iload_n C.x C.b dd_Spelling_isSpelled_36 rfl (lv_at hl 2 rfl) ?_
            refine lv_iconst (v := np_i 1) C.x C.b dd_Spelling_isSpelled_37 rfl ?_
            refine np_icmp_le (tgt := 43) C dd_Spelling_isSpelled_38 (by decide) hf (fun _ hf => ?_) (fun _ hf => ?_)
            · exact w_f_Spelling_isSpelled_43 C hQ  _ _ _ _ _ _ _ hf hat (lv_sub hl [1, 2, 0] rfl)
            · exact w_f_Spelling_isSpelled_41 C hQ   _ _ _ _ hf hat (lv_sub hl [] rfl)
    · exact w_f_Spelling_isSpelled_11 C hQ   _ _ _ _ hf hat (lv_sub hl [] rfl)
set_option maxHeartbeats 4000000 in
set_option maxRecDepth 100000 in
theorem c_Spelling_isSpelled (l : Launch) {gA : Nat → Nat} {D : va_G} {q : Nat → Nat} {cA : Nat → ClassId} (x0 x2 : Int) (σ : np_S) : np_Mi gA l D np_cl (np_ty cA) (nc_wd q cA) yy_Spelling_isSpelled (.code yy_Spelling_isSpelled prog_5_method_5_code 5 (some .boolean) :: np_al) { frames := 5, cells := 0, slots := 0, locals := 111 } [.long (np_l x0), .int (np_i x2)] σ (f_Spelling_isSpelled x0 x2 σ) :=
  np_mkz (by decide +kernel) (Nat.le_of_ble_eq_true rfl) (fun o p e R s m args below meth c Q A ls hf C hQ hat hl => w_f_Spelling_isSpelled C hQ x0 x2 σ _ _ _ hf hat (lv_sub hl [0, 1] rfl))
set_option maxHeartbeats 4000000 in
set_option maxRecDepth 100000 in
theorem w_f_Spelling_lowBytes_20 (C : np_Cx gA p R s m args c D np_cl (np_ty cA) A np_al "NotationParse$Spelling" prog_5_method_4_code 3 { frames := 0, cells := 0, slots := 0, locals := 0 }) (hQ : ∀ (pc : Nat) (ls : Array Slot) (H : Heap) (locs : List Loc) (v : Int) {σ : np_S}, decode prog_5_method_4_code pc = .ok (.lreturn, 1) → some (v, σ) = some out → np_At D np_cl A (nc_wd q cA) s σ H locs → W p l e R s m args below meth c H locs 0 0 Q (F0 m pc ls [.long (np_l v)]))   : ∀ (t0 : Int) (σ : np_S) (H : Heap) (locs : List Loc) (ls : Array Slot), f_Spelling_lowBytes_20  t0 σ = some out → np_At D np_cl A (nc_wd q cA) s σ H locs → lv_has ls 3 [] → W p l e R s m args below meth c H locs 0 0 Q (F0 m 20 ls [.long (np_l t0)]) := by
  intro t0 σ H locs ls hf hat hl
  unfold f_Spelling_lowBytes_20 at hf
  exact hQ _ _ _ _ _ dd_Spelling_lowBytes_20 hf hat
set_option maxHeartbeats 4000000 in
set_option maxRecDepth 100000 in
theorem w_f_Spelling_lowBytes (C : np_Cx gA p R s m args c D np_cl (np_ty cA) A np_al "NotationParse$Spelling" prog_5_method_4_code 3 { frames := 0, cells := 0, slots := 0, locals := 0 }) (hQ : ∀ (pc : Nat) (ls : Array Slot) (H : Heap) (locs : List Loc) (v : Int) {σ : np_S}, decode prog_5_method_4_code pc = .ok (.lreturn, 1) → some (v, σ) = some out → np_At D np_cl A (nc_wd q cA) s σ H locs → W p l e R s m args below meth c H locs 0 0 Q (F0 m pc ls [.long (np_l v)]))   : ∀ (x0 x2 : Int) (σ : np_S) (H : Heap) (locs : List Loc) (ls : Array Slot), f_Spelling_lowBytes  x0 x2 σ = some out → np_At D np_cl A (nc_wd q cA) s σ H locs → lv_has ls 3 [(0, .long (np_l x0)), (2, .int (np_i x2))] → W p l e R s m args below meth c H locs 0 0 Q (F0 m 0 ls []) := by
  intro x0 x2 σ H locs ls hf hat hl
  unfold f_Spelling_lowBytes at hf
  refine lv_iload_n C.x C.b dd_Spelling_lowBytes_0 rfl (lv_at hl 1 rfl) ?_
  refine lv_bipush (v := np_i 8) C.x C.b dd_Spelling_lowBytes_1 (by decide +kernel) ?_
  refine np_icmp_lt (tgt := 10) C dd_Spelling_lowBytes_3 (by decide) hf (fun _ hf => ?_) (fun _ hf => ?_)
  · refine lv_lload_n C.x C.b dd_Spelling_lowBytes_10 rfl (lv_at hl 0 rfl) ?_
    refine lv_lconst (v := np_l 1) C.x C.b dd_Spelling_lowBytes_11 (by decide +kernel) ?_
    refine lv_bipush (v := np_i 8) C.x C.b dd_Spelling_lowBytes_12 (by decide +kernel) ?_
    refine lv_iload_n C.x C.b dd_Spelling_lowBytes_14 rfl (lv_at hl 1 rfl) ?_
    refine np_imul C dd_Spelling_lowBytes_15 ?_
    refine np_lshl C dd_Spelling_lowBytes_16 ?_
    refine lv_lconst (v := np_l 1) C.x C.b dd_Spelling_lowBytes_17 (by decide +kernel) ?_
    refine np_lsub C dd_Spelling_lowBytes_18 ?_
    refine np_land C dd_Spelling_lowBytes_19 ?_
    exact w_f_Spelling_lowBytes_20 C hQ  _ _ _ _ _ hf hat (lv_sub hl [] rfl)
  · refine lv_lload_n C.x C.b dd_Spelling_lowBytes_6 rfl (lv_at hl 0 rfl) ?_
    refine lv_goto (tgt := 20) C.x C.b dd_Spelling_lowBytes_7 (by decide) ?_
    exact w_f_Spelling_lowBytes_20 C hQ  _ _ _ _ _ hf hat (lv_sub hl [] rfl)
set_option maxHeartbeats 4000000 in
set_option maxRecDepth 100000 in
theorem c_Spelling_lowBytes (l : Launch) {gA : Nat → Nat} {D : va_G} {q : Nat → Nat} {cA : Nat → ClassId} (x0 x2 : Int) (σ : np_S) : np_Ml gA l D np_cl (np_ty cA) (nc_wd q cA) yy_Spelling_lowBytes (.code yy_Spelling_lowBytes prog_5_method_4_code 3 (some .long) :: np_al) { frames := 0, cells := 0, slots := 0, locals := 0 } [.long (np_l x0), .int (np_i x2)] σ (f_Spelling_lowBytes x0 x2 σ) :=
  np_mkl (by decide +kernel) (Nat.le_of_ble_eq_true rfl) (fun o p e R s m args below meth c Q A ls hf C hQ hat hl => w_f_Spelling_lowBytes C hQ x0 x2 σ _ _ _ hf hat (lv_sub hl [0, 1] rfl))
end NW0
