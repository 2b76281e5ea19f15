def f_Arrays_fill3_ng_1_5_b  (k5 : (Int → Int → Int → np_S → Option np_O)) (x1 x2 x3 : Int) (σ : np_S) : Option np_O := np_ck (np_R x2 ∧ np_R x3) (if x3 ≤ x2 then (some (0, σ)) else (np_ck ((0 : Int) ≤ x2 ∧ x2 < 105) (k5 x1 (x2 + 1) x3 (np_st σ 1 x2 x1))))
def f_Arrays_fill3_ng_1_5  : Nat → Int → Int → Int → np_S → Option np_O
  | 0, _, _, _, _ => none
  | n + 1, x1, x2, x3, σ => f_Arrays_fill3_ng_1_5_b  (fun x1 x2 x3 σ => f_Arrays_fill3_ng_1_5  n x1 x2 x3 σ) x1 x2 x3 σ
def f_Arrays_fill3_ng_1  (x1 : Int) (σ : np_S) : Option np_O := f_Arrays_fill3_ng_1_5 20000 x1 0 105 σ
def f_Arrays_fill4_ng_2_6_b  (k6 : (Int → Int → Int → np_S → Option np_O)) (x1 x3 x4 : Int) (σ : np_S) : Option np_O := np_ck (np_R x3 ∧ np_R x4) (if x4 ≤ x3 then (some (0, σ)) else (np_ck ((0 : Int) ≤ x3 ∧ x3 < 105) (k6 x1 (x3 + 1) x4 (np_st σ 2 x3 x1))))
def f_Arrays_fill4_ng_2_6  : Nat → Int → Int → Int → np_S → Option np_O
  | 0, _, _, _, _ => none
  | n + 1, x1, x3, x4, σ => f_Arrays_fill4_ng_2_6_b  (fun x1 x3 x4 σ => f_Arrays_fill4_ng_2_6  n x1 x3 x4 σ) x1 x3 x4 σ
def f_Arrays_fill4_ng_2  (x1 : Int) (σ : np_S) : Option np_O := f_Arrays_fill4_ng_2_6 20000 x1 0 105 σ
def f_Gib  (σ : np_S) : Option np_O := (f_Arrays_fill3_ng_1 ((-1)) σ).bind (fun o1 => (f_Arrays_fill4_ng_2 ((-1)) o1.2).bind (fun o2 => np_ck ((0 : Int) ≤ 0 ∧ (0 : Int) < 105) (np_ck ((0 : Int) ≤ 1 ∧ (1 : Int) < 105) (np_ck ((0 : Int) ≤ 2 ∧ (2 : Int) < 105) (np_ck ((0 : Int) ≤ 0 ∧ (0 : Int) < 14) (np_ck ((0 : Int) ≤ 0 ∧ (0 : Int) < 14) (np_ck ((0 : Int) ≤ 7 ∧ (7 : Int) < 105) (np_ck ((0 : Int) ≤ 1 ∧ (1 : Int) < 14) (np_ck ((0 : Int) ≤ 1 ∧ (1 : Int) < 14) (some (0, (np_st (np_st (np_st (np_st (np_st (np_st (np_st (np_st o2.2 2 0 40) 1 1 0) 2 2 41) 4 0 3) 3 0 10) 2 7 0) 4 1 1) 3 1 10))))))))))))
section NWG
variable {p : Program} {l : Launch} {e : Env} {R : Room} {s : State} {m : MethodId} {args : Array Value} {below : List Frame} {meth : Method} {c : Code} {Q : State → Prop} {D : va_G} {A : Nat → Prop} {q : Nat → Nat} {cA : Nat → ClassId} {out : np_O} {gA : Nat → Nat}
set_option maxHeartbeats 4000000 in
set_option maxRecDepth 100000 in
theorem w_f_Arrays_fill3_ng_1_5 (C : np_Cx gA p R s m args c D np_cl (np_ty cA) A np_al "java/util/Arrays" prog_25_method_103_code 4 { frames := 0, cells := 0, slots := 0, locals := 0 }) (hQ : ∀ (pc : Nat) (ls : Array Slot) (H : Heap) (locs : List Loc) {σ : np_S}, decode prog_25_method_103_code pc = .ok (.return_, 1) → some ((0 : Int), σ) = some out → np_At D np_cl A (ng_wd q cA) s σ H locs → W p l e R s m args below meth c H locs 0 0 Q (F0 m pc ls []))   : ∀ (n : Nat), ∀ (x1 x2 x3 : Int) (σ : np_S) (H : Heap) (locs : List Loc) (ls : Array Slot), f_Arrays_fill3_ng_1_5  n x1 x2 x3 σ = some out → np_At D np_cl A (ng_wd q cA) s σ H locs → lv_has ls 4 [(0, .ref (q 1)), (1, .int (np_i x1)), (2, .int (np_i x2)), (3, .int (np_i x3))] → W p l e R s m args below meth c H locs 0 0 Q (F0 m 5 ls []) := by
  intro n
  induction n with
  | zero => intro x1 x2 x3 σ H locs ls hf; cases hf
  | succ n ih =>
    intro x1 x2 x3 σ H locs ls hf hat hl
    have h5 := ih
    have hf : f_Arrays_fill3_ng_1_5_b  (fun x1 x2 x3 σ => f_Arrays_fill3_ng_1_5  n x1 x2 x3 σ) x1 x2 x3 σ = some out := hf
    unfold f_Arrays_fill3_ng_1_5_b at hf
    refine lv_iload_n C.x C.b dd_Arrays_fill3_5 rfl (lv_at hl 2 rfl) ?_
    refine lv_iload_n C.x C.b dd_Arrays_fill3_6 rfl (lv_at hl 3 rfl) ?_
    refine np_icmp_ge (tgt := 20) C dd_Arrays_fill3_7 (by decide) hf (fun _ hf => ?_) (fun _ hf => ?_)
    · exact hQ _ _ _ _ dd_Arrays_fill3_20 hf hat
    · refine lv_aload_n C.x C.b dd_Arrays_fill3_10 rfl (lv_at hl 0 rfl) ?_
      refine lv_iload_n C.x C.b dd_Arrays_fill3_11 rfl (lv_at hl 2 rfl) ?_
      refine lv_iload_n C.x C.b dd_Arrays_fill3_12 rfl (lv_at hl 1 rfl) ?_
      refine np_iastore C hat 1 (ng_a1 _) 0 rfl (by decide) (ng_s1 _ _ _) dd_Arrays_fill3_13 hf (fun H locs hat hf => ?_)
      refine lv_iinc (v := np_i (x2 + 1)) (lv' := [(2, .int (np_i (x2 + 1))), (0, .ref (q 1)), (1, .int (np_i x1)), (3, .int (np_i x3))]) C.x C.b dd_Arrays_fill3_14 hl (k := 2) rfl (np_inc _ _) (by decide) rfl (fun ls hl => ?_)
      refine lv_goto (tgt := 5) C.x C.b dd_Arrays_fill3_17 (by decide) ?_
      exact h5 _ _ _ _ _ _ _ hf hat (lv_sub hl [1, 2, 0, 3] rfl)
set_option maxHeartbeats 4000000 in
set_option maxRecDepth 100000 in
theorem w_f_Arrays_fill3_ng_1 (C : np_Cx gA p R s m args c D np_cl (np_ty cA) A np_al "java/util/Arrays" prog_25_method_103_code 4 { frames := 0, cells := 0, slots := 0, locals := 0 }) (hQ : ∀ (pc : Nat) (ls : Array Slot) (H : Heap) (locs : List Loc) {σ : np_S}, decode prog_25_method_103_code pc = .ok (.return_, 1) → some ((0 : Int), σ) = some out → np_At D np_cl A (ng_wd q cA) s σ H locs → W p l e R s m args below meth c H locs 0 0 Q (F0 m pc ls []))   : ∀ (x1 : Int) (σ : np_S) (H : Heap) (locs : List Loc) (ls : Array Slot), f_Arrays_fill3_ng_1  x1 σ = some out → np_At D np_cl A (ng_wd q cA) s σ H locs → lv_has ls 4 [(0, .ref (q 1)), (1, .int (np_i x1))] → W p l e R s m args below meth c H locs 0 0 Q (F0 m 0 ls []) := by
  intro x1 σ H locs ls hf hat hl
  unfold f_Arrays_fill3_ng_1 at hf
  refine lv_iconst (v := np_i 0) C.x C.b dd_Arrays_fill3_0 rfl ?_
  refine lv_istore_n (lv' := [(2, .int (np_i 0)), (0, .ref (q 1)), (1, .int (np_i x1))]) C.x C.b dd_Arrays_fill3_1 rfl hl (by decide) rfl (fun ls hl => ?_)
  refine lv_aload_n C.x C.b dd_Arrays_fill3_2 rfl (lv_at hl 1 rfl) ?_
  refine np_alen (n := 105) C hat.1 1 (ng_a1 _) 0 rfl (show Int32.ofNat 105 = np_i 105 by decide +kernel) dd_Arrays_fill3_3 ?_
  refine lv_istore_n (lv' := [(3, .int (np_i 105)), (2, .int (np_i 0)), (0, .ref (q 1)), (1, .int (np_i x1))]) C.x C.b dd_Arrays_fill3_4 rfl hl (by decide) rfl (fun ls hl => ?_)
  exact w_f_Arrays_fill3_ng_1_5 C hQ  20000 _ _ _ _ _ _ _ hf hat (lv_sub hl [2, 3, 1, 0] rfl)
set_option maxHeartbeats 4000000 in
set_option maxRecDepth 100000 in
theorem c_Arrays_fill3_ng_1 (l : Launch) {gA : Nat → Nat} {D : va_G} {q : Nat → Nat} {cA : Nat → ClassId} (x1 : Int) (σ : np_S) : np_Mv gA l D np_cl (np_ty cA) (ng_wd q cA) yy_Arrays_fill3 (.code yy_Arrays_fill3 prog_25_method_103_code 4 none :: np_al) { frames := 0, cells := 0, slots := 0, locals := 0 } [.ref (q 1), .int (np_i x1)] σ (f_Arrays_fill3_ng_1 x1 σ) :=
  np_mkv (by decide +kernel) (Nat.le_of_ble_eq_true rfl) (fun o p e R s m args below meth c Q A ls hf C hQ hat hl => w_f_Arrays_fill3_ng_1 C hQ x1 σ _ _ _ hf hat (lv_sub hl [0, 1] rfl))
set_option maxHeartbeats 4000000 in
set_option maxRecDepth 100000 in
theorem w_f_Arrays_fill4_ng_2_6 (C : np_Cx gA p R s m args c D np_cl (np_ty cA) A np_al "java/util/Arrays" prog_25_method_101_code 5 { frames := 0, cells := 0, slots := 0, locals := 0 }) (hQ : ∀ (pc : Nat) (ls : Array Slot) (H : Heap) (locs : List Loc) {σ : np_S}, decode prog_25_method_101_code pc = .ok (.return_, 1) → some ((0 : Int), σ) = some out → np_At D np_cl A (ng_wd q cA) s σ H locs → W p l e R s m args below meth c H locs 0 0 Q (F0 m pc ls []))   : ∀ (n : Nat), ∀ (x1 x3 x4 : Int) (σ : np_S) (H : Heap) (locs : List Loc) (ls : Array Slot), f_Arrays_fill4_ng_2_6  n x1 x3 x4 σ = some out → np_At D np_cl A (ng_wd q cA) s σ H locs → lv_has ls 5 [(0, .ref (q 2)), (1, .long (np_l x1)), (3, .int (np_i x3)), (4, .int (np_i x4))] → W p l e R s m args below meth c H locs 0 0 Q (F0 m 6 ls []) := by
  intro n
  induction n with
  | zero => intro x1 x3 x4 σ H locs ls hf; cases hf
  | succ n ih =>
    intro x1 x3 x4 σ H locs ls hf hat hl
    have h6 := ih
    have hf : f_Arrays_fill4_ng_2_6_b  (fun x1 x3 x4 σ => f_Arrays_fill4_ng_2_6  n x1 x3 x4 σ) x1 x3 x4 σ = some out := hf
    unfold f_Arrays_fill4_ng_2_6_b at hf
    refine lv_iload_n C.x C.b dd_Arrays_fill4_6 rfl (lv_at hl 2 rfl) ?_
    refine lv_iload C.x C.b dd_Arrays_fill4_7 (lv_at hl 3 rfl) ?_
    refine np_icmp_ge (tgt := 22) C dd_Arrays_fill4_9 (by decide) hf (fun _ hf => ?_) (fun _ hf => ?_)
    · exact hQ _ _ _ _ dd_Arrays_fill4_22 hf hat
    · refine lv_aload_n C.x C.b dd_Arrays_fill4_12 rfl (lv_at hl 0 rfl) ?_
      refine lv_iload_n C.x C.b dd_Arrays_fill4_13 rfl (lv_at hl 2 rfl) ?_
      refine lv_lload_n C.x C.b dd_Arrays_fill4_14 rfl (lv_at hl 1 rfl) ?_
      refine np_lastore C hat 2 (ng_a2 _) 1 rfl (by decide) (ng_s2 _ _ _) dd_Arrays_fill4_15 hf (fun H locs hat hf => ?_)
      refine lv_iinc (v := np_i (x3 + 1)) (lv' := [(3, .int (np_i (x3 + 1))), (0, .ref (q 2)), (1, .long (np_l x1)), (4, .int (np_i x4))]) C.x C.b dd_Arrays_fill4_16 hl (k := 2) rfl (np_inc _ _) (by decide) rfl (fun ls hl => ?_)
      refine lv_goto (tgt := 6) C.x C.b dd_Arrays_fill4_19 (by decide) ?_
      exact h6 _ _ _ _ _ _ _ hf hat (lv_sub hl [1, 2, 0, 3] rfl)
set_option maxHeartbeats 4000000 in
set_option maxRecDepth 100000 in
theorem w_f_Arrays_fill4_ng_2 (C : np_Cx gA p R s m args c D np_cl (np_ty cA) A np_al "java/util/Arrays" prog_25_method_101_code 5 { frames := 0, cells := 0, slots := 0, locals := 0 }) (hQ : ∀ (pc : Nat) (ls : Array Slot) (H : Heap) (locs : List Loc) {σ : np_S}, decode prog_25_method_101_code pc = .ok (.return_, 1) → some ((0 : Int), σ) = some out → np_At D np_cl A (ng_wd q cA) s σ H locs → W p l e R s m args below meth c H locs 0 0 Q (F0 m pc ls []))   : ∀ (x1 : Int) (σ : np_S) (H : Heap) (locs : List Loc) (ls : Array Slot), f_Arrays_fill4_ng_2  x1 σ = some out → np_At D np_cl A (ng_wd q cA) s σ H locs → lv_has ls 5 [(0, .ref (q 2)), (1, .long (np_l x1))] → W p l e R s m args below meth c H locs 0 0 Q (F0 m 0 ls []) := by
  intro x1 σ H locs ls hf hat hl
  unfold f_Arrays_fill4_ng_2 at hf
  refine lv_iconst (v := np_i 0) C.x C.b dd_Arrays_fill4_0 rfl ?_
  refine lv_istore_n (lv' := [(3, .int (np_i 0)), (0, .ref (q 2)), (1, .long (np_l x1))]) C.x C.b dd_Arrays_fill4_1 rfl hl (by decide) rfl (fun ls hl => ?_)
  refine lv_aload_n C.x C.b dd_Arrays_fill4_2 rfl (lv_at hl 1 rfl) ?_
  refine np_alen (n := 105) C hat.1 2 (ng_a2 _) 1 rfl (show Int32.ofNat 105 = np_i 105 by decide +kernel) dd_Arrays_fill4_3 ?_
  refine lv_istore (lv' := [(4, .int (np_i 105)), (3, .int (np_i 0)), (0, .ref (q 2)), (1, .long (np_l x1))]) C.x C.b dd_Arrays_fill4_4 hl (by decide) rfl (fun ls hl => ?_)
  exact w_f_Arrays_fill4_ng_2_6 C hQ  20000 _ _ _ _ _ _ _ hf hat (lv_sub hl [2, 3, 1, 0] rfl)
set_option maxHeartbeats 4000000 in
set_option maxRecDepth 100000 in
theorem c_Arrays_fill4_ng_2 (l : Launch) {gA : Nat → Nat} {D : va_G} {q : Nat → Nat} {cA : Nat → ClassId} (x1 : Int) (σ : np_S) : np_Mv gA l D np_cl (np_ty cA) (ng_wd q cA) yy_Arrays_fill4 (.code yy_Arrays_fill4 prog_25_method_101_code 5 none :: np_al) { frames := 0, cells := 0, slots := 0, locals := 0 } [.ref (q 2), .long (np_l x1)] σ (f_Arrays_fill4_ng_2 x1 σ) :=
  np_mkv (by decide +kernel) (Nat.le_of_ble_eq_true rfl) (fun o p e R s m args below meth c Q A ls hf C hQ hat hl => w_f_Arrays_fill4_ng_2 C hQ x1 σ _ _ _ hf hat (lv_sub hl [0, 1] rfl))
set_option maxHeartbeats 4000000 in
set_option maxRecDepth 100000 in
theorem w_f_Gib (C : np_Cx gA p R s m args c D np_cl (np_ty cA) A np_al "NotationParse$Grammar" prog_3_method_1_code 1 { frames := 1, cells := 4, slots := 238, locals := 24 }) (hQ : ∀ (pc : Nat) (ls : Array Slot) (H : Heap) (locs : List Loc) {σ : np_S}, decode prog_3_method_1_code pc = .ok (.return_, 1) → some ((0 : Int), σ) = some out → np_At D np_cl A (ng_wd q cA) s σ H locs → W p l e R s m args below meth c H locs 4 238 Q (F0 m pc ls []))   : ∀ (σ : np_S) (H : Heap) (locs : List Loc) (ls : Array Slot), f_Gib  σ = some out → np_At D np_cl A (ng_wd q cA) s σ H locs → lv_has ls 1 [(0, .ref (q 0))] → W p l e R s m args below meth c H locs 4 238 Q (F0 m 46 ls []) := by
  intro σ H locs ls hf hat hl
  unfold f_Gib at hf
  refine lv_aload_n C.x C.b dd_Grammar_init_46 rfl (lv_at hl 0 rfl) ?_
  refine np_get (v := .ref (q 1)) C i_Grammar hat.1 0 (ng_o0 _) rfl 0 (by decide) tw_50 rfl rfl dd_Grammar_init_47 ?_
  refine lv_iconst (v := np_i (-1)) C.x C.b dd_Grammar_init_50 rfl ?_
  refine np_gcallSv (As := [.ref (q 1), .int (np_i ((-1)))]) (rest := []) C (c_Arrays_fill3_ng_1 l ((-1)) _) np_allgood tw_41 tw_42 tw_3 tw_43 (nA := 2) (by decide +kernel) rfl ⟨rfl, rfl, Nat.le_of_ble_eq_true rfl, Nat.le_of_ble_eq_true rfl⟩ hat rfl hl.1 (by rw [C.r]; exact ⟨Nat.le_of_ble_eq_true rfl, Nat.le_of_ble_eq_true rfl⟩) (Nat.le_of_ble_eq_true rfl) dd_Grammar_init_51 hf (fun o1 H locs hf hat => ?_)
  refine lv_aload_n C.x C.b dd_Grammar_init_54 rfl (lv_at hl 0 rfl) ?_
  refine np_get (v := .ref (q 2)) C i_Grammar hat.1 0 (ng_o0 _) rfl 1 (by decide) tw_53 rfl rfl dd_Grammar_init_55 ?_
  refine np_ldc2 (v := (-1)) C tw_44 dd_Grammar_init_58 ?_
  refine np_gcallSv (As := [.ref (q 2), .long (np_l ((-1)))]) (rest := []) C (c_Arrays_fill4_ng_2 l ((-1)) _) np_allgood tw_45 tw_46 tw_3 tw_47 (nA := 2) (by decide +kernel) rfl ⟨rfl, rfl, Nat.le_of_ble_eq_true rfl, Nat.le_of_ble_eq_true rfl⟩ hat rfl hl.1 (by rw [C.r]; exact ⟨Nat.le_of_ble_eq_true rfl, Nat.le_of_ble_eq_true rfl⟩) (Nat.le_of_ble_eq_true rfl) dd_Grammar_init_61 hf (fun o2 H locs hf hat => ?_)
  refine lv_aload_n C.x C.b dd_Grammar_init_64 rfl (lv_at hl 0 rfl) ?_
  refine np_get (v := .ref (q 2)) C i_Grammar hat.1 0 (ng_o0 _) rfl 1 (by decide) tw_53 rfl rfl dd_Grammar_init_65 ?_
  refine lv_iconst (v := np_i 0) C.x C.b dd_Grammar_init_68 rfl ?_
  refine np_ldc2 (v := 40) C tw_48 dd_Grammar_init_69 ?_
  refine np_lastore C hat 2 (ng_a2 _) 1 rfl (by decide) (ng_s2 _ _ _) dd_Grammar_init_72 hf (fun H locs hat hf => ?_)
  refine lv_aload_n C.x C.b dd_Grammar_init_73 rfl (lv_at hl 0 rfl) ?_
  refine np_get (v := .ref (q 1)) C i_Grammar hat.1 0 (ng_o0 _) rfl 0 (by decide) tw_50 rfl rfl dd_Grammar_init_74 ?_
  refine lv_iconst (v := np_i 1) C.x C.b dd_Grammar_init_77 rfl ?_
  refine lv_iconst (v := np_i 0) C.x C.b dd_Grammar_init_78 rfl ?_
  refine np_iastore C hat 1 (ng_a1 _) 0 rfl (by decide) (ng_s1 _ _ _) dd_Grammar_init_79 hf (fun H locs hat hf => ?_)
  refine lv_aload_n C.x C.b dd_Grammar_init_80 rfl (lv_at hl 0 rfl) ?_
  refine np_get (v := .ref (q 2)) C i_Grammar hat.1 0 (ng_o0 _) rfl 1 (by decide) tw_53 rfl rfl dd_Grammar_init_81 ?_
  refine lv_iconst (v := np_i 2) C.x C.b dd_Grammar_init_84 rfl ?_
  refine np_ldc2 (v := 41) C tw_49 dd_Grammar_init_85 ?_
  refine np_lastore C hat 2 (ng_a2 _) 1 rfl (by decide) (ng_s2 _ _ _) dd_Grammar_init_88 hf (fun H locs hat hf => ?_)
  refine lv_aload_n C.x C.b dd_Grammar_init_89 rfl (lv_at hl 0 rfl) ?_
  refine np_get (v := .ref (q 4)) C i_Grammar hat.1 0 (ng_o0 _) rfl 3 (by decide) tw_58 rfl rfl dd_Grammar_init_90 ?_
  refine lv_iconst (v := np_i 0) C.x C.b dd_Grammar_init_93 rfl ?_
  refine lv_iconst (v := np_i 3) C.x C.b dd_Grammar_init_94 rfl ?_
  refine np_iastore C hat 4 (ng_a4 _) 0 rfl (by decide) (ng_s4 _ _ _) dd_Grammar_init_95 hf (fun H locs hat hf => ?_)
  refine lv_aload_n C.x C.b dd_Grammar_init_96 rfl (lv_at hl 0 rfl) ?_
  refine np_get (v := .ref (q 3)) C i_Grammar hat.1 0 (ng_o0 _) rfl 2 (by decide) tw_55 rfl rfl dd_Grammar_init_97 ?_
  refine lv_iconst (v := np_i 0) C.x C.b dd_Grammar_init_100 rfl ?_
  refine lv_bipush (v := np_i 10) C.x C.b dd_Grammar_init_101 (by decide +kernel) ?_
  refine np_iastore C hat 3 (ng_a3 _) 0 rfl (by decide) (ng_s3 _ _ _) dd_Grammar_init_103 hf (fun H locs hat hf => ?_)
  refine lv_aload_n C.x C.b dd_Grammar_init_104 rfl (lv_at hl 0 rfl) ?_
  refine np_get (v := .ref (q 2)) C i_Grammar hat.1 0 (ng_o0 _) rfl 1 (by decide) tw_53 rfl rfl dd_Grammar_init_105 ?_
  refine lv_bipush (v := np_i 7) C.x C.b dd_Grammar_init_108 (by decide +kernel) ?_
  refine lv_lconst (v := np_l 0) C.x C.b dd_Grammar_init_110 (by decide +kernel) ?_
  refine np_lastore C hat 2 (ng_a2 _) 1 rfl (by decide) (ng_s2 _ _ _) dd_Grammar_init_111 hf (fun H locs hat hf => ?_)
  refine lv_aload_n C.x C.b dd_Grammar_init_112 rfl (lv_at hl 0 rfl) ?_
  refine np_get (v := .ref (q 4)) C i_Grammar hat.1 0 (ng_o0 _) rfl 3 (by decide) tw_58 rfl rfl dd_Grammar_init_113 ?_
  refine lv_iconst (v := np_i 1) C.x C.b dd_Grammar_init_116 rfl ?_
  refine lv_iconst (v := np_i 1) C.x C.b dd_Grammar_init_117 rfl ?_
  refine np_iastore C hat 4 (ng_a4 _) 0 rfl (by decide) (ng_s4 _ _ _) dd_Grammar_init_118 hf (fun H locs hat hf => ?_)
  refine lv_aload_n C.x C.b dd_Grammar_init_119 rfl (lv_at hl 0 rfl) ?_
  refine np_get (v := .ref (q 3)) C i_Grammar hat.1 0 (ng_o0 _) rfl 2 (by decide) tw_55 rfl rfl dd_Grammar_init_120 ?_
  refine lv_iconst (v := np_i 1) C.x C.b dd_Grammar_init_123 rfl ?_
  refine lv_bipush (v := np_i 10) C.x C.b dd_Grammar_init_124 (by decide +kernel) ?_
  refine np_iastore C hat 3 (ng_a3 _) 0 rfl (by decide) (ng_s3 _ _ _) dd_Grammar_init_126 hf (fun H locs hat hf => ?_)
  exact hQ _ _ _ _ dd_Grammar_init_127 hf hat
end NWG
set_option maxHeartbeats 4000000 in
set_option maxRecDepth 100000 in
theorem c_Grammar_init (l : Launch) {gA : Nat → Nat} {D : va_G} {cA : Nat → ClassId} {oG : np_O} (hG : f_Gib (np_st (fun _ _ => 0) 0 4 2) = some oG) (h0 : Nat) (sz : Nat) : Met l yy_Grammar_init (.code yy_Grammar_init prog_3_method_1_code 1 none :: np_al) { frames := 1, cells := 4, slots := 238, locals := 24 } (va_Pc [.ref h0] (np_PreC gA D np_cl (np_ty cA) [(h0, .inr (1, [.null, .null, .null, .null, .int (np_i 0), .int (np_i 0)]))] sz)) (va_Qv (fun u : Nat → Nat => u 0 = h0) (np_BC D np_cl (np_ty cA) (va_A [(h0, .inr (1, [.null, .null, .null, .null, .int (np_i 0), .int (np_i 0)]))] sz) (fun u => ng_wd u cA oG.2)) (va_A [(h0, .inr (1, [.null, .null, .null, .null, .int (np_i 0), .int (np_i 0)]))] sz)) 4 238 (va_A [(h0, .inr (1, [.null, .null, .null, .null, .int (np_i 0), .int (np_i 0)]))] sz) := by
  refine np_mkc (by decide +kernel) (Nat.le_of_ble_eq_true rfl) (fun p e R s m args below meth c Q A ls C hin hQ hP hD hS hl => ?_) sz
  have hl : lv_has ls 1 [(0, .ref h0)] := hl
  refine lv_aload_n C.x C.b dd_Grammar_init_0 rfl (lv_at hl 0 rfl) ?_
  refine np_oinit C tw_40 tw_33 tw_34 hl.1 (Nat.le_of_ble_eq_true rfl) (Nat.le_of_ble_eq_true rfl) dd_Grammar_init_1 ?_
  refine lv_aload_n C.x C.b dd_Grammar_init_4 rfl (lv_at hl 0 rfl) ?_
  refine lv_bipush (v := np_i 105) C.x C.b dd_Grammar_init_5 (by decide +kernel) ?_
  refine np_newa (N := 105) (a0 := (105, .inl (fun _ => np_i 0))) C tw_77 rfl 0 rfl np_raI hP hD hS (fun _ => rfl) rfl (by decide) (by decide +kernel) (Nat.le_of_ble_eq_true rfl) (Nat.le_of_ble_eq_true rfl) dd_Grammar_init_7 (fun a1 H hP hD hS => ?_)
  have hP : va_P D np_cl [(h0, .inr (1, [.null, .null, .null, .null, .int (np_i 0), .int (np_i 0)])), (a1, .inl (cA 0, 105, .inl (fun _ => np_i 0)))] H := hP
  have hD : va_D A [(h0, .inr (1, [.null, .null, .null, .null, .int (np_i 0), .int (np_i 0)])), (a1, .inl (cA 0, 105, .inl (fun _ => np_i 0)))] := hD
  refine np_putF (v := .ref a1) (ty := (.array .int)) (ws2 := [(h0, .inr (1, [.ref a1, .null, .null, .null, .int (np_i 0), .int (np_i 0)])), (a1, .inl (cA 0, 105, .inl (fun _ => np_i 0)))]) C i_Grammar t_Grammar tok_Grammar n_Grammar hP hD hS 0 rfl rfl 0 (by decide) tw_50 rfl rfl hin rfl (by decide +kernel) rfl rfl (Nat.le_of_ble_eq_true rfl) rfl dd_Grammar_init_9 (fun H locs hP hD hS => ?_)
  refine lv_aload_n C.x C.b dd_Grammar_init_12 rfl (lv_at hl 0 rfl) ?_
  refine lv_bipush (v := np_i 105) C.x C.b dd_Grammar_init_13 (by decide +kernel) ?_
  refine np_newa (N := 105) (a0 := (105, .inr (.inl (fun _ => np_l 0)))) C tw_78 rfl 1 rfl np_raL hP hD hS (fun _ => rfl) rfl (by decide) (by decide +kernel) (Nat.le_of_ble_eq_true rfl) (Nat.le_of_ble_eq_true rfl) dd_Grammar_init_15 (fun a2 H hP hD hS => ?_)
  have hP : va_P D np_cl [(h0, .inr (1, [.ref a1, .null, .null, .null, .int (np_i 0), .int (np_i 0)])), (a1, .inl (cA 0, 105, .inl (fun _ => np_i 0))), (a2, .inl (cA 1, 105, .inr (.inl (fun _ => np_l 0))))] H := hP
  have hD : va_D A [(h0, .inr (1, [.ref a1, .null, .null, .null, .int (np_i 0), .int (np_i 0)])), (a1, .inl (cA 0, 105, .inl (fun _ => np_i 0))), (a2, .inl (cA 1, 105, .inr (.inl (fun _ => np_l 0))))] := hD
  refine np_putF (v := .ref a2) (ty := (.array .long)) (ws2 := [(h0, .inr (1, [.ref a1, .ref a2, .null, .null, .int (np_i 0), .int (np_i 0)])), (a1, .inl (cA 0, 105, .inl (fun _ => np_i 0))), (a2, .inl (cA 1, 105, .inr (.inl (fun _ => np_l 0))))]) C i_Grammar t_Grammar tok_Grammar n_Grammar hP hD hS 0 rfl rfl 1 (by decide) tw_53 rfl rfl hin rfl (by decide +kernel) rfl rfl (Nat.le_of_ble_eq_true rfl) rfl dd_Grammar_init_17 (fun H locs hP hD hS => ?_)
  refine lv_aload_n C.x C.b dd_Grammar_init_20 rfl (lv_at hl 0 rfl) ?_
  refine lv_bipush (v := np_i 14) C.x C.b dd_Grammar_init_21 (by decide +kernel) ?_
  refine np_newa (N := 14) (a0 := (14, .inl (fun _ => np_i 0))) C tw_77 rfl 0 rfl np_raI hP hD hS (fun _ => rfl) rfl (by decide) (by decide +kernel) (Nat.le_of_ble_eq_true rfl) (Nat.le_of_ble_eq_true rfl) dd_Grammar_init_23 (fun a3 H hP hD hS => ?_)
  have hP : va_P D np_cl [(h0, .inr (1, [.ref a1, .ref a2, .null, .null, .int (np_i 0), .int (np_i 0)])), (a1, .inl (cA 0, 105, .inl (fun _ => np_i 0))), (a2, .inl (cA 1, 105, .inr (.inl (fun _ => np_l 0)))), (a3, .inl (cA 0, 14, .inl (fun _ => np_i 0)))] H := hP
  have hD : va_D A [(h0, .inr (1, [.ref a1, .ref a2, .null, .null, .int (np_i 0), .int (np_i 0)])), (a1, .inl (cA 0, 105, .inl (fun _ => np_i 0))), (a2, .inl (cA 1, 105, .inr (.inl (fun _ => np_l 0)))), (a3, .inl (cA 0, 14, .inl (fun _ => np_i 0)))] := hD
  refine np_putF (v := .ref a3) (ty := (.array .int)) (ws2 := [(h0, .inr (1, [.ref a1, .ref a2, .ref a3, .null, .int (np_i 0), .int (np_i 0)])), (a1, .inl (cA 0, 105, .inl (fun _ => np_i 0))), (a2, .inl (cA 1, 105, .inr (.inl (fun _ => np_l 0)))), (a3, .inl (cA 0, 14, .inl (fun _ => np_i 0)))]) C i_Grammar t_Grammar tok_Grammar n_Grammar hP hD hS 0 rfl rfl 2 (by decide) tw_55 rfl rfl hin rfl (by decide +kernel) rfl rfl (Nat.le_of_ble_eq_true rfl) rfl dd_Grammar_init_25 (fun H locs hP hD hS => ?_)
  refine lv_aload_n C.x C.b dd_Grammar_init_28 rfl (lv_at hl 0 rfl) ?_
  refine lv_bipush (v := np_i 14) C.x C.b dd_Grammar_init_29 (by decide +kernel) ?_
  refine np_newa (N := 14) (a0 := (14, .inl (fun _ => np_i 0))) C tw_77 rfl 0 rfl np_raI hP hD hS (fun _ => rfl) rfl (by decide) (by decide +kernel) (Nat.le_of_ble_eq_true rfl) (Nat.le_of_ble_eq_true rfl) dd_Grammar_init_31 (fun a4 H hP hD hS => ?_)
  have hP : va_P D np_cl [(h0, .inr (1, [.ref a1, .ref a2, .ref a3, .null, .int (np_i 0), .int (np_i 0)])), (a1, .inl (cA 0, 105, .inl (fun _ => np_i 0))), (a2, .inl (cA 1, 105, .inr (.inl (fun _ => np_l 0)))), (a3, .inl (cA 0, 14, .inl (fun _ => np_i 0))), (a4, .inl (cA 0, 14, .inl (fun _ => np_i 0)))] H := hP
  have hD : va_D A [(h0, .inr (1, [.ref a1, .ref a2, .ref a3, .null, .int (np_i 0), .int (np_i 0)])), (a1, .inl (cA 0, 105, .inl (fun _ => np_i 0))), (a2, .inl (cA 1, 105, .inr (.inl (fun _ => np_l 0)))), (a3, .inl (cA 0, 14, .inl (fun _ => np_i 0))), (a4, .inl (cA 0, 14, .inl (fun _ => np_i 0)))] := hD
  refine np_putF (v := .ref a4) (ty := (.array .int)) (ws2 := [(h0, .inr (1, [.ref a1, .ref a2, .ref a3, .ref a4, .int (np_i 0), .int (np_i 0)])), (a1, .inl (cA 0, 105, .inl (fun _ => np_i 0))), (a2, .inl (cA 1, 105, .inr (.inl (fun _ => np_l 0)))), (a3, .inl (cA 0, 14, .inl (fun _ => np_i 0))), (a4, .inl (cA 0, 14, .inl (fun _ => np_i 0)))]) C i_Grammar t_Grammar tok_Grammar n_Grammar hP hD hS 0 rfl rfl 3 (by decide) tw_58 rfl rfl hin rfl (by decide +kernel) rfl rfl (Nat.le_of_ble_eq_true rfl) rfl dd_Grammar_init_33 (fun H locs hP hD hS => ?_)
  refine lv_aload_n C.x C.b dd_Grammar_init_36 rfl (lv_at hl 0 rfl) ?_
  refine lv_iconst (v := np_i 2) C.x C.b dd_Grammar_init_37 rfl ?_
  refine np_putC (v := .int (np_i 2)) (ty := .int) (ws2 := [(h0, .inr (1, [.ref a1, .ref a2, .ref a3, .ref a4, .int (np_i 2), .int (np_i 0)])), (a1, .inl (cA 0, 105, .inl (fun _ => np_i 0))), (a2, .inl (cA 1, 105, .inr (.inl (fun _ => np_l 0)))), (a3, .inl (cA 0, 14, .inl (fun _ => np_i 0))), (a4, .inl (cA 0, 14, .inl (fun _ => np_i 0)))]) C i_Grammar t_Grammar tok_Grammar n_Grammar hP hD hS 0 rfl rfl 4 (by decide) tw_59 rfl rfl (by decide +kernel) rfl rfl (Nat.le_of_ble_eq_true rfl) rfl dd_Grammar_init_38 (fun H locs hP hD hS => ?_)
  refine lv_aload_n C.x C.b dd_Grammar_init_41 rfl (lv_at hl 0 rfl) ?_
  refine lv_iconst (v := np_i 0) C.x C.b dd_Grammar_init_42 rfl ?_
  refine np_putC (v := .int (np_i 0)) (ty := .int) (ws2 := [(h0, .inr (1, [.ref a1, .ref a2, .ref a3, .ref a4, .int (np_i 2), .int (np_i 0)])), (a1, .inl (cA 0, 105, .inl (fun _ => np_i 0))), (a2, .inl (cA 1, 105, .inr (.inl (fun _ => np_l 0)))), (a3, .inl (cA 0, 14, .inl (fun _ => np_i 0))), (a4, .inl (cA 0, 14, .inl (fun _ => np_i 0)))]) C i_Grammar t_Grammar tok_Grammar n_Grammar hP hD hS 0 rfl rfl 5 (by decide) tw_62 rfl rfl (by decide +kernel) rfl rfl (Nat.le_of_ble_eq_true rfl) rfl dd_Grammar_init_43 (fun H locs hP hD hS => ?_)
  refine w_f_Gib (q := (fun k => [h0, a1, a2, a3, a4].getD k 0)) C (fun pc ls H locs σ hdg ho hat => ?_) (np_st (fun _ _ => 0) 0 4 2) _ _ _ hG ⟨hP, hD, hS⟩ hl
  have ho := Option.some.inj ho
  subst ho
  exact hQ _ _ _ _ (fun k => [h0, a1, a2, a3, a4].getD k 0) hdg rfl hat.1 hat.2.1 hat.2.2
