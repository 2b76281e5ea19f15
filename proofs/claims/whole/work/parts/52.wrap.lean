theorem dd_L_hole_0 : decode method_3_code 0 = .ok (.aload_n 2, 1) := by decide +kernel
theorem dd_L_hole_1 : decode method_3_code 1 = .ok (.iconst 0, 1) := by decide +kernel
theorem dd_L_hole_2 : decode method_3_code 2 = .ok (.aload_n 0, 1) := by decide +kernel
theorem dd_L_hole_3 : decode method_3_code 3 = .ok (.iload_n 1, 1) := by decide +kernel
theorem dd_L_hole_4 : decode method_3_code 4 = .ok (.invokevirtual 7, 3) := by decide +kernel
theorem dd_L_hole_7 : decode method_3_code 7 = .ok (.i2l, 1) := by decide +kernel
theorem dd_L_hole_8 : decode method_3_code 8 = .ok (.lastore, 1) := by decide +kernel
theorem dd_L_hole_9 : decode method_3_code 9 = .ok (.goto 9, 3) := by decide +kernel
theorem dd_L_hole_12 : decode method_3_code 12 = .ok (.astore_n 3, 1) := by decide +kernel
theorem dd_L_hole_13 : decode method_3_code 13 = .ok (.iconst 1, 1) := by decide +kernel
theorem dd_L_hole_14 : decode method_3_code 14 = .ok (.ireturn, 1) := by decide +kernel
theorem dd_L_hole_15 : decode method_3_code 15 = .ok (.astore_n 3, 1) := by decide +kernel
theorem dd_L_hole_16 : decode method_3_code 16 = .ok (.iconst 2, 1) := by decide +kernel
theorem dd_L_hole_17 : decode method_3_code 17 = .ok (.ireturn, 1) := by decide +kernel
theorem dd_L_hole_18 : decode method_3_code 18 = .ok (.iconst 0, 1) := by decide +kernel
theorem dd_L_hole_19 : decode method_3_code 19 = .ok (.ireturn, 1) := by decide +kernel
theorem dd_L_word_0 : decode method_4_code 0 = .ok (.aload 4, 2) := by decide +kernel
theorem dd_L_word_2 : decode method_4_code 2 = .ok (.iconst 0, 1) := by decide +kernel
theorem dd_L_word_3 : decode method_4_code 3 = .ok (.aload_n 0, 1) := by decide +kernel
theorem dd_L_word_4 : decode method_4_code 4 = .ok (.lload_n 1, 1) := by decide +kernel
theorem dd_L_word_5 : decode method_4_code 5 = .ok (.iload_n 3, 1) := by decide +kernel
theorem dd_L_word_6 : decode method_4_code 6 = .ok (.invokevirtual 17, 3) := by decide +kernel
theorem dd_L_word_9 : decode method_4_code 9 = .ok (.i2l, 1) := by decide +kernel
theorem dd_L_word_10 : decode method_4_code 10 = .ok (.lastore, 1) := by decide +kernel
theorem dd_L_word_11 : decode method_4_code 11 = .ok (.goto 11, 3) := by decide +kernel
theorem dd_L_word_14 : decode method_4_code 14 = .ok (.astore 5, 2) := by decide +kernel
theorem dd_L_word_16 : decode method_4_code 16 = .ok (.iconst 1, 1) := by decide +kernel
theorem dd_L_word_17 : decode method_4_code 17 = .ok (.ireturn, 1) := by decide +kernel
theorem dd_L_word_18 : decode method_4_code 18 = .ok (.astore 5, 2) := by decide +kernel
theorem dd_L_word_20 : decode method_4_code 20 = .ok (.iconst 2, 1) := by decide +kernel
theorem dd_L_word_21 : decode method_4_code 21 = .ok (.ireturn, 1) := by decide +kernel
theorem dd_L_word_22 : decode method_4_code 22 = .ok (.iconst 0, 1) := by decide +kernel
theorem dd_L_word_23 : decode method_4_code 23 = .ok (.ireturn, 1) := by decide +kernel
theorem dd_L_notation_0 : decode method_5_code 0 = .ok (.aload_n 2, 1) := by decide +kernel
theorem dd_L_notation_1 : decode method_5_code 1 = .ok (.iconst 0, 1) := by decide +kernel
theorem dd_L_notation_2 : decode method_5_code 2 = .ok (.aload_n 0, 1) := by decide +kernel
theorem dd_L_notation_3 : decode method_5_code 3 = .ok (.iload_n 1, 1) := by decide +kernel
theorem dd_L_notation_4 : decode method_5_code 4 = .ok (.invokevirtual 21, 3) := by decide +kernel
theorem dd_L_notation_7 : decode method_5_code 7 = .ok (.i2l, 1) := by decide +kernel
theorem dd_L_notation_8 : decode method_5_code 8 = .ok (.lastore, 1) := by decide +kernel
theorem dd_L_notation_9 : decode method_5_code 9 = .ok (.goto 9, 3) := by decide +kernel
theorem dd_L_notation_12 : decode method_5_code 12 = .ok (.astore_n 3, 1) := by decide +kernel
theorem dd_L_notation_13 : decode method_5_code 13 = .ok (.iconst 1, 1) := by decide +kernel
theorem dd_L_notation_14 : decode method_5_code 14 = .ok (.ireturn, 1) := by decide +kernel
theorem dd_L_notation_15 : decode method_5_code 15 = .ok (.astore_n 3, 1) := by decide +kernel
theorem dd_L_notation_16 : decode method_5_code 16 = .ok (.iconst 2, 1) := by decide +kernel
theorem dd_L_notation_17 : decode method_5_code 17 = .ok (.ireturn, 1) := by decide +kernel
theorem dd_L_notation_18 : decode method_5_code 18 = .ok (.iconst 0, 1) := by decide +kernel
theorem dd_L_notation_19 : decode method_5_code 19 = .ok (.ireturn, 1) := by decide +kernel
theorem dd_L_read_0 : decode method_6_code 0 = .ok (.aload_n 1, 1) := by decide +kernel
theorem dd_L_read_1 : decode method_6_code 1 = .ok (.iconst 0, 1) := by decide +kernel
theorem dd_L_read_2 : decode method_6_code 2 = .ok (.aload_n 0, 1) := by decide +kernel
theorem dd_L_read_3 : decode method_6_code 3 = .ok (.invokevirtual 24, 3) := by decide +kernel
theorem dd_L_read_6 : decode method_6_code 6 = .ok (.i2l, 1) := by decide +kernel
theorem dd_L_read_7 : decode method_6_code 7 = .ok (.lastore, 1) := by decide +kernel
theorem dd_L_read_8 : decode method_6_code 8 = .ok (.goto 6, 3) := by decide +kernel
theorem dd_L_read_11 : decode method_6_code 11 = .ok (.astore_n 2, 1) := by decide +kernel
theorem dd_L_read_12 : decode method_6_code 12 = .ok (.iconst 1, 1) := by decide +kernel
theorem dd_L_read_13 : decode method_6_code 13 = .ok (.ireturn, 1) := by decide +kernel
theorem dd_L_read_14 : decode method_6_code 14 = .ok (.iconst 0, 1) := by decide +kernel
theorem dd_L_read_15 : decode method_6_code 15 = .ok (.ireturn, 1) := by decide +kernel
def f_L_hole (x1 : Int) (σ : np_S) : Option np_O := (f_N_hole x1 σ).bind (fun o1 => if o1.1 = 0 then (np_ck (np_R o1.2.1) (np_ck ((0 : Int) ≤ 0 ∧ (0 : Int) < 1) (some (0, np_st o1.2.2 28 0 o1.2.1)))) else (if o1.1 = 1 then some (1, o1.2.2) else (if o1.1 = 2 then some (2, o1.2.2) else (none))))
def f_L_word (x1 x3 : Int) (σ : np_S) : Option np_O := (f_N_word x1 x3 σ).bind (fun o1 => if o1.1 = 0 then (np_ck (np_R o1.2.1) (np_ck ((0 : Int) ≤ 0 ∧ (0 : Int) < 1) (some (0, np_st o1.2.2 28 0 o1.2.1)))) else (if o1.1 = 1 then some (1, o1.2.2) else (if o1.1 = 2 then some (2, o1.2.2) else (none))))
def f_L_notation (x1 : Int) (σ : np_S) : Option np_O := (f_N_notation x1 σ).bind (fun o1 => if o1.1 = 0 then (np_ck (np_R o1.2.1) (np_ck ((0 : Int) ≤ 0 ∧ (0 : Int) < 1) (some (0, np_st o1.2.2 28 0 o1.2.1)))) else (if o1.1 = 1 then some (1, o1.2.2) else (if o1.1 = 2 then some (2, o1.2.2) else (none))))
def f_L_read (σ : np_S) : Option np_O := (f_N_read  σ).bind (fun o1 => if o1.1 = 0 then (np_ck (np_R o1.2.1) (np_ck ((0 : Int) ≤ 0 ∧ (0 : Int) < 1) (some (0, np_st o1.2.2 28 0 o1.2.1)))) else (if o1.1 = 1 then some (1, o1.2.2) else (none)))
section NWW
set_option maxHeartbeats 4000000 in
set_option maxRecDepth 100000 in
theorem c_L_hole (l : Launch) (htr : l.stackTraces = false) {gA : Nat → Nat} {D : va_G} {q : Nat → Nat} {cA : Nat → ClassId} (x1 : Int) (σ : np_S) : np_Mi1 gA l D np_cl (np_ty cA) (nc_wd q cA) yy_L_hole (.codeWith yy_L_hole method_3_code 4 (some .int) [(0, 9, 12, 13), (0, 9, 15, 15)] :: np_al) { frames := 7, cells := 1, slots := 6, locals := 103 } [.ref (q 0), .int (np_i x1), .ref (q 28)] σ (f_L_hole x1 σ) := by
  refine np_mkw (by decide +kernel) (Nat.le_of_ble_eq_true rfl) (fun o p e R s m args below meth c Q A ls hf C hcode htab hQ hat hl => ?_)
  have hl : lv_has ls 4 [(0, .ref (q 0)), (1, .int (np_i x1)), (2, .ref (q 28))] := hl
  unfold f_L_hole at hf
  refine lv_aload_n C.x C.b dd_L_hole_0 rfl (lv_at hl 2 rfl) ?_
  refine lv_iconst (v := np_i 0) C.x C.b dd_L_hole_1 rfl ?_
  refine lv_aload_n C.x C.b dd_L_hole_2 rfl (lv_at hl 0 rfl) ?_
  refine lv_iload_n C.x C.b dd_L_hole_3 rfl (lv_at hl 1 rfl) ?_
  obtain ⟨o1, hf1, hf⟩ := Option.bind_eq_some_iff.mp hf
  by_cases h0 : o1.1 = 0
  · rw [if_pos h0] at hf
    refine np_callV1 (As := [.int (np_i x1)]) (rest := [.int (np_i 0), .ref (q 28)]) C ((c_N_hole l htr x1 _ _ o1 hf1).1 h0) np_allgood tw_368 tw_369 tw_370 tw_1 tw_371 (nA := 1) (by decide +kernel) rfl ⟨rfl, rfl, Nat.le_of_ble_eq_true rfl, Nat.le_of_ble_eq_true rfl⟩ ⟨Nat.le_of_ble_eq_true rfl, Nat.le_of_ble_eq_true rfl⟩ (va_recv C.k hat.1 (ci := 0) (q0 := 0) rfl (nc_o0 _)) hat rfl hl.1 (Nat.le_of_ble_eq_true rfl) dd_L_hole_4 (fun H locs hat => ?_)
    refine np_i2l C dd_L_hole_7 hf (fun hf => ?_)
    refine np_lastore C hat 28 (nc_a28 _) 1 rfl (by decide) (nc_s28 _ _ _) dd_L_hole_8 hf (fun H locs hat hf => ?_)
    refine lv_goto (tgt := 18) C.x C.b dd_L_hole_9 (by decide) ?_
    refine lv_iconst (v := np_i 0) C.x C.b dd_L_hole_18 rfl ?_
    exact hQ _ _ _ _ _ dd_L_hole_19 hf hat
  · rw [if_neg h0] at hf
    by_cases h1 : o1.1 = 1
    · rw [if_pos h1] at hf
      refine np_callT (hpc := 12) (As := [.int (np_i x1)]) (rest := [.int (np_i 0), .ref (q 28)]) C ((c_N_hole l htr x1 _ _ o1 hf1).2 h0) np_allgood tw_368 tw_369 tw_370 tw_1 tw_371 (nA := 1) (by decide +kernel) rfl ⟨rfl, rfl, Nat.le_of_ble_eq_true rfl, Nat.le_of_ble_eq_true rfl⟩ ⟨Nat.le_of_ble_eq_true rfl, Nat.le_of_ble_eq_true rfl⟩ (va_recv C.k hat.1 (ci := 0) (q0 := 0) rfl (nc_o0 _)) hat rfl hl.1 (Nat.le_of_ble_eq_true rfl) dd_L_hole_4 (np_hf1 C hcode (x := (⟨0, 9, 12, 13⟩ : ExceptionTableEntry)) htab (by decide) (by decide) (k := o1.1) (Xn := "java/lang/IllegalArgumentException") (by rw [h1]; rfl) tw_366 tw_373 (by decide +kernel)) (fun xe H locs hat => ?_)
      refine lv_astore_n (lv' := [(3, .ref xe), (0, .ref (q 0)), (1, .int (np_i x1)), (2, .ref (q 28))]) C.x C.b dd_L_hole_12 rfl hl (by decide) rfl (fun ls hl => ?_)
      refine lv_iconst (v := np_i 1) C.x C.b dd_L_hole_13 rfl ?_
      exact hQ _ _ _ _ _ dd_L_hole_14 hf hat
    · rw [if_neg h1] at hf
      by_cases h2 : o1.1 = 2
      · rw [if_pos h2] at hf
        refine np_callT (hpc := 15) (As := [.int (np_i x1)]) (rest := [.int (np_i 0), .ref (q 28)]) C ((c_N_hole l htr x1 _ _ o1 hf1).2 h0) np_allgood tw_368 tw_369 tw_370 tw_1 tw_371 (nA := 1) (by decide +kernel) rfl ⟨rfl, rfl, Nat.le_of_ble_eq_true rfl, Nat.le_of_ble_eq_true rfl⟩ ⟨Nat.le_of_ble_eq_true rfl, Nat.le_of_ble_eq_true rfl⟩ (va_recv C.k hat.1 (ci := 0) (q0 := 0) rfl (nc_o0 _)) hat rfl hl.1 (Nat.le_of_ble_eq_true rfl) dd_L_hole_4 (np_hf2 C hcode (x := (⟨0, 9, 12, 13⟩ : ExceptionTableEntry)) (y := (⟨0, 9, 15, 15⟩ : ExceptionTableEntry)) htab (by decide) (by decide) (by decide) (by decide) (k := o1.1) (Xn := "java/lang/IllegalArgumentException") (Yn := "java/lang/IllegalStateException") (by rw [h2]; rfl) tw_366 tw_373 tw_367 tw_445 (by decide +kernel) (by decide +kernel)) (fun xe H locs hat => ?_)
        refine lv_astore_n (lv' := [(3, .ref xe), (0, .ref (q 0)), (1, .int (np_i x1)), (2, .ref (q 28))]) C.x C.b dd_L_hole_15 rfl hl (by decide) rfl (fun ls hl => ?_)
        refine lv_iconst (v := np_i 2) C.x C.b dd_L_hole_16 rfl ?_
        exact hQ _ _ _ _ _ dd_L_hole_17 hf hat
      · rw [if_neg h2] at hf
        cases hf
set_option maxHeartbeats 4000000 in
set_option maxRecDepth 100000 in
theorem c_L_word (l : Launch) (htr : l.stackTraces = false) {gA : Nat → Nat} {D : va_G} {q : Nat → Nat} {cA : Nat → ClassId} (x1 x3 : Int) (σ : np_S) : np_Mi1 gA l D np_cl (np_ty cA) (nc_wd q cA) yy_L_word (.codeWith yy_L_word method_4_code 6 (some .int) [(0, 11, 14, 13), (0, 11, 18, 15)] :: np_al) { frames := 7, cells := 1, slots := 6, locals := 160 } [.ref (q 0), .long (np_l x1), .int (np_i x3), .ref (q 28)] σ (f_L_word x1 x3 σ) := by
  refine np_mkw (by decide +kernel) (Nat.le_of_ble_eq_true rfl) (fun o p e R s m args below meth c Q A ls hf C hcode htab hQ hat hl => ?_)
  have hl : lv_has ls 6 [(0, .ref (q 0)), (1, .long (np_l x1)), (3, .int (np_i x3)), (4, .ref (q 28))] := hl
  unfold f_L_word at hf
  refine lv_aload C.x C.b dd_L_word_0 (lv_at hl 3 rfl) ?_
  refine lv_iconst (v := np_i 0) C.x C.b dd_L_word_2 rfl ?_
  refine lv_aload_n C.x C.b dd_L_word_3 rfl (lv_at hl 0 rfl) ?_
  refine lv_lload_n C.x C.b dd_L_word_4 rfl (lv_at hl 1 rfl) ?_
  refine lv_iload_n C.x C.b dd_L_word_5 rfl (lv_at hl 2 rfl) ?_
  obtain ⟨o1, hf1, hf⟩ := Option.bind_eq_some_iff.mp hf
  by_cases h0 : o1.1 = 0
  · rw [if_pos h0] at hf
    refine np_callV1 (As := [.long (np_l x1), .int (np_i x3)]) (rest := [.int (np_i 0), .ref (q 28)]) C ((c_N_word l htr x1 x3 _ _ o1 hf1).1 h0) np_allgood tw_468 tw_469 tw_470 tw_1 tw_471 (nA := 2) (by decide +kernel) rfl ⟨rfl, rfl, Nat.le_of_ble_eq_true rfl, Nat.le_of_ble_eq_true rfl⟩ ⟨Nat.le_of_ble_eq_true rfl, Nat.le_of_ble_eq_true rfl⟩ (va_recv C.k hat.1 (ci := 0) (q0 := 0) rfl (nc_o0 _)) hat rfl hl.1 (Nat.le_of_ble_eq_true rfl) dd_L_word_6 (fun H locs hat => ?_)
    refine np_i2l C dd_L_word_9 hf (fun hf => ?_)
    refine np_lastore C hat 28 (nc_a28 _) 1 rfl (by decide) (nc_s28 _ _ _) dd_L_word_10 hf (fun H locs hat hf => ?_)
    refine lv_goto (tgt := 22) C.x C.b dd_L_word_11 (by decide) ?_
    refine lv_iconst (v := np_i 0) C.x C.b dd_L_word_22 rfl ?_
    exact hQ _ _ _ _ _ dd_L_word_23 hf hat
  · rw [if_neg h0] at hf
    by_cases h1 : o1.1 = 1
    · rw [if_pos h1] at hf
      refine np_callT (hpc := 14) (As := [.long (np_l x1), .int (np_i x3)]) (rest := [.int (np_i 0), .ref (q 28)]) C ((c_N_word l htr x1 x3 _ _ o1 hf1).2 h0) np_allgood tw_468 tw_469 tw_470 tw_1 tw_471 (nA := 2) (by decide +kernel) rfl ⟨rfl, rfl, Nat.le_of_ble_eq_true rfl, Nat.le_of_ble_eq_true rfl⟩ ⟨Nat.le_of_ble_eq_true rfl, Nat.le_of_ble_eq_true rfl⟩ (va_recv C.k hat.1 (ci := 0) (q0 := 0) rfl (nc_o0 _)) hat rfl hl.1 (Nat.le_of_ble_eq_true rfl) dd_L_word_6 (np_hf1 C hcode (x := (⟨0, 11, 14, 13⟩ : ExceptionTableEntry)) htab (by decide) (by decide) (k := o1.1) (Xn := "java/lang/IllegalArgumentException") (by rw [h1]; rfl) tw_366 tw_373 (by decide +kernel)) (fun xe H locs hat => ?_)
      refine lv_astore (lv' := [(5, .ref xe), (0, .ref (q 0)), (1, .long (np_l x1)), (3, .int (np_i x3)), (4, .ref (q 28))]) C.x C.b dd_L_word_14 hl (by decide) rfl (fun ls hl => ?_)
      refine lv_iconst (v := np_i 1) C.x C.b dd_L_word_16 rfl ?_
      exact hQ _ _ _ _ _ dd_L_word_17 hf hat
    · rw [if_neg h1] at hf
      by_cases h2 : o1.1 = 2
      · rw [if_pos h2] at hf
        refine np_callT (hpc := 18) (As := [.long (np_l x1), .int (np_i x3)]) (rest := [.int (np_i 0), .ref (q 28)]) C ((c_N_word l htr x1 x3 _ _ o1 hf1).2 h0) np_allgood tw_468 tw_469 tw_470 tw_1 tw_471 (nA := 2) (by decide +kernel) rfl ⟨rfl, rfl, Nat.le_of_ble_eq_true rfl, Nat.le_of_ble_eq_true rfl⟩ ⟨Nat.le_of_ble_eq_true rfl, Nat.le_of_ble_eq_true rfl⟩ (va_recv C.k hat.1 (ci := 0) (q0 := 0) rfl (nc_o0 _)) hat rfl hl.1 (Nat.le_of_ble_eq_true rfl) dd_L_word_6 (np_hf2 C hcode (x := (⟨0, 11, 14, 13⟩ : ExceptionTableEntry)) (y := (⟨0, 11, 18, 15⟩ : ExceptionTableEntry)) htab (by decide) (by decide) (by decide) (by decide) (k := o1.1) (Xn := "java/lang/IllegalArgumentException") (Yn := "java/lang/IllegalStateException") (by rw [h2]; rfl) tw_366 tw_373 tw_367 tw_445 (by decide +kernel) (by decide +kernel)) (fun xe H locs hat => ?_)
        refine lv_astore (lv' := [(5, .ref xe), (0, .ref (q 0)), (1, .long (np_l x1)), (3, .int (np_i x3)), (4, .ref (q 28))]) C.x C.b dd_L_word_18 hl (by decide) rfl (fun ls hl => ?_)
        refine lv_iconst (v := np_i 2) C.x C.b dd_L_word_20 rfl ?_
        exact hQ _ _ _ _ _ dd_L_word_21 hf hat
      · rw [if_neg h2] at hf
        cases hf
set_option maxHeartbeats 4000000 in
set_option maxRecDepth 100000 in
theorem c_L_notation (l : Launch) (htr : l.stackTraces = false) {gA : Nat → Nat} {D : va_G} {q : Nat → Nat} {cA : Nat → ClassId} (x1 : Int) (σ : np_S) : np_Mi1 gA l D np_cl (np_ty cA) (nc_wd q cA) yy_L_notation (.codeWith yy_L_notation method_5_code 4 (some .int) [(0, 9, 12, 13), (0, 9, 15, 15)] :: np_al) { frames := 7, cells := 1, slots := 6, locals := 103 } [.ref (q 0), .int (np_i x1), .ref (q 28)] σ (f_L_notation x1 σ) := by
  refine np_mkw (by decide +kernel) (Nat.le_of_ble_eq_true rfl) (fun o p e R s m args below meth c Q A ls hf C hcode htab hQ hat hl => ?_)
  have hl : lv_has ls 4 [(0, .ref (q 0)), (1, .int (np_i x1)), (2, .ref (q 28))] := hl
  unfold f_L_notation at hf
  refine lv_aload_n C.x C.b dd_L_notation_0 rfl (lv_at hl 2 rfl) ?_
  refine lv_iconst (v := np_i 0) C.x C.b dd_L_notation_1 rfl ?_
  refine lv_aload_n C.x C.b dd_L_notation_2 rfl (lv_at hl 0 rfl) ?_
  refine lv_iload_n C.x C.b dd_L_notation_3 rfl (lv_at hl 1 rfl) ?_
  obtain ⟨o1, hf1, hf⟩ := Option.bind_eq_some_iff.mp hf
  by_cases h0 : o1.1 = 0
  · rw [if_pos h0] at hf
    refine np_callV1 (As := [.int (np_i x1)]) (rest := [.int (np_i 0), .ref (q 28)]) C ((c_N_notation l htr x1 _ _ o1 hf1).1 h0) np_allgood tw_479 tw_480 tw_481 tw_1 tw_482 (nA := 1) (by decide +kernel) rfl ⟨rfl, rfl, Nat.le_of_ble_eq_true rfl, Nat.le_of_ble_eq_true rfl⟩ ⟨Nat.le_of_ble_eq_true rfl, Nat.le_of_ble_eq_true rfl⟩ (va_recv C.k hat.1 (ci := 0) (q0 := 0) rfl (nc_o0 _)) hat rfl hl.1 (Nat.le_of_ble_eq_true rfl) dd_L_notation_4 (fun H locs hat => ?_)
    refine np_i2l C dd_L_notation_7 hf (fun hf => ?_)
    refine np_lastore C hat 28 (nc_a28 _) 1 rfl (by decide) (nc_s28 _ _ _) dd_L_notation_8 hf (fun H locs hat hf => ?_)
    refine lv_goto (tgt := 18) C.x C.b dd_L_notation_9 (by decide) ?_
    refine lv_iconst (v := np_i 0) C.x C.b dd_L_notation_18 rfl ?_
    exact hQ _ _ _ _ _ dd_L_notation_19 hf hat
  · rw [if_neg h0] at hf
    by_cases h1 : o1.1 = 1
    · rw [if_pos h1] at hf
      refine np_callT (hpc := 12) (As := [.int (np_i x1)]) (rest := [.int (np_i 0), .ref (q 28)]) C ((c_N_notation l htr x1 _ _ o1 hf1).2 h0) np_allgood tw_479 tw_480 tw_481 tw_1 tw_482 (nA := 1) (by decide +kernel) rfl ⟨rfl, rfl, Nat.le_of_ble_eq_true rfl, Nat.le_of_ble_eq_true rfl⟩ ⟨Nat.le_of_ble_eq_true rfl, Nat.le_of_ble_eq_true rfl⟩ (va_recv C.k hat.1 (ci := 0) (q0 := 0) rfl (nc_o0 _)) hat rfl hl.1 (Nat.le_of_ble_eq_true rfl) dd_L_notation_4 (np_hf1 C hcode (x := (⟨0, 9, 12, 13⟩ : ExceptionTableEntry)) htab (by decide) (by decide) (k := o1.1) (Xn := "java/lang/IllegalArgumentException") (by rw [h1]; rfl) tw_366 tw_373 (by decide +kernel)) (fun xe H locs hat => ?_)
      refine lv_astore_n (lv' := [(3, .ref xe), (0, .ref (q 0)), (1, .int (np_i x1)), (2, .ref (q 28))]) C.x C.b dd_L_notation_12 rfl hl (by decide) rfl (fun ls hl => ?_)
      refine lv_iconst (v := np_i 1) C.x C.b dd_L_notation_13 rfl ?_
      exact hQ _ _ _ _ _ dd_L_notation_14 hf hat
    · rw [if_neg h1] at hf
      by_cases h2 : o1.1 = 2
      · rw [if_pos h2] at hf
        refine np_callT (hpc := 15) (As := [.int (np_i x1)]) (rest := [.int (np_i 0), .ref (q 28)]) C ((c_N_notation l htr x1 _ _ o1 hf1).2 h0) np_allgood tw_479 tw_480 tw_481 tw_1 tw_482 (nA := 1) (by decide +kernel) rfl ⟨rfl, rfl, Nat.le_of_ble_eq_true rfl, Nat.le_of_ble_eq_true rfl⟩ ⟨Nat.le_of_ble_eq_true rfl, Nat.le_of_ble_eq_true rfl⟩ (va_recv C.k hat.1 (ci := 0) (q0 := 0) rfl (nc_o0 _)) hat rfl hl.1 (Nat.le_of_ble_eq_true rfl) dd_L_notation_4 (np_hf2 C hcode (x := (⟨0, 9, 12, 13⟩ : ExceptionTableEntry)) (y := (⟨0, 9, 15, 15⟩ : ExceptionTableEntry)) htab (by decide) (by decide) (by decide) (by decide) (k := o1.1) (Xn := "java/lang/IllegalArgumentException") (Yn := "java/lang/IllegalStateException") (by rw [h2]; rfl) tw_366 tw_373 tw_367 tw_445 (by decide +kernel) (by decide +kernel)) (fun xe H locs hat => ?_)
        refine lv_astore_n (lv' := [(3, .ref xe), (0, .ref (q 0)), (1, .int (np_i x1)), (2, .ref (q 28))]) C.x C.b dd_L_notation_15 rfl hl (by decide) rfl (fun ls hl => ?_)
        refine lv_iconst (v := np_i 2) C.x C.b dd_L_notation_16 rfl ?_
        exact hQ _ _ _ _ _ dd_L_notation_17 hf hat
      · rw [if_neg h2] at hf
        cases hf
set_option maxHeartbeats 4000000 in
set_option maxRecDepth 100000 in
theorem c_L_read (l : Launch) (htr : l.stackTraces = false) {gA : Nat → Nat} {D : va_G} {q : Nat → Nat} {cA : Nat → ClassId} (σ : np_S) : np_Mi1 gA l D np_cl (np_ty cA) (nc_wd q cA) yy_L_read (.codeWith yy_L_read method_6_code 3 (some .int) [(0, 8, 11, 13)] :: np_al) { frames := 9, cells := 1, slots := 6, locals := 201 } [.ref (q 0), .ref (q 28)] σ (f_L_read  σ) := by
  refine np_mkw (by decide +kernel) (Nat.le_of_ble_eq_true rfl) (fun o p e R s m args below meth c Q A ls hf C hcode htab hQ hat hl => ?_)
  have hl : lv_has ls 3 [(0, .ref (q 0)), (1, .ref (q 28))] := hl
  unfold f_L_read at hf
  refine lv_aload_n C.x C.b dd_L_read_0 rfl (lv_at hl 1 rfl) ?_
  refine lv_iconst (v := np_i 0) C.x C.b dd_L_read_1 rfl ?_
  refine lv_aload_n C.x C.b dd_L_read_2 rfl (lv_at hl 0 rfl) ?_
  obtain ⟨o1, hf1, hf⟩ := Option.bind_eq_some_iff.mp hf
  by_cases h0 : o1.1 = 0
  · rw [if_pos h0] at hf
    refine np_callV1 (As := []) (rest := [.int (np_i 0), .ref (q 28)]) C ((c_N_read l htr _ _ o1 hf1).1 h0) np_allgood tw_719 tw_720 tw_721 tw_1 tw_722 (nA := 0) (by decide +kernel) rfl ⟨rfl, rfl, Nat.le_of_ble_eq_true rfl, Nat.le_of_ble_eq_true rfl⟩ ⟨Nat.le_of_ble_eq_true rfl, Nat.le_of_ble_eq_true rfl⟩ (va_recv C.k hat.1 (ci := 0) (q0 := 0) rfl (nc_o0 _)) hat rfl hl.1 (Nat.le_of_ble_eq_true rfl) dd_L_read_3 (fun H locs hat => ?_)
    refine np_i2l C dd_L_read_6 hf (fun hf => ?_)
    refine np_lastore C hat 28 (nc_a28 _) 1 rfl (by decide) (nc_s28 _ _ _) dd_L_read_7 hf (fun H locs hat hf => ?_)
    refine lv_goto (tgt := 14) C.x C.b dd_L_read_8 (by decide) ?_
    refine lv_iconst (v := np_i 0) C.x C.b dd_L_read_14 rfl ?_
    exact hQ _ _ _ _ _ dd_L_read_15 hf hat
  · rw [if_neg h0] at hf
    by_cases h1 : o1.1 = 1
    · rw [if_pos h1] at hf
      refine np_callT (hpc := 11) (As := []) (rest := [.int (np_i 0), .ref (q 28)]) C ((c_N_read l htr _ _ o1 hf1).2 h0) np_allgood tw_719 tw_720 tw_721 tw_1 tw_722 (nA := 0) (by decide +kernel) rfl ⟨rfl, rfl, Nat.le_of_ble_eq_true rfl, Nat.le_of_ble_eq_true rfl⟩ ⟨Nat.le_of_ble_eq_true rfl, Nat.le_of_ble_eq_true rfl⟩ (va_recv C.k hat.1 (ci := 0) (q0 := 0) rfl (nc_o0 _)) hat rfl hl.1 (Nat.le_of_ble_eq_true rfl) dd_L_read_3 (np_hf1 C hcode (x := (⟨0, 8, 11, 13⟩ : ExceptionTableEntry)) htab (by decide) (by decide) (k := o1.1) (Xn := "java/lang/IllegalArgumentException") (by rw [h1]; rfl) tw_366 tw_373 (by decide +kernel)) (fun xe H locs hat => ?_)
      refine lv_astore_n (lv' := [(2, .ref xe), (0, .ref (q 0)), (1, .ref (q 28))]) C.x C.b dd_L_read_11 rfl hl (by decide) rfl (fun ls hl => ?_)
      refine lv_iconst (v := np_i 1) C.x C.b dd_L_read_12 rfl ?_
      exact hQ _ _ _ _ _ dd_L_read_13 hf hat
    · rw [if_neg h1] at hf
      cases hf
end NWW
