theorem dd_L_node_0 : decode method_7_code 0 = .ok (.aload_n 3, 1) := by decide +kernel
theorem dd_L_node_1 : decode method_7_code 1 = .ok (.iconst 0, 1) := by decide +kernel
theorem dd_L_node_2 : decode method_7_code 2 = .ok (.aload_n 0, 1) := by decide +kernel
theorem dd_L_node_3 : decode method_7_code 3 = .ok (.iload_n 1, 1) := by decide +kernel
theorem dd_L_node_4 : decode method_7_code 4 = .ok (.iload_n 2, 1) := by decide +kernel
theorem dd_L_node_5 : decode method_7_code 5 = .ok (.invokevirtual 28, 3) := by decide +kernel
theorem dd_L_node_8 : decode method_7_code 8 = .ok (.i2l, 1) := by decide +kernel
theorem dd_L_node_9 : decode method_7_code 9 = .ok (.lastore, 1) := by decide +kernel
theorem dd_L_node_10 : decode method_7_code 10 = .ok (.goto 7, 3) := by decide +kernel
theorem dd_L_node_13 : decode method_7_code 13 = .ok (.astore 4, 2) := by decide +kernel
theorem dd_L_node_15 : decode method_7_code 15 = .ok (.iconst 1, 1) := by decide +kernel
theorem dd_L_node_16 : decode method_7_code 16 = .ok (.ireturn, 1) := by decide +kernel
theorem dd_L_node_17 : decode method_7_code 17 = .ok (.iconst 0, 1) := by decide +kernel
theorem dd_L_node_18 : decode method_7_code 18 = .ok (.ireturn, 1) := by decide +kernel
theorem dd_L_print_0 : decode method_8_code 0 = .ok (.aload_n 1, 1) := by decide +kernel
theorem dd_L_print_1 : decode method_8_code 1 = .ok (.iconst 0, 1) := by decide +kernel
theorem dd_L_print_2 : decode method_8_code 2 = .ok (.aload_n 0, 1) := by decide +kernel
theorem dd_L_print_3 : decode method_8_code 3 = .ok (.invokevirtual 34, 3) := by decide +kernel
theorem dd_L_print_6 : decode method_8_code 6 = .ok (.i2l, 1) := by decide +kernel
theorem dd_L_print_7 : decode method_8_code 7 = .ok (.lastore, 1) := by decide +kernel
theorem dd_L_print_8 : decode method_8_code 8 = .ok (.goto 6, 3) := by decide +kernel
theorem dd_L_print_11 : decode method_8_code 11 = .ok (.astore_n 2, 1) := by decide +kernel
theorem dd_L_print_12 : decode method_8_code 12 = .ok (.iconst 1, 1) := by decide +kernel
theorem dd_L_print_13 : decode method_8_code 13 = .ok (.ireturn, 1) := by decide +kernel
theorem dd_L_print_14 : decode method_8_code 14 = .ok (.iconst 0, 1) := by decide +kernel
theorem dd_L_print_15 : decode method_8_code 15 = .ok (.ireturn, 1) := by decide +kernel
def f_L_node (x1 x2 : Int) (σ : np_S) : Option np_O := (f_N_node x1 x2 σ).bind (fun o1 => if o1.1 = 0 then (np_ck (np_R o1.2.1) (np_ck ((0 : Int) ≤ 0 ∧ (0 : Int) < 1) (some (0, np_st o1.2.2 28 0 o1.2.1)))) else (if o1.1 = 3 then some (1, o1.2.2) else (none)))
def f_L_print (σ : np_S) : Option np_O := (f_N_print  σ).bind (fun o1 => if o1.1 = 0 then (np_ck (np_R o1.2.1) (np_ck ((0 : Int) ≤ 0 ∧ (0 : Int) < 1) (some (0, np_st o1.2.2 28 0 o1.2.1)))) else (if o1.1 = 3 then some (1, o1.2.2) else (none)))
section NWV
set_option maxHeartbeats 4000000 in
set_option maxRecDepth 100000 in
theorem c_L_node (l : Launch) (htr : l.stackTraces = false) {gA : Nat → Nat} {D : va_G} {q : Nat → Nat} {cA : Nat → ClassId} (x1 x2 : Int) (σ : np_S) : np_Mi1 gA l D np_cl (np_ty cA) (nc_wd q cA) yy_L_node (.codeWith yy_L_node method_7_code 5 (some .int) [(0, 10, 13, 32)] :: np_al) { frames := 7, cells := 1, slots := 6, locals := 104 } [.ref (q 0), .int (np_i x1), .int (np_i x2), .ref (q 28)] σ (f_L_node x1 x2 σ) := by
  refine np_mkw (by decide +kernel) (Nat.le_of_ble_eq_true rfl) (fun o p e R s m args below meth c Q A ls hf C hcode htab hQ hat hl => ?_)
  have hl : lv_has ls 5 [(0, .ref (q 0)), (1, .int (np_i x1)), (2, .int (np_i x2)), (3, .ref (q 28))] := hl
  unfold f_L_node at hf
  refine lv_aload_n C.x C.b dd_L_node_0 rfl (lv_at hl 3 rfl) ?_
  refine lv_iconst (v := np_i 0) C.x C.b dd_L_node_1 rfl ?_
  refine lv_aload_n C.x C.b dd_L_node_2 rfl (lv_at hl 0 rfl) ?_
  refine lv_iload_n C.x C.b dd_L_node_3 rfl (lv_at hl 1 rfl) ?_
  refine lv_iload_n C.x C.b dd_L_node_4 rfl (lv_at hl 2 rfl) ?_
  obtain ⟨o1, hf1, hf⟩ := Option.bind_eq_some_iff.mp hf
  by_cases h0 : o1.1 = 0
  · rw [if_pos h0] at hf
    refine np_callV1 (As := [.int (np_i x1), .int (np_i x2)]) (rest := [.int (np_i 0), .ref (q 28)]) C ((c_N_node l htr x1 x2 _ _ o1 hf1).1 h0) np_allgood tw_867 tw_868 tw_869 tw_1 tw_870 (nA := 2) (by decide +kernel) rfl ⟨rfl, rfl, Nat.le_of_ble_eq_true rfl, Nat.le_of_ble_eq_true rfl⟩ ⟨Nat.le_of_ble_eq_true rfl, Nat.le_of_ble_eq_true rfl⟩ (va_recv C.k hat.1 (ci := 0) (q0 := 0) rfl (nc_o0 _)) hat rfl hl.1 (Nat.le_of_ble_eq_true rfl) dd_L_node_5 (fun H locs hat => ?_)
    refine np_i2l C dd_L_node_8 hf (fun hf => ?_)
    refine np_lastore C hat 28 (nc_a28 _) 1 rfl (by decide) (nc_s28 _ _ _) dd_L_node_9 hf (fun H locs hat hf => ?_)
    refine lv_goto (tgt := 17) C.x C.b dd_L_node_10 (by decide) ?_
    refine lv_iconst (v := np_i 0) C.x C.b dd_L_node_17 rfl ?_
    exact hQ _ _ _ _ _ dd_L_node_18 hf hat
  · rw [if_neg h0] at hf
    by_cases h3 : o1.1 = 3
    · rw [if_pos h3] at hf
      refine np_callT (hpc := 13) (As := [.int (np_i x1), .int (np_i x2)]) (rest := [.int (np_i 0), .ref (q 28)]) C ((c_N_node l htr x1 x2 _ _ o1 hf1).2 h0) np_allgood tw_867 tw_868 tw_869 tw_1 tw_870 (nA := 2) (by decide +kernel) rfl ⟨rfl, rfl, Nat.le_of_ble_eq_true rfl, Nat.le_of_ble_eq_true rfl⟩ ⟨Nat.le_of_ble_eq_true rfl, Nat.le_of_ble_eq_true rfl⟩ (va_recv C.k hat.1 (ci := 0) (q0 := 0) rfl (nc_o0 _)) hat rfl hl.1 (Nat.le_of_ble_eq_true rfl) dd_L_node_5 (np_hf1 C hcode (x := (⟨0, 10, 13, 32⟩ : ExceptionTableEntry)) htab (by decide) (by decide) (k := o1.1) (Xn := "java/util/NoSuchElementException") (by rw [h3]; rfl) tw_866 tw_872 (by decide +kernel)) (fun xe H locs hat => ?_)
      refine lv_astore (lv' := [(4, .ref xe), (0, .ref (q 0)), (1, .int (np_i x1)), (2, .int (np_i x2)), (3, .ref (q 28))]) C.x C.b dd_L_node_13 hl (by decide) rfl (fun ls hl => ?_)
      refine lv_iconst (v := np_i 1) C.x C.b dd_L_node_15 rfl ?_
      exact hQ _ _ _ _ _ dd_L_node_16 hf hat
    · rw [if_neg h3] at hf
      cases hf
set_option maxHeartbeats 4000000 in
set_option maxRecDepth 100000 in
theorem c_L_print (l : Launch) (htr : l.stackTraces = false) {gA : Nat → Nat} {D : va_G} {q : Nat → Nat} {cA : Nat → ClassId} (σ : np_S) : np_Mi1 gA l D np_cl (np_ty cA) (nc_wd q cA) yy_L_print (.codeWith yy_L_print method_8_code 3 (some .int) [(0, 8, 11, 32)] :: np_al) { frames := 7, cells := 1, slots := 6, locals := 102 } [.ref (q 0), .ref (q 28)] σ (f_L_print  σ) := by
  refine np_mkw (by decide +kernel) (Nat.le_of_ble_eq_true rfl) (fun o p e R s m args below meth c Q A ls hf C hcode htab hQ hat hl => ?_)
  have hl : lv_has ls 3 [(0, .ref (q 0)), (1, .ref (q 28))] := hl
  unfold f_L_print at hf
  refine lv_aload_n C.x C.b dd_L_print_0 rfl (lv_at hl 1 rfl) ?_
  refine lv_iconst (v := np_i 0) C.x C.b dd_L_print_1 rfl ?_
  refine lv_aload_n C.x C.b dd_L_print_2 rfl (lv_at hl 0 rfl) ?_
  obtain ⟨o1, hf1, hf⟩ := Option.bind_eq_some_iff.mp hf
  by_cases h0 : o1.1 = 0
  · rw [if_pos h0] at hf
    refine np_callV1 (As := []) (rest := [.int (np_i 0), .ref (q 28)]) C ((c_N_print l htr _ _ o1 hf1).1 h0) np_allgood tw_890 tw_891 tw_892 tw_1 tw_893 (nA := 0) (by decide +kernel) rfl ⟨rfl, rfl, Nat.le_of_ble_eq_true rfl, Nat.le_of_ble_eq_true rfl⟩ ⟨Nat.le_of_ble_eq_true rfl, Nat.le_of_ble_eq_true rfl⟩ (va_recv C.k hat.1 (ci := 0) (q0 := 0) rfl (nc_o0 _)) hat rfl hl.1 (Nat.le_of_ble_eq_true rfl) dd_L_print_3 (fun H locs hat => ?_)
    refine np_i2l C dd_L_print_6 hf (fun hf => ?_)
    refine np_lastore C hat 28 (nc_a28 _) 1 rfl (by decide) (nc_s28 _ _ _) dd_L_print_7 hf (fun H locs hat hf => ?_)
    refine lv_goto (tgt := 14) C.x C.b dd_L_print_8 (by decide) ?_
    refine lv_iconst (v := np_i 0) C.x C.b dd_L_print_14 rfl ?_
    exact hQ _ _ _ _ _ dd_L_print_15 hf hat
  · rw [if_neg h0] at hf
    by_cases h3 : o1.1 = 3
    · rw [if_pos h3] at hf
      refine np_callT (hpc := 11) (As := []) (rest := [.int (np_i 0), .ref (q 28)]) C ((c_N_print l htr _ _ o1 hf1).2 h0) np_allgood tw_890 tw_891 tw_892 tw_1 tw_893 (nA := 0) (by decide +kernel) rfl ⟨rfl, rfl, Nat.le_of_ble_eq_true rfl, Nat.le_of_ble_eq_true rfl⟩ ⟨Nat.le_of_ble_eq_true rfl, Nat.le_of_ble_eq_true rfl⟩ (va_recv C.k hat.1 (ci := 0) (q0 := 0) rfl (nc_o0 _)) hat rfl hl.1 (Nat.le_of_ble_eq_true rfl) dd_L_print_3 (np_hf1 C hcode (x := (⟨0, 8, 11, 32⟩ : ExceptionTableEntry)) htab (by decide) (by decide) (k := o1.1) (Xn := "java/util/NoSuchElementException") (by rw [h3]; rfl) tw_866 tw_872 (by decide +kernel)) (fun xe H locs hat => ?_)
      refine lv_astore_n (lv' := [(2, .ref xe), (0, .ref (q 0)), (1, .ref (q 28))]) C.x C.b dd_L_print_11 rfl hl (by decide) rfl (fun ls hl => ?_)
      refine lv_iconst (v := np_i 1) C.x C.b dd_L_print_12 rfl ?_
      exact hQ _ _ _ _ _ dd_L_print_13 hf hat
    · rw [if_neg h3] at hf
      cases hf
end NWV
