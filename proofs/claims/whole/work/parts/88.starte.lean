theorem ns_Zof {args : Array Value} {s : State} {O f d : String} {A : Nat → Prop} (hl : (Cond.laysStatic O f d).before args s = true) (hr : (Cond.isRef (.static O f d)).before args s = true) (hA : ∀ a : Nat, a < s.heap.size → ¬ A a) : np_Z O f d A s s.heap := by
  obtain ⟨c, k, i, fd, a, cell, h0, h1, h2, h3, h4, h5, h6, h7, h8⟩ := Cond.laysStatic_spec hl
  obtain ⟨v, e, hv⟩ := Cond.isRef_spec hr
  have e2 : cell.slots[fd.slot]? = some v := by
    simp [Term.eval, State.fieldNamed?, h1, h2, h3, h4, h5] at e
    exact e
  exact ⟨c, k, i, fd, a, cell, v, h0, h1, h2, h3, h4, h5, h6, h7, h8, e2, hv, hA a (Array.getElem?_eq_some_iff.mp h4).1⟩
theorem ns_arr {args : Array Value} {s : State} {ty : FieldType} (h : (Cond.arrayClass ty).before args s = true) (hty : ∀ c, s.vm.findClass ("[" ++ ty.toString) = some c → va_RA s c ty) (hn : ∀ C, ty ≠ .object C) : ∃ cA : ClassId, ArrOfT s cA ty ∧ va_RA s cA ty := by
  obtain ⟨c, k, comp, h1, h2, h3⟩ := Cond.arrayClass_spec h
  exact ⟨c, fun n z => ⟨fun k h => (by cases h), k, h2, comp, h3⟩, hty c h1⟩
def ns_sg (oG : np_O) : np_S := fun c i => match c with
  | 0 => if i = 6 then -1 else 0
  | 1 => oG.2 0 i
  | 2 => oG.2 1 i
  | 3 => oG.2 2 i
  | 4 => oG.2 3 i
  | 5 => oG.2 4 i
  | 6 => if i = 6 then -1 else 0
  | 29 => if i = 10 then -1 else 0
  | _ => 0
/-- what the start gives of the heap -/
theorem ns_E {s : State} {b : Nat} (hts : ∀ w ∈ lw_tbl, w.before #[Value.ref b] s = true) (hgv : (Jvm.Cond.and given_1 narrow_1).before #[Value.ref b] s = true) : ∃ gA : Nat → Nat, np_E gA (fun q : Nat => s.heap.size ≤ q) s s.heap := by
  have hs := flat_of_before _ hgv
  have hA : ∀ a : Nat, a < s.heap.size → ¬ (fun q : Nat => s.heap.size ≤ q) a := fun a h => Nat.not_le.mpr h
  obtain ⟨adK, adV, hV, hev⟩ := vk_Sof (args := #[Value.ref b]) (s := s) (N := 2) (tm := (fun i => if i = 0 then .string "NotationParse$Spelling" 11 else .string "NotationParse$Spelling" 19)) (len := np_sl) (byt := np_sb) (A := fun q : Nat => s.heap.size ≤ q) (fun i hi => match i, hi with | 0, _ => by decide | 1, _ => by decide) (fun i hi => match i, hi with | 0, _ => (hs _ (by decide +kernel)) | 1, _ => (hs _ (by decide +kernel))) (fun i hi => match i, hi with | 0, _ => (hs _ (by decide +kernel)) | 1, _ => (hs _ (by decide +kernel))) (fun i hi => match i, hi with | 0, _ => (hs _ (by decide +kernel)) | 1, _ => (hs _ (by decide +kernel))) (fun i hi => match i, hi with | 0, _ => (hs _ (by decide +kernel)) | 1, _ => (hs _ (by decide +kernel))) (fun i hi => match i, hi with | 0, _ => (fun j hj => match j, hj with | 0, _ => (hs _ (by decide +kernel)) | 1, _ => (hs _ (by decide +kernel)) | 2, _ => (hs _ (by decide +kernel)) | 3, _ => (hs _ (by decide +kernel)) | 4, _ => (hs _ (by decide +kernel)) | 5, _ => (hs _ (by decide +kernel)) | 6, _ => (hs _ (by decide +kernel)) | 7, _ => (hs _ (by decide +kernel)) | 8, _ => (hs _ (by decide +kernel)) | 9, _ => (hs _ (by decide +kernel)) | 10, _ => (hs _ (by decide +kernel)) | 11, _ => (hs _ (by decide +kernel)) | 12, _ => (hs _ (by decide +kernel)) | 13, _ => (hs _ (by decide +kernel)) | 14, _ => (hs _ (by decide +kernel)) | 15, _ => (hs _ (by decide +kernel)) | 16, _ => (hs _ (by decide +kernel)) | 17, _ => (hs _ (by decide +kernel)) | 18, _ => (hs _ (by decide +kernel)) | j + 19, h => absurd h (by show ¬ j + 19 < 19; omega)) | 1, _ => (fun j hj => match j, hj with | 0, _ => (hs _ (by decide +kernel)) | 1, _ => (hs _ (by decide +kernel)) | 2, _ => (hs _ (by decide +kernel)) | 3, _ => (hs _ (by decide +kernel)) | 4, _ => (hs _ (by decide +kernel)) | 5, _ => (hs _ (by decide +kernel)) | 6, _ => (hs _ (by decide +kernel)) | 7, _ => (hs _ (by decide +kernel)) | j + 8, h => absurd h (by show ¬ j + 8 < 8; omega))) (fun i j hi hj hij => match i, j, hi, hj, hij with | 0, 1, _, _, _ => Or.inl (hs _ (by decide +kernel)) | 1, 0, _, _, _ => Or.inr (hs _ (by decide +kernel)) | 0, 0, _, _, h => absurd rfl h | 1, 1, _, _, h => absurd rfl h) hA
  obtain ⟨a57, _, _, _, e57, _⟩ := Cond.exactly_spec (args := #[Value.ref b]) (first := s) (o := none) (s := s) (idx := []) (t := .string "NotationParse" 57) (cls := "java/lang/String") (hs _ (by decide +kernel))
  obtain ⟨a66, _, _, _, e66, _⟩ := Cond.exactly_spec (args := #[Value.ref b]) (first := s) (o := none) (s := s) (idx := []) (t := .string "NotationParse" 66) (cls := "java/lang/String") (hs _ (by decide +kernel))
  obtain ⟨a73, _, _, _, e73, _⟩ := Cond.exactly_spec (args := #[Value.ref b]) (first := s) (o := none) (s := s) (idx := []) (t := .string "NotationParse" 73) (cls := "java/lang/String") (hs _ (by decide +kernel))
  obtain ⟨a88, _, _, _, e88, _⟩ := Cond.exactly_spec (args := #[Value.ref b]) (first := s) (o := none) (s := s) (idx := []) (t := .string "NotationParse" 88) (cls := "java/lang/String") (hs _ (by decide +kernel))
  obtain ⟨a98, _, _, _, e98, _⟩ := Cond.exactly_spec (args := #[Value.ref b]) (first := s) (o := none) (s := s) (idx := []) (t := .string "NotationParse" 98) (cls := "java/lang/String") (hs _ (by decide +kernel))
  obtain ⟨a106, _, _, _, e106, _⟩ := Cond.exactly_spec (args := #[Value.ref b]) (first := s) (o := none) (s := s) (idx := []) (t := .string "NotationParse" 106) (cls := "java/lang/String") (hs _ (by decide +kernel))
  obtain ⟨a111, _, _, _, e111, _⟩ := Cond.exactly_spec (args := #[Value.ref b]) (first := s) (o := none) (s := s) (idx := []) (t := .string "NotationParse" 111) (cls := "java/lang/String") (hs _ (by decide +kernel))
  obtain ⟨a133, _, _, _, e133, _⟩ := Cond.exactly_spec (args := #[Value.ref b]) (first := s) (o := none) (s := s) (idx := []) (t := .string "NotationParse" 133) (cls := "java/lang/String") (hs _ (by decide +kernel))
  obtain ⟨a171, _, _, _, e171, _⟩ := Cond.exactly_spec (args := #[Value.ref b]) (first := s) (o := none) (s := s) (idx := []) (t := .string "NotationParse" 171) (cls := "java/lang/String") (hs _ (by decide +kernel))
  obtain ⟨a188, _, _, _, e188, _⟩ := Cond.exactly_spec (args := #[Value.ref b]) (first := s) (o := none) (s := s) (idx := []) (t := .string "NotationParse" 188) (cls := "java/lang/String") (hs _ (by decide +kernel))
  refine ⟨fun k => if k < 100 then adK k else if k < 200 then adV (k - 100) else if k = 257 then a57 else if k = 266 then a66 else if k = 273 then a73 else if k = 288 then a88 else if k = 298 then a98 else if k = 306 then a106 else if k = 311 then a111 else if k = 333 then a133 else if k = 371 then a171 else if k = 388 then a188 else 0, ?_, ?_, ?_, ?_, ?_, ?_, ?_, ?_⟩
  · refine ⟨fun i hi => ?_, fun i j hi hj h => ?_⟩
    · match i, hi with
      | 0, _ => exact hV.1 0 (by decide)
      | 1, _ => exact hV.1 1 (by decide)
    · match i, j, hi, hj, h with
      | 0, 0, _, _, _ => rfl
      | 1, 1, _, _, _ => rfl
      | 0, 1, _, _, h => exact hV.2 0 1 (by decide) (by decide) h
      | 1, 0, _, _, h => exact hV.2 1 0 (by decide) (by decide) h
  · exact vk_R.of (hts _ (by decide +kernel)) (hev 0 (by decide))
  · exact vk_R.of (hts _ (by decide +kernel)) (hev 1 (by decide))
  · exact va_Zof (hts _ (by decide +kernel)) (hts _ (by decide +kernel)) (va_eqt (hs _ (by decide +kernel))) hA
  · exact ns_Zof (hts _ (by decide +kernel)) (hs _ (by decide +kernel)) hA
  · exact ns_Zof (hts _ (by decide +kernel)) (hs _ (by decide +kernel)) hA
  · intro q hq
    simp only [np_msgs, List.mem_cons, List.not_mem_nil, or_false] at hq
    rcases hq with rfl | rfl | rfl | rfl | rfl | rfl | rfl | rfl | rfl | rfl
    all_goals refine vk_R.of (hts _ (by decide +kernel)) ?_
    · exact e57
    · exact e66
    · exact e73
    · exact e88
    · exact e98
    · exact e106
    · exact e111
    · exact e133
    · exact e171
    · exact e188
  · intro w hw
    simp only [np_cw, List.mem_cons, List.not_mem_nil, or_false] at hw
    rcases hw with rfl | rfl | rfl | rfl | rfl | rfl | rfl
    · have h9 := hts (.castable "java/lang/IllegalArgumentException" "java/lang/IllegalArgumentException") (by decide +kernel)
      first | exact va_tabs (A := #[Value.ref b]) rfl rfl h9 | (simpa [Cond.before, Cond.holds, Cond.value] using h9)
    · have h9 := hts (.castable "java/lang/IllegalStateException" "java/lang/IllegalStateException") (by decide +kernel)
      first | exact va_tabs (A := #[Value.ref b]) rfl rfl h9 | (simpa [Cond.before, Cond.holds, Cond.value] using h9)
    · have h9 := hts (.castable "java/util/NoSuchElementException" "java/util/NoSuchElementException") (by decide +kernel)
      first | exact va_tabs (A := #[Value.ref b]) rfl rfl h9 | (simpa [Cond.before, Cond.holds, Cond.value] using h9)
    · have h9 := hts (.declares ⟨"java/lang/RuntimeException", "<init>", "(Ljava/lang/String;)V"⟩) (by decide +kernel)
      first | exact va_tabs (A := #[Value.ref b]) rfl rfl h9 | (simpa [Cond.before, Cond.holds, Cond.value] using h9)
    · have h9 := hts (.declares ⟨"java/lang/Exception", "<init>", "(Ljava/lang/String;)V"⟩) (by decide +kernel)
      first | exact va_tabs (A := #[Value.ref b]) rfl rfl h9 | (simpa [Cond.before, Cond.holds, Cond.value] using h9)
    · have h9 := hts (.declares ⟨"java/lang/Throwable", "<init>", "(Ljava/lang/String;)V"⟩) (by decide +kernel)
      first | exact va_tabs (A := #[Value.ref b]) rfl rfl h9 | (simpa [Cond.before, Cond.holds, Cond.value] using h9)
    · have h9 := hs (.not (.castable "java/lang/IllegalStateException" "java/lang/IllegalArgumentException")) (by decide +kernel)
      first | exact va_tabs (A := #[Value.ref b]) rfl rfl h9 | (simpa [Cond.before, Cond.holds, Cond.value] using h9)
