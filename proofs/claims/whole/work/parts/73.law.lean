def f_law_692 (sx : Nat → Int32) (L : Nat) (k23 : (Int → np_S → Option np_O)) (x4 : Int) (σ : np_S) : Option np_O := k23 (x4 + 4) σ
def f_law_153 (sx : Nat → Int32) (L : Nat) (k23 : (Int → np_S → Option np_O)) (x4 : Int) (σ : np_S) : Option np_O := f_law_692 sx L k23 x4 σ
def f_law_253 (sx : Nat → Int32) (L : Nat) (k23 : (Int → np_S → Option np_O)) (x4 : Int) (σ : np_S) : Option np_O := f_law_692 sx L k23 x4 σ
def f_law_309 (sx : Nat → Int32) (L : Nat) (k23 : (Int → np_S → Option np_O)) (x4 : Int) (σ : np_S) : Option np_O := f_law_692 sx L k23 x4 σ
def f_law_433 (sx : Nat → Int32) (L : Nat) (k23 : (Int → np_S → Option np_O)) (x4 : Int) (σ : np_S) : Option np_O := f_law_692 sx L k23 x4 σ
def f_law_526 (sx : Nat → Int32) (L : Nat) (k23 : (Int → np_S → Option np_O)) (x4 : Int) (σ : np_S) : Option np_O := f_law_692 sx L k23 x4 σ
def f_law_570 (sx : Nat → Int32) (L : Nat) (k23 : (Int → np_S → Option np_O)) (x4 : Int) (σ : np_S) : Option np_O := f_law_692 sx L k23 x4 σ
def f_law_23_b (sx : Nat → Int32) (L : Nat)  (k23 : (Int → np_S → Option np_O)) (x4 : Int) (σ : np_S) : Option np_O := np_ck (np_R x4 ∧ np_R (((L : Int)) - 4)) (if ((L : Int)) - 4 < x4 then (np_ck ((1 : Int) = 0 ∨ (1 : Int) = 1) (some (1, σ))) else (np_ck ((0 : Int) ≤ x4 ∧ x4 < (L : Int)) (np_ck (np_R (np_andi (np_sc sx x4) 15)) (if np_andi (np_sc sx x4) 15 = 0 then (np_ck ((0 : Int) ≤ x4 + 1 ∧ x4 + 1 < (L : Int)) ((f_L_hole (np_sc sx (x4 + 1)) σ).bind (fun o1 => np_ck ((0 : Int) ≤ x4 + 1 ∧ x4 + 1 < (L : Int)) ((f_M_hole (np_sc sx (x4 + 1)) o1.2).bind (fun o2 => (f_M_thrown o2.2).bind (fun o3 => np_ck (np_R o3.1 ∧ np_R o1.1) (if o3.1 = o1.1 then (np_ck (np_R o1.1) (if o1.1 ≠ 0 then (f_law_153 sx L k23 x4 o3.2) else (np_ck ((0 : Int) ≤ 0 ∧ (0 : Int) < 1) (np_ck (np_R o2.1) (np_ck (np_R6 (o3.2 28 0) ∧ np_R6 o2.1) (np_ck (np_R (np_cmp (o3.2 28 0) o2.1)) (if np_cmp (o3.2 28 0) o2.1 = 0 then (f_law_153 sx L k23 x4 o3.2) else (np_ck ((0 : Int) = 0 ∨ (0 : Int) = 1) (some (0, o3.2)))))))))) else (np_ck ((0 : Int) = 0 ∨ (0 : Int) = 1) (some (0, o3.2)))))))))) else (if np_andi (np_sc sx x4) 15 = 1 then (np_ck ((0 : Int) ≤ x4 + 1 ∧ x4 + 1 < (L : Int)) (np_ck (np_R (np_sc sx (x4 + 1))) (np_ck ((0 : Int) ≤ x4 + 2 ∧ x4 + 2 < (L : Int)) (np_ck (np_R (np_sc sx (x4 + 2))) (np_ck ((0 : Int) ≤ x4 + 3 ∧ x4 + 3 < (L : Int)) ((f_L_word (np_orl (np_shll (np_sc sx (x4 + 1)) 32) (np_andl (np_sc sx (x4 + 2)) 4294967295)) (np_sc sx (x4 + 3)) σ).bind (fun o4 => np_ck ((0 : Int) ≤ x4 + 1 ∧ x4 + 1 < (L : Int)) (np_ck (np_R (np_sc sx (x4 + 1))) (np_ck ((0 : Int) ≤ x4 + 2 ∧ x4 + 2 < (L : Int)) (np_ck (np_R (np_sc sx (x4 + 2))) (np_ck ((0 : Int) ≤ x4 + 3 ∧ x4 + 3 < (L : Int)) ((f_M_word (np_orl (np_shll (np_sc sx (x4 + 1)) 32) (np_andl (np_sc sx (x4 + 2)) 4294967295)) (np_sc sx (x4 + 3)) o4.2).bind (fun o5 => (f_M_thrown o5.2).bind (fun o6 => np_ck (np_R o6.1 ∧ np_R o4.1) (if o6.1 = o4.1 then (np_ck (np_R o4.1) (if o4.1 ≠ 0 then (f_law_253 sx L k23 x4 o6.2) else (np_ck ((0 : Int) ≤ 0 ∧ (0 : Int) < 1) (np_ck (np_R o5.1) (np_ck (np_R6 (o6.2 28 0) ∧ np_R6 o5.1) (np_ck (np_R (np_cmp (o6.2 28 0) o5.1)) (if np_cmp (o6.2 28 0) o5.1 = 0 then (f_law_253 sx L k23 x4 o6.2) else (np_ck ((0 : Int) = 0 ∨ (0 : Int) = 1) (some (0, o6.2)))))))))) else (np_ck ((0 : Int) = 0 ∨ (0 : Int) = 1) (some (0, o6.2)))))))))))))))))) else (if np_andi (np_sc sx x4) 15 = 2 then (np_ck ((0 : Int) ≤ x4 + 1 ∧ x4 + 1 < (L : Int)) ((f_L_notation (np_sc sx (x4 + 1)) σ).bind (fun o7 => np_ck ((0 : Int) ≤ x4 + 1 ∧ x4 + 1 < (L : Int)) ((f_M_notation (np_sc sx (x4 + 1)) o7.2).bind (fun o8 => (f_M_thrown o8.2).bind (fun o9 => np_ck (np_R o9.1 ∧ np_R o7.1) (if o9.1 = o7.1 then (np_ck (np_R o7.1) (if o7.1 ≠ 0 then (f_law_309 sx L k23 x4 o9.2) else (np_ck ((0 : Int) ≤ 0 ∧ (0 : Int) < 1) (np_ck (np_R o8.1) (np_ck (np_R6 (o9.2 28 0) ∧ np_R6 o8.1) (np_ck (np_R (np_cmp (o9.2 28 0) o8.1)) (if np_cmp (o9.2 28 0) o8.1 = 0 then (f_law_309 sx L k23 x4 o9.2) else (np_ck ((0 : Int) = 0 ∨ (0 : Int) = 1) (some (0, o9.2)))))))))) else (np_ck ((0 : Int) = 0 ∨ (0 : Int) = 1) (some (0, o9.2)))))))))) else (if np_andi (np_sc sx x4) 15 = 3 then (np_ck ((0 : Int) ≤ x4 + 1 ∧ x4 + 1 < (L : Int)) (np_ck (np_R (np_sc sx (x4 + 1))) (np_ck ((0 : Int) ≤ x4 + 2 ∧ x4 + 2 < (L : Int)) (np_ck (np_R (np_sc sx (x4 + 2))) (np_ck ((0 : Int) ≤ x4 + 3 ∧ x4 + 3 < (L : Int)) ((f_N_put (np_orl (np_shll (np_sc sx (x4 + 1)) 32) (np_andl (np_sc sx (x4 + 2)) 4294967295)) (np_sc sx (x4 + 3)) σ).bind (fun o10 => np_ck ((0 : Int) ≤ x4 + 1 ∧ x4 + 1 < (L : Int)) (np_ck (np_R (np_sc sx (x4 + 1))) (np_ck ((0 : Int) ≤ x4 + 2 ∧ x4 + 2 < (L : Int)) (np_ck (np_R (np_sc sx (x4 + 2))) (np_ck ((0 : Int) ≤ x4 + 3 ∧ x4 + 3 < (L : Int)) ((f_M_put (np_orl (np_shll (np_sc sx (x4 + 1)) 32) (np_andl (np_sc sx (x4 + 2)) 4294967295)) (np_sc sx (x4 + 3)) o10.2).bind (fun o11 => np_ck (np_R o10.1 ∧ np_R o11.1) (if o10.1 = o11.1 then (f_law_692 sx L k23 x4 o11.2) else (np_ck ((0 : Int) = 0 ∨ (0 : Int) = 1) (some (0, o11.2))))))))))))))))) else (if np_andi (np_sc sx x4) 15 = 4 then ((f_N_clear σ).bind (fun o12 => (f_M_clear o12.2).bind (fun o13 => f_law_692 sx L k23 x4 o13.2))) else (if np_andi (np_sc sx x4) 15 = 5 then ((f_L_read σ).bind (fun o14 => (f_M_read o14.2).bind (fun o15 => (f_M_thrown o15.2).bind (fun o16 => np_ck (np_R o16.1 ∧ np_R o14.1) (if o16.1 = o14.1 then (np_ck (np_R o14.1) (if o14.1 ≠ 0 then (f_law_433 sx L k23 x4 o16.2) else (np_ck ((0 : Int) ≤ 0 ∧ (0 : Int) < 1) (np_ck (np_R o15.1) (np_ck (np_R6 (o16.2 28 0) ∧ np_R6 o15.1) (np_ck (np_R (np_cmp (o16.2 28 0) o15.1)) (if np_cmp (o16.2 28 0) o15.1 = 0 then (f_law_433 sx L k23 x4 o16.2) else (np_ck ((0 : Int) = 0 ∨ (0 : Int) = 1) (some (0, o16.2)))))))))) else (np_ck ((0 : Int) = 0 ∨ (0 : Int) = 1) (some (0, o16.2)))))))) else (if np_andi (np_sc sx x4) 15 = 6 then (np_ck ((0 : Int) ≤ x4 + 1 ∧ x4 + 1 < (L : Int)) ((f_N_fault (np_sc sx (x4 + 1)) σ).bind (fun o17 => np_ck ((0 : Int) ≤ x4 + 1 ∧ x4 + 1 < (L : Int)) ((f_M_fault (np_sc sx (x4 + 1)) o17.2).bind (fun o18 => np_ck (np_R o17.1 ∧ np_R o18.1) (if o17.1 = o18.1 then (f_law_692 sx L k23 x4 o18.2) else (np_ck ((0 : Int) = 0 ∨ (0 : Int) = 1) (some (0, o18.2))))))))) else (if np_andi (np_sc sx x4) 15 = 7 then (np_ck ((0 : Int) ≤ x4 + 1 ∧ x4 + 1 < (L : Int)) (np_ck ((0 : Int) ≤ x4 + 2 ∧ x4 + 2 < (L : Int)) ((f_L_node (np_sc sx (x4 + 1)) (np_sc sx (x4 + 2)) σ).bind (fun o19 => np_ck ((0 : Int) ≤ x4 + 1 ∧ x4 + 1 < (L : Int)) (np_ck ((0 : Int) ≤ x4 + 2 ∧ x4 + 2 < (L : Int)) ((f_M_node (np_sc sx (x4 + 1)) (np_sc sx (x4 + 2)) o19.2).bind (fun o20 => (f_M_thrown o20.2).bind (fun o21 => np_ck (np_R o21.1 ∧ np_R o19.1) (if o21.1 = o19.1 then (np_ck (np_R o19.1) (if o19.1 ≠ 0 then (f_law_526 sx L k23 x4 o21.2) else (np_ck ((0 : Int) ≤ 0 ∧ (0 : Int) < 1) (np_ck (np_R o20.1) (np_ck (np_R6 (o21.2 28 0) ∧ np_R6 o20.1) (np_ck (np_R (np_cmp (o21.2 28 0) o20.1)) (if np_cmp (o21.2 28 0) o20.1 = 0 then (f_law_526 sx L k23 x4 o21.2) else (np_ck ((0 : Int) = 0 ∨ (0 : Int) = 1) (some (0, o21.2)))))))))) else (np_ck ((0 : Int) = 0 ∨ (0 : Int) = 1) (some (0, o21.2)))))))))))) else (if np_andi (np_sc sx x4) 15 = 8 then ((f_L_print σ).bind (fun o22 => (f_M_print o22.2).bind (fun o23 => (f_M_thrown o23.2).bind (fun o24 => np_ck (np_R o24.1 ∧ np_R o22.1) (if o24.1 = o22.1 then (np_ck (np_R o22.1) (if o22.1 ≠ 0 then (f_law_570 sx L k23 x4 o24.2) else (np_ck ((0 : Int) ≤ 0 ∧ (0 : Int) < 1) (np_ck (np_R o23.1) (np_ck (np_R6 (o24.2 28 0) ∧ np_R6 o23.1) (np_ck (np_R (np_cmp (o24.2 28 0) o23.1)) (if np_cmp (o24.2 28 0) o23.1 = 0 then (f_law_570 sx L k23 x4 o24.2) else (np_ck ((0 : Int) = 0 ∨ (0 : Int) = 1) (some (0, o24.2)))))))))) else (np_ck ((0 : Int) = 0 ∨ (0 : Int) = 1) (some (0, o24.2)))))))) else (if np_andi (np_sc sx x4) 15 = 9 then (np_ck ((0 : Int) ≤ x4 + 1 ∧ x4 + 1 < (L : Int)) ((f_N_at (np_sc sx (x4 + 1)) σ).bind (fun o25 => np_ck ((0 : Int) ≤ x4 + 1 ∧ x4 + 1 < (L : Int)) ((f_M_at (np_sc sx (x4 + 1)) o25.2).bind (fun o26 => np_ck (np_R o25.1 ∧ np_R o26.1) (if o25.1 = o26.1 then (f_law_692 sx L k23 x4 o26.2) else (np_ck ((0 : Int) = 0 ∨ (0 : Int) = 1) (some (0, o26.2))))))))) else (if np_andi (np_sc sx x4) 15 = 10 then (np_ck ((0 : Int) ≤ x4 + 1 ∧ x4 + 1 < (L : Int)) (np_ck (np_R (np_sc sx (x4 + 1))) (np_ck ((0 : Int) ≤ x4 + 2 ∧ x4 + 2 < (L : Int)) (np_ck (np_R (np_sc sx (x4 + 2))) (np_ck ((0 : Int) ≤ x4 + 3 ∧ x4 + 3 < (L : Int)) ((f_N_isKey (np_orl (np_shll (np_sc sx (x4 + 1)) 32) (np_andl (np_sc sx (x4 + 2)) 4294967295)) (np_sc sx (x4 + 3)) σ).bind (fun o27 => np_ck ((0 : Int) ≤ x4 + 1 ∧ x4 + 1 < (L : Int)) (np_ck (np_R (np_sc sx (x4 + 1))) (np_ck ((0 : Int) ≤ x4 + 2 ∧ x4 + 2 < (L : Int)) (np_ck (np_R (np_sc sx (x4 + 2))) (np_ck ((0 : Int) ≤ x4 + 3 ∧ x4 + 3 < (L : Int)) ((f_M_isKey (np_orl (np_shll (np_sc sx (x4 + 1)) 32) (np_andl (np_sc sx (x4 + 2)) 4294967295)) (np_sc sx (x4 + 3)) o27.2).bind (fun o28 => np_ck (np_R o27.1 ∧ np_R o28.1) (if o27.1 = o28.1 then (f_law_692 sx L k23 x4 o28.2) else (np_ck ((0 : Int) = 0 ∨ (0 : Int) = 1) (some (0, o28.2))))))))))))))))) else (if np_andi (np_sc sx x4) 15 = 11 then (np_ck ((0 : Int) ≤ x4 + 1 ∧ x4 + 1 < (L : Int)) ((f_N_about (np_sc sx (x4 + 1)) σ).bind (fun o29 => np_ck ((0 : Int) ≤ x4 + 1 ∧ x4 + 1 < (L : Int)) ((f_M_about (np_sc sx (x4 + 1)) o29.2).bind (fun o30 => np_ck (np_R o29.1 ∧ np_R o30.1) (if o29.1 = o30.1 then (f_law_692 sx L k23 x4 o30.2) else (np_ck ((0 : Int) = 0 ∨ (0 : Int) = 1) (some (0, o30.2))))))))) else (f_law_692 sx L k23 x4 σ))))))))))))))))
def f_law_23 (sx : Nat → Int32) (L : Nat)  : Nat → Int → np_S → Option np_O
  | 0, _, _ => none
  | n + 1, x4, σ => f_law_23_b sx L  (fun x4 σ => f_law_23 sx L  n x4 σ) x4 σ
section NWL
variable {p : Program} {l : Launch} {e : Env} {R : Room} {s : State} {m : MethodId} {args : Array Value} {below : List Frame} {meth : Method} {c : Code} {Q : State → Prop} {D : va_G} {A : Nat → Prop} {q : Nat → Nat} {cA : Nat → ClassId} {out : np_O} {gA : Nat → Nat} {b L : Nat} {xs : Nat → Int32}
set_option maxHeartbeats 4000000 in
set_option maxRecDepth 100000 in
theorem w_f_law_692 (C : np_Cx gA p R s m args c D np_cl (np_ty cA) A np_al "NotationParseLaw" code 7 room_1) (htr : l.stackTraces = false) (hQ : ∀ (pc : Nat) (ls : Array Slot) (H : Heap) (locs : List Loc) (cells slots : Nat) (v : Int) {σ : np_S}, decode code pc = .ok (.ireturn, 1) → some (v, σ) = some out → cells ≤ R.cells ∧ slots ≤ R.slots → np_At D np_cl A (nc_wd q cA) s σ H locs → W p l e R s m args below meth c H locs cells slots Q (F0 m pc ls [.int (np_i v)])) (hX : va_X b L xs s s.heap) (hbl : b < s.heap.size) (hbA : ¬ A b) (hLs : L < 2147483648) {n : Nat} {k23 : (Int → np_S → Option np_O)} (h23 : ∀ (x4 : Int) (σ : np_S) (H : Heap) (locs : List Loc) (ls : Array Slot) (cells slots : Nat), k23 x4 σ = some out → cells + n ≤ R.cells ∧ slots + 6 * n ≤ R.slots → np_At D np_cl A (nc_wd q cA) s σ H locs → lv_has ls 7 [(0, .ref b), (1, .ref (q 0)), (2, .ref (q 29)), (3, .ref (q 28)), (4, .int (np_i x4))] → W p l e R s m args below meth c H locs cells slots Q (F0 m 23 ls [])) : ∀ (x4 : Int) (σ : np_S) (H : Heap) (locs : List Loc) (ls : Array Slot) (cells slots : Nat), f_law_692 xs L k23 x4 σ = some out → cells + n ≤ R.cells ∧ slots + 6 * n ≤ R.slots → np_At D np_cl A (nc_wd q cA) s σ H locs → lv_has ls 7 [(0, .ref b), (1, .ref (q 0)), (2, .ref (q 29)), (3, .ref (q 28)), (4, .int (np_i x4))] → W p l e R s m args below meth c H locs cells slots Q (F0 m 692 ls []) := by
  intro x4 σ H locs ls cells slots hf hcs hat hl
  unfold f_law_692 at hf
  refine lv_iinc (v := np_i (x4 + 4)) (lv' := [(4, .int (np_i (x4 + 4))), (0, .ref b), (1, .ref (q 0)), (2, .ref (q 29)), (3, .ref (q 28))]) C.x C.b dd_L_law_692 hl (k := 4) rfl (np_inc _ _) (by decide) rfl (fun ls hl => ?_)
  refine lv_goto (tgt := 23) C.x C.b dd_L_law_695 (by decide) ?_
  exact h23 _ _ _ _ _ _ _ hf (by omega) hat (lv_sub hl [1, 2, 3, 4, 0] rfl)
set_option maxHeartbeats 4000000 in
set_option maxRecDepth 100000 in
theorem w_f_law_153 (C : np_Cx gA p R s m args c D np_cl (np_ty cA) A np_al "NotationParseLaw" code 7 room_1) (htr : l.stackTraces = false) (hQ : ∀ (pc : Nat) (ls : Array Slot) (H : Heap) (locs : List Loc) (cells slots : Nat) (v : Int) {σ : np_S}, decode code pc = .ok (.ireturn, 1) → some (v, σ) = some out → cells ≤ R.cells ∧ slots ≤ R.slots → np_At D np_cl A (nc_wd q cA) s σ H locs → W p l e R s m args below meth c H locs cells slots Q (F0 m pc ls [.int (np_i v)])) (hX : va_X b L xs s s.heap) (hbl : b < s.heap.size) (hbA : ¬ A b) (hLs : L < 2147483648) {n : Nat} {k23 : (Int → np_S → Option np_O)} (h23 : ∀ (x4 : Int) (σ : np_S) (H : Heap) (locs : List Loc) (ls : Array Slot) (cells slots : Nat), k23 x4 σ = some out → cells + n ≤ R.cells ∧ slots + 6 * n ≤ R.slots → np_At D np_cl A (nc_wd q cA) s σ H locs → lv_has ls 7 [(0, .ref b), (1, .ref (q 0)), (2, .ref (q 29)), (3, .ref (q 28)), (4, .int (np_i x4))] → W p l e R s m args below meth c H locs cells slots Q (F0 m 23 ls [])) : ∀ (x4 : Int) (σ : np_S) (H : Heap) (locs : List Loc) (ls : Array Slot) (cells slots : Nat), f_law_153 xs L k23 x4 σ = some out → cells + n ≤ R.cells ∧ slots + 6 * n ≤ R.slots → np_At D np_cl A (nc_wd q cA) s σ H locs → lv_has ls 7 [(0, .ref b), (1, .ref (q 0)), (2, .ref (q 29)), (3, .ref (q 28)), (4, .int (np_i x4))] → W p l e R s m args below meth c H locs cells slots Q (F0 m 153 ls []) := by
  intro x4 σ H locs ls cells slots hf hcs hat hl
  unfold f_law_153 at hf
  refine lv_goto (tgt := 692) C.x C.b dd_L_law_153 (by decide) ?_
  exact w_f_law_692 C htr hQ hX hbl hbA hLs h23 _ _ _ _ _ _ _ hf (by omega) hat (lv_sub hl [0, 1, 2, 3, 4] rfl)
set_option maxHeartbeats 4000000 in
set_option maxRecDepth 100000 in
theorem w_f_law_253 (C : np_Cx gA p R s m args c D np_cl (np_ty cA) A np_al "NotationParseLaw" code 7 room_1) (htr : l.stackTraces = false) (hQ : ∀ (pc : Nat) (ls : Array Slot) (H : Heap) (locs : List Loc) (cells slots : Nat) (v : Int) {σ : np_S}, decode code pc = .ok (.ireturn, 1) → some (v, σ) = some out → cells ≤ R.cells ∧ slots ≤ R.slots → np_At D np_cl A (nc_wd q cA) s σ H locs → W p l e R s m args below meth c H locs cells slots Q (F0 m pc ls [.int (np_i v)])) (hX : va_X b L xs s s.heap) (hbl : b < s.heap.size) (hbA : ¬ A b) (hLs : L < 2147483648) {n : Nat} {k23 : (Int → np_S → Option np_O)} (h23 : ∀ (x4 : Int) (σ : np_S) (H : Heap) (locs : List Loc) (ls : Array Slot) (cells slots : Nat), k23 x4 σ = some out → cells + n ≤ R.cells ∧ slots + 6 * n ≤ R.slots → np_At D np_cl A (nc_wd q cA) s σ H locs → lv_has ls 7 [(0, .ref b), (1, .ref (q 0)), (2, .ref (q 29)), (3, .ref (q 28)), (4, .int (np_i x4))] → W p l e R s m args below meth c H locs cells slots Q (F0 m 23 ls [])) : ∀ (x4 : Int) (σ : np_S) (H : Heap) (locs : List Loc) (ls : Array Slot) (cells slots : Nat), f_law_253 xs L k23 x4 σ = some out → cells + n ≤ R.cells ∧ slots + 6 * n ≤ R.slots → np_At D np_cl A (nc_wd q cA) s σ H locs → lv_has ls 7 [(0, .ref b), (1, .ref (q 0)), (2, .ref (q 29)), (3, .ref (q 28)), (4, .int (np_i x4))] → W p l e R s m args below meth c H locs cells slots Q (F0 m 253 ls []) := by
  intro x4 σ H locs ls cells slots hf hcs hat hl
  unfold f_law_253 at hf
  refine lv_goto (tgt := 692) C.x C.b dd_L_law_253 (by decide) ?_
  exact w_f_law_692 C htr hQ hX hbl hbA hLs h23 _ _ _ _ _ _ _ hf (by omega) hat (lv_sub hl [0, 1, 2, 3, 4] rfl)
set_option maxHeartbeats 4000000 in
set_option maxRecDepth 100000 in
theorem w_f_law_309 (C : np_Cx gA p R s m args c D np_cl (np_ty cA) A np_al "NotationParseLaw" code 7 room_1) (htr : l.stackTraces = false) (hQ : ∀ (pc : Nat) (ls : Array Slot) (H : Heap) (locs : List Loc) (cells slots : Nat) (v : Int) {σ : np_S}, decode code pc = .ok (.ireturn, 1) → some (v, σ) = some out → cells ≤ R.cells ∧ slots ≤ R.slots → np_At D np_cl A (nc_wd q cA) s σ H locs → W p l e R s m args below meth c H locs cells slots Q (F0 m pc ls [.int (np_i v)])) (hX : va_X b L xs s s.heap) (hbl : b < s.heap.size) (hbA : ¬ A b) (hLs : L < 2147483648) {n : Nat} {k23 : (Int → np_S → Option np_O)} (h23 : ∀ (x4 : Int) (σ : np_S) (H : Heap) (locs : List Loc) (ls : Array Slot) (cells slots : Nat), k23 x4 σ = some out → cells + n ≤ R.cells ∧ slots + 6 * n ≤ R.slots → np_At D np_cl A (nc_wd q cA) s σ H locs → lv_has ls 7 [(0, .ref b), (1, .ref (q 0)), (2, .ref (q 29)), (3, .ref (q 28)), (4, .int (np_i x4))] → W p l e R s m args below meth c H locs cells slots Q (F0 m 23 ls [])) : ∀ (x4 : Int) (σ : np_S) (H : Heap) (locs : List Loc) (ls : Array Slot) (cells slots : Nat), f_law_309 xs L k23 x4 σ = some out → cells + n ≤ R.cells ∧ slots + 6 * n ≤ R.slots → np_At D np_cl A (nc_wd q cA) s σ H locs → lv_has ls 7 [(0, .ref b), (1, .ref (q 0)), (2, .ref (q 29)), (3, .ref (q 28)), (4, .int (np_i x4))] → W p l e R s m args below meth c H locs cells slots Q (F0 m 309 ls []) := by
  intro x4 σ H locs ls cells slots hf hcs hat hl
  unfold f_law_309 at hf
  refine lv_goto (tgt := 692) C.x C.b dd_L_law_309 (by decide) ?_
  exact w_f_law_692 C htr hQ hX hbl hbA hLs h23 _ _ _ _ _ _ _ hf (by omega) hat (lv_sub hl [0, 1, 2, 3, 4] rfl)
set_option maxHeartbeats 4000000 in
set_option maxRecDepth 100000 in
theorem w_f_law_433 (C : np_Cx gA p R s m args c D np_cl (np_ty cA) A np_al "NotationParseLaw" code 7 room_1) (htr : l.stackTraces = false) (hQ : ∀ (pc : Nat) (ls : Array Slot) (H : Heap) (locs : List Loc) (cells slots : Nat) (v : Int) {σ : np_S}, decode code pc = .ok (.ireturn, 1) → some (v, σ) = some out → cells ≤ R.cells ∧ slots ≤ R.slots → np_At D np_cl A (nc_wd q cA) s σ H locs → W p l e R s m args below meth c H locs cells slots Q (F0 m pc ls [.int (np_i v)])) (hX : va_X b L xs s s.heap) (hbl : b < s.heap.size) (hbA : ¬ A b) (hLs : L < 2147483648) {n : Nat} {k23 : (Int → np_S → Option np_O)} (h23 : ∀ (x4 : Int) (σ : np_S) (H : Heap) (locs : List Loc) (ls : Array Slot) (cells slots : Nat), k23 x4 σ = some out → cells + n ≤ R.cells ∧ slots + 6 * n ≤ R.slots → np_At D np_cl A (nc_wd q cA) s σ H locs → lv_has ls 7 [(0, .ref b), (1, .ref (q 0)), (2, .ref (q 29)), (3, .ref (q 28)), (4, .int (np_i x4))] → W p l e R s m args below meth c H locs cells slots Q (F0 m 23 ls [])) : ∀ (x4 : Int) (σ : np_S) (H : Heap) (locs : List Loc) (ls : Array Slot) (cells slots : Nat), f_law_433 xs L k23 x4 σ = some out → cells + n ≤ R.cells ∧ slots + 6 * n ≤ R.slots → np_At D np_cl A (nc_wd q cA) s σ H locs → lv_has ls 7 [(0, .ref b), (1, .ref (q 0)), (2, .ref (q 29)), (3, .ref (q 28)), (4, .int (np_i x4))] → W p l e R s m args below meth c H locs cells slots Q (F0 m 433 ls []) := by
  intro x4 σ H locs ls cells slots hf hcs hat hl
  unfold f_law_433 at hf
  refine lv_goto (tgt := 692) C.x C.b dd_L_law_433 (by decide) ?_
  exact w_f_law_692 C htr hQ hX hbl hbA hLs h23 _ _ _ _ _ _ _ hf (by omega) hat (lv_sub hl [0, 1, 2, 3, 4] rfl)
set_option maxHeartbeats 4000000 in
set_option maxRecDepth 100000 in
theorem w_f_law_526 (C : np_Cx gA p R s m args c D np_cl (np_ty cA) A np_al "NotationParseLaw" code 7 room_1) (htr : l.stackTraces = false) (hQ : ∀ (pc : Nat) (ls : Array Slot) (H : Heap) (locs : List Loc) (cells slots : Nat) (v : Int) {σ : np_S}, decode code pc = .ok (.ireturn, 1) → some (v, σ) = some out → cells ≤ R.cells ∧ slots ≤ R.slots → np_At D np_cl A (nc_wd q cA) s σ H locs → W p l e R s m args below meth c H locs cells slots Q (F0 m pc ls [.int (np_i v)])) (hX : va_X b L xs s s.heap) (hbl : b < s.heap.size) (hbA : ¬ A b) (hLs : L < 2147483648) {n : Nat} {k23 : (Int → np_S → Option np_O)} (h23 : ∀ (x4 : Int) (σ : np_S) (H : Heap) (locs : List Loc) (ls : Array Slot) (cells slots : Nat), k23 x4 σ = some out → cells + n ≤ R.cells ∧ slots + 6 * n ≤ R.slots → np_At D np_cl A (nc_wd q cA) s σ H locs → lv_has ls 7 [(0, .ref b), (1, .ref (q 0)), (2, .ref (q 29)), (3, .ref (q 28)), (4, .int (np_i x4))] → W p l e R s m args below meth c H locs cells slots Q (F0 m 23 ls [])) : ∀ (x4 : Int) (σ : np_S) (H : Heap) (locs : List Loc) (ls : Array Slot) (cells slots : Nat), f_law_526 xs L k23 x4 σ = some out → cells + n ≤ R.cells ∧ slots + 6 * n ≤ R.slots → np_At D np_cl A (nc_wd q cA) s σ H locs → lv_has ls 7 [(0, .ref b), (1, .ref (q 0)), (2, .ref (q 29)), (3, .ref (q 28)), (4, .int (np_i x4))] → W p l e R s m args below meth c H locs cells slots Q (F0 m 526 ls []) := by
  intro x4 σ H locs ls cells slots hf hcs hat hl
  unfold f_law_526 at hf
  refine lv_goto (tgt := 692) C.x C.b dd_L_law_526 (by decide) ?_
  exact w_f_law_692 C htr hQ hX hbl hbA hLs h23 _ _ _ _ _ _ _ hf (by omega) hat (lv_sub hl [0, 1, 2, 3, 4] rfl)
set_option maxHeartbeats 4000000 in
set_option maxRecDepth 100000 in
theorem w_f_law_570 (C : np_Cx gA p R s m args c D np_cl (np_ty cA) A np_al "NotationParseLaw" code 7 room_1) (htr : l.stackTraces = false) (hQ : ∀ (pc : Nat) (ls : Array Slot) (H : Heap) (locs : List Loc) (cells slots : Nat) (v : Int) {σ : np_S}, decode code pc = .ok (.ireturn, 1) → some (v, σ) = some out → cells ≤ R.cells ∧ slots ≤ R.slots → np_At D np_cl A (nc_wd q cA) s σ H locs → W p l e R s m args below meth c H locs cells slots Q (F0 m pc ls [.int (np_i v)])) (hX : va_X b L xs s s.heap) (hbl : b < s.heap.size) (hbA : ¬ A b) (hLs : L < 2147483648) {n : Nat} {k23 : (Int → np_S → Option np_O)} (h23 : ∀ (x4 : Int) (σ : np_S) (H : Heap) (locs : List Loc) (ls : Array Slot) (cells slots : Nat), k23 x4 σ = some out → cells + n ≤ R.cells ∧ slots + 6 * n ≤ R.slots → np_At D np_cl A (nc_wd q cA) s σ H locs → lv_has ls 7 [(0, .ref b), (1, .ref (q 0)), (2, .ref (q 29)), (3, .ref (q 28)), (4, .int (np_i x4))] → W p l e R s m args below meth c H locs cells slots Q (F0 m 23 ls [])) : ∀ (x4 : Int) (σ : np_S) (H : Heap) (locs : List Loc) (ls : Array Slot) (cells slots : Nat), f_law_570 xs L k23 x4 σ = some out → cells + n ≤ R.cells ∧ slots + 6 * n ≤ R.slots → np_At D np_cl A (nc_wd q cA) s σ H locs → lv_has ls 7 [(0, .ref b), (1, .ref (q 0)), (2, .ref (q 29)), (3, .ref (q 28)), (4, .int (np_i x4))] → W p l e R s m args below meth c H locs cells slots Q (F0 m 570 ls []) := by
  intro x4 σ H locs ls cells slots hf hcs hat hl
  unfold f_law_570 at hf
  refine lv_goto (tgt := 692) C.x C.b dd_L_law_570 (by decide) ?_
  exact w_f_law_692 C htr hQ hX hbl hbA hLs h23 _ _ _ _ _ _ _ hf (by omega) hat (lv_sub hl [0, 1, 2, 3, 4] rfl)
set_option maxHeartbeats 4000000 in
set_option maxRecDepth 100000 in
theorem w_f_law_23 (C : np_Cx gA p R s m args c D np_cl (np_ty cA) A np_al "NotationParseLaw" code 7 room_1) (htr : l.stackTraces = false) (hQ : ∀ (pc : Nat) (ls : Array Slot) (H : Heap) (locs : List Loc) (cells slots : Nat) (v : Int) {σ : np_S}, decode code pc = .ok (.ireturn, 1) → some (v, σ) = some out → cells ≤ R.cells ∧ slots ≤ R.slots → np_At D np_cl A (nc_wd q cA) s σ H locs → W p l e R s m args below meth c H locs cells slots Q (F0 m pc ls [.int (np_i v)])) (hX : va_X b L xs s s.heap) (hbl : b < s.heap.size) (hbA : ¬ A b) (hLs : L < 2147483648)   : ∀ (n : Nat), ∀ (x4 : Int) (σ : np_S) (H : Heap) (locs : List Loc) (ls : Array Slot) (cells slots : Nat), f_law_23 xs L  n x4 σ = some out → cells + n ≤ R.cells ∧ slots + 6 * n ≤ R.slots → np_At D np_cl A (nc_wd q cA) s σ H locs → lv_has ls 7 [(0, .ref b), (1, .ref (q 0)), (2, .ref (q 29)), (3, .ref (q 28)), (4, .int (np_i x4))] → W p l e R s m args below meth c H locs cells slots Q (F0 m 23 ls []) := by
  intro n
  induction n with
  | zero => intro x4 σ H locs ls cells slots hf; cases hf
  | succ n ih =>
    intro x4 σ H locs ls cells slots hf hcs hat hl
    have h23 := ih
    have hf : f_law_23_b xs L  (fun x4 σ => f_law_23 xs L  n x4 σ) x4 σ = some out := hf
    unfold f_law_23_b at hf
    refine lv_iload C.x C.b dd_L_law_23 (lv_at hl 4 rfl) ?_
    refine lv_aload_n C.x C.b dd_L_law_25 rfl (lv_at hl 0 rfl) ?_
    refine np_slen C hX hbl hbA hat dd_L_law_26 ?_
    refine lv_iconst (v := np_i 4) C.x C.b dd_L_law_27 rfl ?_
    refine np_isub C dd_L_law_28 ?_
    refine np_icmp_gt (tgt := 698) C dd_L_law_29 (by decide) hf (fun _ hf => ?_) (fun _ hf => ?_)
    · refine lv_iconst (v := np_i 1) C.x C.b dd_L_law_698 rfl ?_
      exact hQ _ _ _ _ _ _ _ dd_L_law_699 hf (by omega) hat
    · refine lv_aload_n C.x C.b dd_L_law_32 rfl (lv_at hl 0 rfl) ?_
      refine lv_iload C.x C.b dd_L_law_33 (lv_at hl 4 rfl) ?_
      refine np_sld C hX hbl hbA hLs hat dd_L_law_35 hf (fun hf => ?_)
      refine lv_bipush (v := np_i 15) C.x C.b dd_L_law_36 (by decide +kernel) ?_
      refine np_iand C dd_L_law_38 ?_
      obtain ⟨hR, hf⟩ := np_ck_e hf
      refine np_case hf (fun hx hf => ?_) (fun n0 hf => ?_)
      · refine np_tswI (tgt := 100) (off := 61) C dd_L_law_39 hx (by decide +kernel) (by decide +kernel) (by decide +kernel) (by decide) ?_
        refine lv_aload_n C.x C.b dd_L_law_100 rfl (lv_at hl 1 rfl) ?_
        refine lv_aload_n C.x C.b dd_L_law_101 rfl (lv_at hl 0 rfl) ?_
        refine lv_iload C.x C.b dd_L_law_102 (lv_at hl 4 rfl) ?_
        refine lv_iconst (v := np_i 1) C.x C.b dd_L_law_104 rfl ?_
        refine np_iadd C dd_L_law_105 ?_
        refine np_sld C hX hbl hbA hLs hat dd_L_law_106 hf (fun hf => ?_)
        refine lv_aload_n C.x C.b dd_L_law_107 rfl (lv_at hl 3 rfl) ?_
        refine np_callW (As := [.ref (q 0), .int (np_i (np_sc xs (x4 + 1))), .ref (q 28)]) (rest := []) C (c_L_hole l htr (np_sc xs (x4 + 1)) _) np_allgood tw_363 tw_364 tw_0 tw_365 (nA := 3) (by decide +kernel) rfl ⟨rfl, rfl, Nat.le_of_ble_eq_true rfl, Nat.le_of_ble_eq_true rfl⟩ hat rfl hl.1 (by omega) (Nat.le_of_ble_eq_true rfl) dd_L_law_108 hf (fun o1 H locs hf hat => ?_)
        refine lv_istore (lv' := [(5, .int (np_i o1.1)), (0, .ref b), (1, .ref (q 0)), (2, .ref (q 29)), (3, .ref (q 28)), (4, .int (np_i x4))]) C.x C.b dd_L_law_111 hl (by decide) rfl (fun ls hl => ?_)
        refine lv_aload_n C.x C.b dd_L_law_113 rfl (lv_at hl 3 rfl) ?_
        refine lv_aload_n C.x C.b dd_L_law_114 rfl (lv_at hl 1 rfl) ?_
        refine lv_iload C.x C.b dd_L_law_115 (lv_at hl 5 rfl) ?_
        refine lv_iconst (v := np_i 1) C.x C.b dd_L_law_117 rfl ?_
        refine np_iadd C dd_L_law_118 ?_
        refine np_sld C hX hbl hbA hLs hat dd_L_law_119 hf (fun hf => ?_)
        refine np_gcallVi (As := [.int (np_i (np_sc xs (x4 + 1)))]) (rest := []) C (c_M_hole l (np_sc xs (x4 + 1)) _) np_allgood tw_1022 tw_1023 tw_1024 tw_8 tw_1025 (nA := 1) (by decide +kernel) rfl ⟨rfl, rfl, Nat.le_of_ble_eq_true rfl, Nat.le_of_ble_eq_true rfl⟩ (va_recv C.k hat.1 (ci := 6) (q0 := 29) rfl (nc_o29 _)) hat rfl hl.1 (by omega) (Nat.le_of_ble_eq_true rfl) dd_L_law_120 hf (fun o2 H locs hf hat => ?_)
        refine lv_istore (lv' := [(6, .int (np_i o2.1)), (5, .int (np_i o1.1)), (0, .ref b), (1, .ref (q 0)), (2, .ref (q 29)), (3, .ref (q 28)), (4, .int (np_i x4))]) C.x C.b dd_L_law_123 hl (by decide) rfl (fun ls hl => ?_)
        refine lv_aload_n C.x C.b dd_L_law_125 rfl (lv_at hl 4 rfl) ?_
        refine np_gcallVi (As := []) (rest := []) C (c_M_thrown l _) np_allgood tw_1018 tw_1019 tw_1020 tw_8 tw_1021 (nA := 0) (by decide +kernel) rfl ⟨rfl, rfl, Nat.le_of_ble_eq_true rfl, Nat.le_of_ble_eq_true rfl⟩ (va_recv C.k hat.1 (ci := 6) (q0 := 29) rfl (nc_o29 _)) hat rfl hl.1 (by omega) (Nat.le_of_ble_eq_true rfl) dd_L_law_126 hf (fun o3 H locs hf hat => ?_)
        refine lv_iload C.x C.b dd_L_law_129 (lv_at hl 1 rfl) ?_
        refine np_icmp_eq (tgt := 136) C dd_L_law_131 (by decide) hf (fun _ hf => ?_) (fun _ hf => ?_)
        · refine lv_iload C.x C.b dd_L_law_136 (lv_at hl 1 rfl) ?_
          refine np_if_ne (tgt := 153) C dd_L_law_138 (by decide) hf (fun _ hf => ?_) (fun _ hf => ?_)
          · exact w_f_law_153 C htr hQ hX hbl hbA hLs h23 _ _ _ _ _ _ _ hf (by omega) hat (lv_sub hl [2, 3, 4, 5, 6] rfl)
          · refine lv_aload_n C.x C.b dd_L_law_141 rfl (lv_at hl 5 rfl) ?_
            refine lv_iconst (v := np_i 0) C.x C.b dd_L_law_142 rfl ?_
            refine np_laload C hat.1 28 (nc_a28 _) 1 rfl (by decide) dd_L_law_143 hf (fun hf => ?_)
            refine lv_iload C.x C.b dd_L_law_144 (lv_at hl 0 rfl) ?_
            refine np_i2l C dd_L_law_146 hf (fun hf => ?_)
            refine np_lcmp C dd_L_law_147 hf (fun hf => ?_)
            refine np_if_eq (tgt := 153) C dd_L_law_148 (by decide) hf (fun _ hf => ?_) (fun _ hf => ?_)
            · exact w_f_law_153 C htr hQ hX hbl hbA hLs h23 _ _ _ _ _ _ _ hf (by omega) hat (lv_sub hl [2, 3, 4, 5, 6] rfl)
            · refine lv_iconst (v := np_i 0) C.x C.b dd_L_law_151 rfl ?_
              exact hQ _ _ _ _ _ _ _ dd_L_law_152 hf (by omega) hat
        · refine lv_iconst (v := np_i 0) C.x C.b dd_L_law_134 rfl ?_
          exact hQ _ _ _ _ _ _ _ dd_L_law_135 hf (by omega) hat
      refine np_case hf (fun hx hf => ?_) (fun n1 hf => ?_)
      · refine np_tswI (tgt := 156) (off := 117) C dd_L_law_39 hx (by decide +kernel) (by decide +kernel) (by decide +kernel) (by decide) ?_
        refine lv_aload_n C.x C.b dd_L_law_156 rfl (lv_at hl 1 rfl) ?_
        refine lv_aload_n C.x C.b dd_L_law_157 rfl (lv_at hl 0 rfl) ?_
        refine lv_iload C.x C.b dd_L_law_158 (lv_at hl 4 rfl) ?_
        refine lv_iconst (v := np_i 1) C.x C.b dd_L_law_160 rfl ?_
        refine np_iadd C dd_L_law_161 ?_
        refine np_sld C hX hbl hbA hLs hat dd_L_law_162 hf (fun hf => ?_)
        refine np_i2l C dd_L_law_163 hf (fun hf => ?_)
        refine lv_bipush (v := np_i 32) C.x C.b dd_L_law_164 (by decide +kernel) ?_
        refine np_lshl C dd_L_law_166 ?_
        refine lv_aload_n C.x C.b dd_L_law_167 rfl (lv_at hl 0 rfl) ?_
        refine lv_iload C.x C.b dd_L_law_168 (lv_at hl 4 rfl) ?_
        refine lv_iconst (v := np_i 2) C.x C.b dd_L_law_170 rfl ?_
        refine np_iadd C dd_L_law_171 ?_
        refine np_sld C hX hbl hbA hLs hat dd_L_law_172 hf (fun hf => ?_)
        refine np_i2l C dd_L_law_173 hf (fun hf => ?_)
        refine np_ldc2 (v := 4294967295) C tw_1187 dd_L_law_174 ?_
        refine np_land C dd_L_law_177 ?_
        refine np_lor C dd_L_law_178 ?_
        refine lv_aload_n C.x C.b dd_L_law_179 rfl (lv_at hl 0 rfl) ?_
        refine lv_iload C.x C.b dd_L_law_180 (lv_at hl 4 rfl) ?_
        refine lv_iconst (v := np_i 3) C.x C.b dd_L_law_182 rfl ?_
        refine np_iadd C dd_L_law_183 ?_
        refine np_sld C hX hbl hbA hLs hat dd_L_law_184 hf (fun hf => ?_)
        refine lv_aload_n C.x C.b dd_L_law_185 rfl (lv_at hl 3 rfl) ?_
        refine np_callW (As := [.ref (q 0), .long (np_l (np_orl (np_shll (np_sc xs (x4 + 1)) 32) (np_andl (np_sc xs (x4 + 2)) 4294967295))), .int (np_i (np_sc xs (x4 + 3))), .ref (q 28)]) (rest := []) C (c_L_word l htr (np_orl (np_shll (np_sc xs (x4 + 1)) 32) (np_andl (np_sc xs (x4 + 2)) 4294967295)) (np_sc xs (x4 + 3)) _) np_allgood tw_465 tw_466 tw_0 tw_467 (nA := 4) (by decide +kernel) rfl ⟨rfl, rfl, Nat.le_of_ble_eq_true rfl, Nat.le_of_ble_eq_true rfl⟩ hat rfl hl.1 (by omega) (Nat.le_of_ble_eq_true rfl) dd_L_law_186 hf (fun o4 H locs hf hat => ?_)
        refine lv_istore (lv' := [(5, .int (np_i o4.1)), (0, .ref b), (1, .ref (q 0)), (2, .ref (q 29)), (3, .ref (q 28)), (4, .int (np_i x4))]) C.x C.b dd_L_law_189 hl (by decide) rfl (fun ls hl => ?_)
        refine lv_aload_n C.x C.b dd_L_law_191 rfl (lv_at hl 3 rfl) ?_
        refine lv_aload_n C.x C.b dd_L_law_192 rfl (lv_at hl 1 rfl) ?_
        refine lv_iload C.x C.b dd_L_law_193 (lv_at hl 5 rfl) ?_
        refine lv_iconst (v := np_i 1) C.x C.b dd_L_law_195 rfl ?_
        refine np_iadd C dd_L_law_196 ?_
        refine np_sld C hX hbl hbA hLs hat dd_L_law_197 hf (fun hf => ?_)
        refine np_i2l C dd_L_law_198 hf (fun hf => ?_)
        refine lv_bipush (v := np_i 32) C.x C.b dd_L_law_199 (by decide +kernel) ?_
        refine np_lshl C dd_L_law_201 ?_
        refine lv_aload_n C.x C.b dd_L_law_202 rfl (lv_at hl 1 rfl) ?_
        refine lv_iload C.x C.b dd_L_law_203 (lv_at hl 5 rfl) ?_
        refine lv_iconst (v := np_i 2) C.x C.b dd_L_law_205 rfl ?_
        refine np_iadd C dd_L_law_206 ?_
        refine np_sld C hX hbl hbA hLs hat dd_L_law_207 hf (fun hf => ?_)
        refine np_i2l C dd_L_law_208 hf (fun hf => ?_)
        refine np_ldc2 (v := 4294967295) C tw_1187 dd_L_law_209 ?_
        refine np_land C dd_L_law_212 ?_
        refine np_lor C dd_L_law_213 ?_
        refine lv_aload_n C.x C.b dd_L_law_214 rfl (lv_at hl 1 rfl) ?_
        refine lv_iload C.x C.b dd_L_law_215 (lv_at hl 5 rfl) ?_
        refine lv_iconst (v := np_i 3) C.x C.b dd_L_law_217 rfl ?_
        refine np_iadd C dd_L_law_218 ?_
        refine np_sld C hX hbl hbA hLs hat dd_L_law_219 hf (fun hf => ?_)
        refine np_gcallVi (As := [.long (np_l (np_orl (np_shll (np_sc xs (x4 + 1)) 32) (np_andl (np_sc xs (x4 + 2)) 4294967295))), .int (np_i (np_sc xs (x4 + 3)))]) (rest := []) C (c_M_word l (np_orl (np_shll (np_sc xs (x4 + 1)) 32) (np_andl (np_sc xs (x4 + 2)) 4294967295)) (np_sc xs (x4 + 3)) _) np_allgood tw_1030 tw_1031 tw_1032 tw_8 tw_1033 (nA := 2) (by decide +kernel) rfl ⟨rfl, rfl, Nat.le_of_ble_eq_true rfl, Nat.le_of_ble_eq_true rfl⟩ (va_recv C.k hat.1 (ci := 6) (q0 := 29) rfl (nc_o29 _)) hat rfl hl.1 (by omega) (Nat.le_of_ble_eq_true rfl) dd_L_law_220 hf (fun o5 H locs hf hat => ?_)
        refine lv_istore (lv' := [(6, .int (np_i o5.1)), (5, .int (np_i o4.1)), (0, .ref b), (1, .ref (q 0)), (2, .ref (q 29)), (3, .ref (q 28)), (4, .int (np_i x4))]) C.x C.b dd_L_law_223 hl (by decide) rfl (fun ls hl => ?_)
        refine lv_aload_n C.x C.b dd_L_law_225 rfl (lv_at hl 4 rfl) ?_
        refine np_gcallVi (As := []) (rest := []) C (c_M_thrown l _) np_allgood tw_1018 tw_1019 tw_1020 tw_8 tw_1021 (nA := 0) (by decide +kernel) rfl ⟨rfl, rfl, Nat.le_of_ble_eq_true rfl, Nat.le_of_ble_eq_true rfl⟩ (va_recv C.k hat.1 (ci := 6) (q0 := 29) rfl (nc_o29 _)) hat rfl hl.1 (by omega) (Nat.le_of_ble_eq_true rfl) dd_L_law_226 hf (fun o6 H locs hf hat => ?_)
        refine lv_iload C.x C.b dd_L_law_229 (lv_at hl 1 rfl) ?_
        refine np_icmp_eq (tgt := 236) C dd_L_law_231 (by decide) hf (fun _ hf => ?_) (fun _ hf => ?_)
        · refine lv_iload C.x C.b dd_L_law_236 (lv_at hl 1 rfl) ?_
          refine np_if_ne (tgt := 253) C dd_L_law_238 (by decide) hf (fun _ hf => ?_) (fun _ hf => ?_)
          · exact w_f_law_253 C htr hQ hX hbl hbA hLs h23 _ _ _ _ _ _ _ hf (by omega) hat (lv_sub hl [2, 3, 4, 5, 6] rfl)
          · refine lv_aload_n C.x C.b dd_L_law_241 rfl (lv_at hl 5 rfl) ?_
            refine lv_iconst (v := np_i 0) C.x C.b dd_L_law_242 rfl ?_
            refine np_laload C hat.1 28 (nc_a28 _) 1 rfl (by decide) dd_L_law_243 hf (fun hf => ?_)
            refine lv_iload C.x C.b dd_L_law_244 (lv_at hl 0 rfl) ?_
            refine np_i2l C dd_L_law_246 hf (fun hf => ?_)
            refine np_lcmp C dd_L_law_247 hf (fun hf => ?_)
            refine np_if_eq (tgt := 253) C dd_L_law_248 (by decide) hf (fun _ hf => ?_) (fun _ hf => ?_)
            · exact w_f_law_253 C htr hQ hX hbl hbA hLs h23 _ _ _ _ _ _ _ hf (by omega) hat (lv_sub hl [2, 3, 4, 5, 6] rfl)
            · refine lv_iconst (v := np_i 0) C.x C.b dd_L_law_251 rfl ?_
              exact hQ _ _ _ _ _ _ _ dd_L_law_252 hf (by omega) hat
        · refine lv_iconst (v := np_i 0) C.x C.b dd_L_law_234 rfl ?_
          exact hQ _ _ _ _ _ _ _ dd_L_law_235 hf (by omega) hat
      refine np_case hf (fun hx hf => ?_) (fun n2 hf => ?_)
      · refine np_tswI (tgt := 256) (off := 217) C dd_L_law_39 hx (by decide +kernel) (by decide +kernel) (by decide +kernel) (by decide) ?_
        refine lv_aload_n C.x C.b dd_L_law_256 rfl (lv_at hl 1 rfl) ?_
        refine lv_aload_n C.x C.b dd_L_law_257 rfl (lv_at hl 0 rfl) ?_
        refine lv_iload C.x C.b dd_L_law_258 (lv_at hl 4 rfl) ?_
        refine lv_iconst (v := np_i 1) C.x C.b dd_L_law_260 rfl ?_
        refine np_iadd C dd_L_law_261 ?_
        refine np_sld C hX hbl hbA hLs hat dd_L_law_262 hf (fun hf => ?_)
        refine lv_aload_n C.x C.b dd_L_law_263 rfl (lv_at hl 3 rfl) ?_
        refine np_callW (As := [.ref (q 0), .int (np_i (np_sc xs (x4 + 1))), .ref (q 28)]) (rest := []) C (c_L_notation l htr (np_sc xs (x4 + 1)) _) np_allgood tw_476 tw_477 tw_0 tw_478 (nA := 3) (by decide +kernel) rfl ⟨rfl, rfl, Nat.le_of_ble_eq_true rfl, Nat.le_of_ble_eq_true rfl⟩ hat rfl hl.1 (by omega) (Nat.le_of_ble_eq_true rfl) dd_L_law_264 hf (fun o7 H locs hf hat => ?_)
        refine lv_istore (lv' := [(5, .int (np_i o7.1)), (0, .ref b), (1, .ref (q 0)), (2, .ref (q 29)), (3, .ref (q 28)), (4, .int (np_i x4))]) C.x C.b dd_L_law_267 hl (by decide) rfl (fun ls hl => ?_)
        refine lv_aload_n C.x C.b dd_L_law_269 rfl (lv_at hl 3 rfl) ?_
        refine lv_aload_n C.x C.b dd_L_law_270 rfl (lv_at hl 1 rfl) ?_
        refine lv_iload C.x C.b dd_L_law_271 (lv_at hl 5 rfl) ?_
        refine lv_iconst (v := np_i 1) C.x C.b dd_L_law_273 rfl ?_
        refine np_iadd C dd_L_law_274 ?_
        refine np_sld C hX hbl hbA hLs hat dd_L_law_275 hf (fun hf => ?_)
        refine np_gcallVi (As := [.int (np_i (np_sc xs (x4 + 1)))]) (rest := []) C (c_M_notation l (np_sc xs (x4 + 1)) _) np_allgood tw_1055 tw_1056 tw_1057 tw_8 tw_1058 (nA := 1) (by decide +kernel) rfl ⟨rfl, rfl, Nat.le_of_ble_eq_true rfl, Nat.le_of_ble_eq_true rfl⟩ (va_recv C.k hat.1 (ci := 6) (q0 := 29) rfl (nc_o29 _)) hat rfl hl.1 (by omega) (Nat.le_of_ble_eq_true rfl) dd_L_law_276 hf (fun o8 H locs hf hat => ?_)
        refine lv_istore (lv' := [(6, .int (np_i o8.1)), (5, .int (np_i o7.1)), (0, .ref b), (1, .ref (q 0)), (2, .ref (q 29)), (3, .ref (q 28)), (4, .int (np_i x4))]) C.x C.b dd_L_law_279 hl (by decide) rfl (fun ls hl => ?_)
        refine lv_aload_n C.x C.b dd_L_law_281 rfl (lv_at hl 4 rfl) ?_
        refine np_gcallVi (As := []) (rest := []) C (c_M_thrown l _) np_allgood tw_1018 tw_1019 tw_1020 tw_8 tw_1021 (nA := 0) (by decide +kernel) rfl ⟨rfl, rfl, Nat.le_of_ble_eq_true rfl, Nat.le_of_ble_eq_true rfl⟩ (va_recv C.k hat.1 (ci := 6) (q0 := 29) rfl (nc_o29 _)) hat rfl hl.1 (by omega) (Nat.le_of_ble_eq_true rfl) dd_L_law_282 hf (fun o9 H locs hf hat => ?_)
        refine lv_iload C.x C.b dd_L_law_285 (lv_at hl 1 rfl) ?_
        refine np_icmp_eq (tgt := 292) C dd_L_law_287 (by decide) hf (fun _ hf => ?_) (fun _ hf => ?_)
        · refine lv_iload C.x C.b dd_L_law_292 (lv_at hl 1 rfl) ?_
          refine np_if_ne (tgt := 309) C dd_L_law_294 (by decide) hf (fun _ hf => ?_) (fun _ hf => ?_)
          · exact w_f_law_309 C htr hQ hX hbl hbA hLs h23 _ _ _ _ _ _ _ hf (by omega) hat (lv_sub hl [2, 3, 4, 5, 6] rfl)
          · refine lv_aload_n C.x C.b dd_L_law_297 rfl (lv_at hl 5 rfl) ?_
            refine lv_iconst (v := np_i 0) C.x C.b dd_L_law_298 rfl ?_
            refine np_laload C hat.1 28 (nc_a28 _) 1 rfl (by decide) dd_L_law_299 hf (fun hf => ?_)
            refine lv_iload C.x C.b dd_L_law_300 (lv_at hl 0 rfl) ?_
            refine np_i2l C dd_L_law_302 hf (fun hf => ?_)
            refine np_lcmp C dd_L_law_303 hf (fun hf => ?_)
            refine np_if_eq (tgt := 309) C dd_L_law_304 (by decide) hf (fun _ hf => ?_) (fun _ hf => ?_)
            · exact w_f_law_309 C htr hQ hX hbl hbA hLs h23 _ _ _ _ _ _ _ hf (by omega) hat (lv_sub hl [2, 3, 4, 5, 6] rfl)
            · refine lv_iconst (v := np_i 0) C.x C.b dd_L_law_307 rfl ?_
              exact hQ _ _ _ _ _ _ _ dd_L_law_308 hf (by omega) hat
        · refine lv_iconst (v := np_i 0) C.x C.b dd_L_law_290 rfl ?_
          exact hQ _ _ _ _ _ _ _ dd_L_law_291 hf (by omega) hat
      refine np_case hf (fun hx hf => ?_) (fun n3 hf => ?_)
      · refine np_tswI (tgt := 312) (off := 273) C dd_L_law_39 hx (by decide +kernel) (by decide +kernel) (by decide +kernel) (by decide) ?_
        refine lv_aload_n C.x C.b dd_L_law_312 rfl (lv_at hl 1 rfl) ?_
        refine lv_aload_n C.x C.b dd_L_law_313 rfl (lv_at hl 0 rfl) ?_
        refine lv_iload C.x C.b dd_L_law_314 (lv_at hl 4 rfl) ?_
        refine lv_iconst (v := np_i 1) C.x C.b dd_L_law_316 rfl ?_
        refine np_iadd C dd_L_law_317 ?_
        refine np_sld C hX hbl hbA hLs hat dd_L_law_318 hf (fun hf => ?_)
        refine np_i2l C dd_L_law_319 hf (fun hf => ?_)
        refine lv_bipush (v := np_i 32) C.x C.b dd_L_law_320 (by decide +kernel) ?_
        refine np_lshl C dd_L_law_322 ?_
        refine lv_aload_n C.x C.b dd_L_law_323 rfl (lv_at hl 0 rfl) ?_
        refine lv_iload C.x C.b dd_L_law_324 (lv_at hl 4 rfl) ?_
        refine lv_iconst (v := np_i 2) C.x C.b dd_L_law_326 rfl ?_
        refine np_iadd C dd_L_law_327 ?_
        refine np_sld C hX hbl hbA hLs hat dd_L_law_328 hf (fun hf => ?_)
        refine np_i2l C dd_L_law_329 hf (fun hf => ?_)
        refine np_ldc2 (v := 4294967295) C tw_1187 dd_L_law_330 ?_
        refine np_land C dd_L_law_333 ?_
        refine np_lor C dd_L_law_334 ?_
        refine lv_aload_n C.x C.b dd_L_law_335 rfl (lv_at hl 0 rfl) ?_
        refine lv_iload C.x C.b dd_L_law_336 (lv_at hl 4 rfl) ?_
        refine lv_iconst (v := np_i 3) C.x C.b dd_L_law_338 rfl ?_
        refine np_iadd C dd_L_law_339 ?_
        refine np_sld C hX hbl hbA hLs hat dd_L_law_340 hf (fun hf => ?_)
        refine np_gcallVi (As := [.long (np_l (np_orl (np_shll (np_sc xs (x4 + 1)) 32) (np_andl (np_sc xs (x4 + 2)) 4294967295))), .int (np_i (np_sc xs (x4 + 3)))]) (rest := []) C (c_N_put l (np_orl (np_shll (np_sc xs (x4 + 1)) 32) (np_andl (np_sc xs (x4 + 2)) 4294967295)) (np_sc xs (x4 + 3)) _) np_allgood tw_226 tw_227 tw_228 tw_1 tw_229 (nA := 2) (by decide +kernel) rfl ⟨rfl, rfl, Nat.le_of_ble_eq_true rfl, Nat.le_of_ble_eq_true rfl⟩ (va_recv C.k hat.1 (ci := 0) (q0 := 0) rfl (nc_o0 _)) hat rfl hl.1 (by omega) (Nat.le_of_ble_eq_true rfl) dd_L_law_341 hf (fun o10 H locs hf hat => ?_)
        refine lv_aload_n C.x C.b dd_L_law_344 rfl (lv_at hl 2 rfl) ?_
        refine lv_aload_n C.x C.b dd_L_law_345 rfl (lv_at hl 0 rfl) ?_
        refine lv_iload C.x C.b dd_L_law_346 (lv_at hl 4 rfl) ?_
        refine lv_iconst (v := np_i 1) C.x C.b dd_L_law_348 rfl ?_
        refine np_iadd C dd_L_law_349 ?_
        refine np_sld C hX hbl hbA hLs hat dd_L_law_350 hf (fun hf => ?_)
        refine np_i2l C dd_L_law_351 hf (fun hf => ?_)
        refine lv_bipush (v := np_i 32) C.x C.b dd_L_law_352 (by decide +kernel) ?_
        refine np_lshl C dd_L_law_354 ?_
        refine lv_aload_n C.x C.b dd_L_law_355 rfl (lv_at hl 0 rfl) ?_
        refine lv_iload C.x C.b dd_L_law_356 (lv_at hl 4 rfl) ?_
        refine lv_iconst (v := np_i 2) C.x C.b dd_L_law_358 rfl ?_
        refine np_iadd C dd_L_law_359 ?_
        refine np_sld C hX hbl hbA hLs hat dd_L_law_360 hf (fun hf => ?_)
        refine np_i2l C dd_L_law_361 hf (fun hf => ?_)
        refine np_ldc2 (v := 4294967295) C tw_1187 dd_L_law_362 ?_
        refine np_land C dd_L_law_365 ?_
        refine np_lor C dd_L_law_366 ?_
        refine lv_aload_n C.x C.b dd_L_law_367 rfl (lv_at hl 0 rfl) ?_
        refine lv_iload C.x C.b dd_L_law_368 (lv_at hl 4 rfl) ?_
        refine lv_iconst (v := np_i 3) C.x C.b dd_L_law_370 rfl ?_
        refine np_iadd C dd_L_law_371 ?_
        refine np_sld C hX hbl hbA hLs hat dd_L_law_372 hf (fun hf => ?_)
        refine np_gcallVi (As := [.long (np_l (np_orl (np_shll (np_sc xs (x4 + 1)) 32) (np_andl (np_sc xs (x4 + 2)) 4294967295))), .int (np_i (np_sc xs (x4 + 3)))]) (rest := [.int (np_i o10.1)]) C (c_M_put l (np_orl (np_shll (np_sc xs (x4 + 1)) 32) (np_andl (np_sc xs (x4 + 2)) 4294967295)) (np_sc xs (x4 + 3)) _) np_allgood tw_1059 tw_1060 tw_1061 tw_8 tw_1062 (nA := 2) (by decide +kernel) rfl ⟨rfl, rfl, Nat.le_of_ble_eq_true rfl, Nat.le_of_ble_eq_true rfl⟩ (va_recv C.k hat.1 (ci := 6) (q0 := 29) rfl (nc_o29 _)) hat rfl hl.1 (by omega) (Nat.le_of_ble_eq_true rfl) dd_L_law_373 hf (fun o11 H locs hf hat => ?_)
        refine np_icmp_eq (tgt := 692) C dd_L_law_376 (by decide) hf (fun _ hf => ?_) (fun _ hf => ?_)
        · exact w_f_law_692 C htr hQ hX hbl hbA hLs h23 _ _ _ _ _ _ _ hf (by omega) hat (lv_sub hl [0, 1, 2, 3, 4] rfl)
        · refine lv_iconst (v := np_i 0) C.x C.b dd_L_law_379 rfl ?_
          exact hQ _ _ _ _ _ _ _ dd_L_law_380 hf (by omega) hat
      refine np_case hf (fun hx hf => ?_) (fun n4 hf => ?_)
      · refine np_tswI (tgt := 381) (off := 342) C dd_L_law_39 hx (by decide +kernel) (by decide +kernel) (by decide +kernel) (by decide) ?_
        refine lv_aload_n C.x C.b dd_L_law_381 rfl (lv_at hl 1 rfl) ?_
        refine np_gcallVv (As := []) (rest := []) C (c_N_clear l _) np_allgood tw_237 tw_238 tw_239 tw_1 tw_240 (nA := 0) (by decide +kernel) rfl ⟨rfl, rfl, Nat.le_of_ble_eq_true rfl, Nat.le_of_ble_eq_true rfl⟩ (va_recv C.k hat.1 (ci := 0) (q0 := 0) rfl (nc_o0 _)) hat rfl hl.1 (by omega) (Nat.le_of_ble_eq_true rfl) dd_L_law_382 hf (fun o12 H locs hf hat => ?_)
        refine lv_aload_n C.x C.b dd_L_law_385 rfl (lv_at hl 2 rfl) ?_
        refine np_gcallVv (As := []) (rest := []) C (c_M_clear l _) np_allgood tw_1063 tw_1064 tw_1065 tw_8 tw_1066 (nA := 0) (by decide +kernel) rfl ⟨rfl, rfl, Nat.le_of_ble_eq_true rfl, Nat.le_of_ble_eq_true rfl⟩ (va_recv C.k hat.1 (ci := 6) (q0 := 29) rfl (nc_o29 _)) hat rfl hl.1 (by omega) (Nat.le_of_ble_eq_true rfl) dd_L_law_386 hf (fun o13 H locs hf hat => ?_)
        refine lv_goto (tgt := 692) C.x C.b dd_L_law_389 (by decide) ?_
        exact w_f_law_692 C htr hQ hX hbl hbA hLs h23 _ _ _ _ _ _ _ hf (by omega) hat (lv_sub hl [0, 1, 2, 3, 4] rfl)
      refine np_case hf (fun hx hf => ?_) (fun n5 hf => ?_)
      · refine np_tswI (tgt := 392) (off := 353) C dd_L_law_39 hx (by decide +kernel) (by decide +kernel) (by decide +kernel) (by decide) ?_
        refine lv_aload_n C.x C.b dd_L_law_392 rfl (lv_at hl 1 rfl) ?_
        refine lv_aload_n C.x C.b dd_L_law_393 rfl (lv_at hl 3 rfl) ?_
        refine np_callW (As := [.ref (q 0), .ref (q 28)]) (rest := []) C (c_L_read l htr _) np_allgood tw_716 tw_717 tw_0 tw_718 (nA := 2) (by decide +kernel) rfl ⟨rfl, rfl, Nat.le_of_ble_eq_true rfl, Nat.le_of_ble_eq_true rfl⟩ hat rfl hl.1 (by omega) (Nat.le_of_ble_eq_true rfl) dd_L_law_394 hf (fun o14 H locs hf hat => ?_)
        refine lv_istore (lv' := [(5, .int (np_i o14.1)), (0, .ref b), (1, .ref (q 0)), (2, .ref (q 29)), (3, .ref (q 28)), (4, .int (np_i x4))]) C.x C.b dd_L_law_397 hl (by decide) rfl (fun ls hl => ?_)
        refine lv_aload_n C.x C.b dd_L_law_399 rfl (lv_at hl 3 rfl) ?_
        refine np_gcallVi (As := []) (rest := []) C (c_M_read l _) np_allgood tw_1067 tw_1068 tw_1069 tw_8 tw_1070 (nA := 0) (by decide +kernel) rfl ⟨rfl, rfl, Nat.le_of_ble_eq_true rfl, Nat.le_of_ble_eq_true rfl⟩ (va_recv C.k hat.1 (ci := 6) (q0 := 29) rfl (nc_o29 _)) hat rfl hl.1 (by omega) (Nat.le_of_ble_eq_true rfl) dd_L_law_400 hf (fun o15 H locs hf hat => ?_)
        refine lv_istore (lv' := [(6, .int (np_i o15.1)), (5, .int (np_i o14.1)), (0, .ref b), (1, .ref (q 0)), (2, .ref (q 29)), (3, .ref (q 28)), (4, .int (np_i x4))]) C.x C.b dd_L_law_403 hl (by decide) rfl (fun ls hl => ?_)
        refine lv_aload_n C.x C.b dd_L_law_405 rfl (lv_at hl 4 rfl) ?_
        refine np_gcallVi (As := []) (rest := []) C (c_M_thrown l _) np_allgood tw_1018 tw_1019 tw_1020 tw_8 tw_1021 (nA := 0) (by decide +kernel) rfl ⟨rfl, rfl, Nat.le_of_ble_eq_true rfl, Nat.le_of_ble_eq_true rfl⟩ (va_recv C.k hat.1 (ci := 6) (q0 := 29) rfl (nc_o29 _)) hat rfl hl.1 (by omega) (Nat.le_of_ble_eq_true rfl) dd_L_law_406 hf (fun o16 H locs hf hat => ?_)
        refine lv_iload C.x C.b dd_L_law_409 (lv_at hl 1 rfl) ?_
        refine np_icmp_eq (tgt := 416) C dd_L_law_411 (by decide) hf (fun _ hf => ?_) (fun _ hf => ?_)
        · refine lv_iload C.x C.b dd_L_law_416 (lv_at hl 1 rfl) ?_
          refine np_if_ne (tgt := 433) C dd_L_law_418 (by decide) hf (fun _ hf => ?_) (fun _ hf => ?_)
          · exact w_f_law_433 C htr hQ hX hbl hbA hLs h23 _ _ _ _ _ _ _ hf (by omega) hat (lv_sub hl [2, 3, 4, 5, 6] rfl)
          · refine lv_aload_n C.x C.b dd_L_law_421 rfl (lv_at hl 5 rfl) ?_
            refine lv_iconst (v := np_i 0) C.x C.b dd_L_law_422 rfl ?_
            refine np_laload C hat.1 28 (nc_a28 _) 1 rfl (by decide) dd_L_law_423 hf (fun hf => ?_)
            refine lv_iload C.x C.b dd_L_law_424 (lv_at hl 0 rfl) ?_
            refine np_i2l C dd_L_law_426 hf (fun hf => ?_)
            refine np_lcmp C dd_L_law_427 hf (fun hf => ?_)
            refine np_if_eq (tgt := 433) C dd_L_law_428 (by decide) hf (fun _ hf => ?_) (fun _ hf => ?_)
            · exact w_f_law_433 C htr hQ hX hbl hbA hLs h23 _ _ _ _ _ _ _ hf (by omega) hat (lv_sub hl [2, 3, 4, 5, 6] rfl)
            · refine lv_iconst (v := np_i 0) C.x C.b dd_L_law_431 rfl ?_
              exact hQ _ _ _ _ _ _ _ dd_L_law_432 hf (by omega) hat
        · refine lv_iconst (v := np_i 0) C.x C.b dd_L_law_414 rfl ?_
          exact hQ _ _ _ _ _ _ _ dd_L_law_415 hf (by omega) hat
      refine np_case hf (fun hx hf => ?_) (fun n6 hf => ?_)
      · refine np_tswI (tgt := 436) (off := 397) C dd_L_law_39 hx (by decide +kernel) (by decide +kernel) (by decide +kernel) (by decide) ?_
        refine lv_aload_n C.x C.b dd_L_law_436 rfl (lv_at hl 1 rfl) ?_
        refine lv_aload_n C.x C.b dd_L_law_437 rfl (lv_at hl 0 rfl) ?_
        refine lv_iload C.x C.b dd_L_law_438 (lv_at hl 4 rfl) ?_
        refine lv_iconst (v := np_i 1) C.x C.b dd_L_law_440 rfl ?_
        refine np_iadd C dd_L_law_441 ?_
        refine np_sld C hX hbl hbA hLs hat dd_L_law_442 hf (fun hf => ?_)
        refine np_gcallVi (As := [.int (np_i (np_sc xs (x4 + 1)))]) (rest := []) C (c_N_fault l (np_sc xs (x4 + 1)) _) np_allgood tw_241 tw_242 tw_243 tw_1 tw_244 (nA := 1) (by decide +kernel) rfl ⟨rfl, rfl, Nat.le_of_ble_eq_true rfl, Nat.le_of_ble_eq_true rfl⟩ (va_recv C.k hat.1 (ci := 0) (q0 := 0) rfl (nc_o0 _)) hat rfl hl.1 (by omega) (Nat.le_of_ble_eq_true rfl) dd_L_law_443 hf (fun o17 H locs hf hat => ?_)
        refine lv_aload_n C.x C.b dd_L_law_446 rfl (lv_at hl 2 rfl) ?_
        refine lv_aload_n C.x C.b dd_L_law_447 rfl (lv_at hl 0 rfl) ?_
        refine lv_iload C.x C.b dd_L_law_448 (lv_at hl 4 rfl) ?_
        refine lv_iconst (v := np_i 1) C.x C.b dd_L_law_450 rfl ?_
        refine np_iadd C dd_L_law_451 ?_
        refine np_sld C hX hbl hbA hLs hat dd_L_law_452 hf (fun hf => ?_)
        refine np_gcallVi (As := [.int (np_i (np_sc xs (x4 + 1)))]) (rest := [.int (np_i o17.1)]) C (c_M_fault l (np_sc xs (x4 + 1)) _) np_allgood tw_1143 tw_1144 tw_1145 tw_8 tw_1146 (nA := 1) (by decide +kernel) rfl ⟨rfl, rfl, Nat.le_of_ble_eq_true rfl, Nat.le_of_ble_eq_true rfl⟩ (va_recv C.k hat.1 (ci := 6) (q0 := 29) rfl (nc_o29 _)) hat rfl hl.1 (by omega) (Nat.le_of_ble_eq_true rfl) dd_L_law_453 hf (fun o18 H locs hf hat => ?_)
        refine np_icmp_eq (tgt := 692) C dd_L_law_456 (by decide) hf (fun _ hf => ?_) (fun _ hf => ?_)
        · exact w_f_law_692 C htr hQ hX hbl hbA hLs h23 _ _ _ _ _ _ _ hf (by omega) hat (lv_sub hl [0, 1, 2, 3, 4] rfl)
        · refine lv_iconst (v := np_i 0) C.x C.b dd_L_law_459 rfl ?_
          exact hQ _ _ _ _ _ _ _ dd_L_law_460 hf (by omega) hat
      refine np_case hf (fun hx hf => ?_) (fun n7 hf => ?_)
      · refine np_tswI (tgt := 461) (off := 422) C dd_L_law_39 hx (by decide +kernel) (by decide +kernel) (by decide +kernel) (by decide) ?_
        refine lv_aload_n C.x C.b dd_L_law_461 rfl (lv_at hl 1 rfl) ?_
        refine lv_aload_n C.x C.b dd_L_law_462 rfl (lv_at hl 0 rfl) ?_
        refine lv_iload C.x C.b dd_L_law_463 (lv_at hl 4 rfl) ?_
        refine lv_iconst (v := np_i 1) C.x C.b dd_L_law_465 rfl ?_
        refine np_iadd C dd_L_law_466 ?_
        refine np_sld C hX hbl hbA hLs hat dd_L_law_467 hf (fun hf => ?_)
        refine lv_aload_n C.x C.b dd_L_law_468 rfl (lv_at hl 0 rfl) ?_
        refine lv_iload C.x C.b dd_L_law_469 (lv_at hl 4 rfl) ?_
        refine lv_iconst (v := np_i 2) C.x C.b dd_L_law_471 rfl ?_
        refine np_iadd C dd_L_law_472 ?_
        refine np_sld C hX hbl hbA hLs hat dd_L_law_473 hf (fun hf => ?_)
        refine lv_aload_n C.x C.b dd_L_law_474 rfl (lv_at hl 3 rfl) ?_
        refine np_callW (As := [.ref (q 0), .int (np_i (np_sc xs (x4 + 1))), .int (np_i (np_sc xs (x4 + 2))), .ref (q 28)]) (rest := []) C (c_L_node l htr (np_sc xs (x4 + 1)) (np_sc xs (x4 + 2)) _) np_allgood tw_863 tw_864 tw_0 tw_865 (nA := 4) (by decide +kernel) rfl ⟨rfl, rfl, Nat.le_of_ble_eq_true rfl, Nat.le_of_ble_eq_true rfl⟩ hat rfl hl.1 (by omega) (Nat.le_of_ble_eq_true rfl) dd_L_law_475 hf (fun o19 H locs hf hat => ?_)
        refine lv_istore (lv' := [(5, .int (np_i o19.1)), (0, .ref b), (1, .ref (q 0)), (2, .ref (q 29)), (3, .ref (q 28)), (4, .int (np_i x4))]) C.x C.b dd_L_law_478 hl (by decide) rfl (fun ls hl => ?_)
        refine lv_aload_n C.x C.b dd_L_law_480 rfl (lv_at hl 3 rfl) ?_
        refine lv_aload_n C.x C.b dd_L_law_481 rfl (lv_at hl 1 rfl) ?_
        refine lv_iload C.x C.b dd_L_law_482 (lv_at hl 5 rfl) ?_
        refine lv_iconst (v := np_i 1) C.x C.b dd_L_law_484 rfl ?_
        refine np_iadd C dd_L_law_485 ?_
        refine np_sld C hX hbl hbA hLs hat dd_L_law_486 hf (fun hf => ?_)
        refine lv_aload_n C.x C.b dd_L_law_487 rfl (lv_at hl 1 rfl) ?_
        refine lv_iload C.x C.b dd_L_law_488 (lv_at hl 5 rfl) ?_
        refine lv_iconst (v := np_i 2) C.x C.b dd_L_law_490 rfl ?_
        refine np_iadd C dd_L_law_491 ?_
        refine np_sld C hX hbl hbA hLs hat dd_L_law_492 hf (fun hf => ?_)
        refine np_gcallVi (As := [.int (np_i (np_sc xs (x4 + 1))), .int (np_i (np_sc xs (x4 + 2)))]) (rest := []) C (c_M_node l (np_sc xs (x4 + 1)) (np_sc xs (x4 + 2)) _) np_allgood tw_1147 tw_1148 tw_1149 tw_8 tw_1150 (nA := 2) (by decide +kernel) rfl ⟨rfl, rfl, Nat.le_of_ble_eq_true rfl, Nat.le_of_ble_eq_true rfl⟩ (va_recv C.k hat.1 (ci := 6) (q0 := 29) rfl (nc_o29 _)) hat rfl hl.1 (by omega) (Nat.le_of_ble_eq_true rfl) dd_L_law_493 hf (fun o20 H locs hf hat => ?_)
        refine lv_istore (lv' := [(6, .int (np_i o20.1)), (5, .int (np_i o19.1)), (0, .ref b), (1, .ref (q 0)), (2, .ref (q 29)), (3, .ref (q 28)), (4, .int (np_i x4))]) C.x C.b dd_L_law_496 hl (by decide) rfl (fun ls hl => ?_)
        refine lv_aload_n C.x C.b dd_L_law_498 rfl (lv_at hl 4 rfl) ?_
        refine np_gcallVi (As := []) (rest := []) C (c_M_thrown l _) np_allgood tw_1018 tw_1019 tw_1020 tw_8 tw_1021 (nA := 0) (by decide +kernel) rfl ⟨rfl, rfl, Nat.le_of_ble_eq_true rfl, Nat.le_of_ble_eq_true rfl⟩ (va_recv C.k hat.1 (ci := 6) (q0 := 29) rfl (nc_o29 _)) hat rfl hl.1 (by omega) (Nat.le_of_ble_eq_true rfl) dd_L_law_499 hf (fun o21 H locs hf hat => ?_)
        refine lv_iload C.x C.b dd_L_law_502 (lv_at hl 1 rfl) ?_
        refine np_icmp_eq (tgt := 509) C dd_L_law_504 (by decide) hf (fun _ hf => ?_) (fun _ hf => ?_)
        · refine lv_iload C.x C.b dd_L_law_509 (lv_at hl 1 rfl) ?_
          refine np_if_ne (tgt := 526) C dd_L_law_511 (by decide) hf (fun _ hf => ?_) (fun _ hf => ?_)
          · exact w_f_law_526 C htr hQ hX hbl hbA hLs h23 _ _ _ _ _ _ _ hf (by omega) hat (lv_sub hl [2, 3, 4, 5, 6] rfl)
          · refine lv_aload_n C.x C.b dd_L_law_514 rfl (lv_at hl 5 rfl) ?_
            refine lv_iconst (v := np_i 0) C.x C.b dd_L_law_515 rfl ?_
            refine np_laload C hat.1 28 (nc_a28 _) 1 rfl (by decide) dd_L_law_516 hf (fun hf => ?_)
            refine lv_iload C.x C.b dd_L_law_517 (lv_at hl 0 rfl) ?_
            refine np_i2l C dd_L_law_519 hf (fun hf => ?_)
            refine np_lcmp C dd_L_law_520 hf (fun hf => ?_)
            refine np_if_eq (tgt := 526) C dd_L_law_521 (by decide) hf (fun _ hf => ?_) (fun _ hf => ?_)
            · exact w_f_law_526 C htr hQ hX hbl hbA hLs h23 _ _ _ _ _ _ _ hf (by omega) hat (lv_sub hl [2, 3, 4, 5, 6] rfl)
            · refine lv_iconst (v := np_i 0) C.x C.b dd_L_law_524 rfl ?_
              exact hQ _ _ _ _ _ _ _ dd_L_law_525 hf (by omega) hat
        · refine lv_iconst (v := np_i 0) C.x C.b dd_L_law_507 rfl ?_
          exact hQ _ _ _ _ _ _ _ dd_L_law_508 hf (by omega) hat
      refine np_case hf (fun hx hf => ?_) (fun n8 hf => ?_)
      · refine np_tswI (tgt := 529) (off := 490) C dd_L_law_39 hx (by decide +kernel) (by decide +kernel) (by decide +kernel) (by decide) ?_
        refine lv_aload_n C.x C.b dd_L_law_529 rfl (lv_at hl 1 rfl) ?_
        refine lv_aload_n C.x C.b dd_L_law_530 rfl (lv_at hl 3 rfl) ?_
        refine np_callW (As := [.ref (q 0), .ref (q 28)]) (rest := []) C (c_L_print l htr _) np_allgood tw_887 tw_888 tw_0 tw_889 (nA := 2) (by decide +kernel) rfl ⟨rfl, rfl, Nat.le_of_ble_eq_true rfl, Nat.le_of_ble_eq_true rfl⟩ hat rfl hl.1 (by omega) (Nat.le_of_ble_eq_true rfl) dd_L_law_531 hf (fun o22 H locs hf hat => ?_)
        refine lv_istore (lv' := [(5, .int (np_i o22.1)), (0, .ref b), (1, .ref (q 0)), (2, .ref (q 29)), (3, .ref (q 28)), (4, .int (np_i x4))]) C.x C.b dd_L_law_534 hl (by decide) rfl (fun ls hl => ?_)
        refine lv_aload_n C.x C.b dd_L_law_536 rfl (lv_at hl 3 rfl) ?_
        refine np_gcallVi (As := []) (rest := []) C (c_M_print l _) np_allgood tw_1155 tw_1156 tw_1157 tw_8 tw_1158 (nA := 0) (by decide +kernel) rfl ⟨rfl, rfl, Nat.le_of_ble_eq_true rfl, Nat.le_of_ble_eq_true rfl⟩ (va_recv C.k hat.1 (ci := 6) (q0 := 29) rfl (nc_o29 _)) hat rfl hl.1 (by omega) (Nat.le_of_ble_eq_true rfl) dd_L_law_537 hf (fun o23 H locs hf hat => ?_)
        refine lv_istore (lv' := [(6, .int (np_i o23.1)), (5, .int (np_i o22.1)), (0, .ref b), (1, .ref (q 0)), (2, .ref (q 29)), (3, .ref (q 28)), (4, .int (np_i x4))]) C.x C.b dd_L_law_540 hl (by decide) rfl (fun ls hl => ?_)
        refine lv_aload_n C.x C.b dd_L_law_542 rfl (lv_at hl 4 rfl) ?_
        refine np_gcallVi (As := []) (rest := []) C (c_M_thrown l _) np_allgood tw_1018 tw_1019 tw_1020 tw_8 tw_1021 (nA := 0) (by decide +kernel) rfl ⟨rfl, rfl, Nat.le_of_ble_eq_true rfl, Nat.le_of_ble_eq_true rfl⟩ (va_recv C.k hat.1 (ci := 6) (q0 := 29) rfl (nc_o29 _)) hat rfl hl.1 (by omega) (Nat.le_of_ble_eq_true rfl) dd_L_law_543 hf (fun o24 H locs hf hat => ?_)
        refine lv_iload C.x C.b dd_L_law_546 (lv_at hl 1 rfl) ?_
        refine np_icmp_eq (tgt := 553) C dd_L_law_548 (by decide) hf (fun _ hf => ?_) (fun _ hf => ?_)
        · refine lv_iload C.x C.b dd_L_law_553 (lv_at hl 1 rfl) ?_
          refine np_if_ne (tgt := 570) C dd_L_law_555 (by decide) hf (fun _ hf => ?_) (fun _ hf => ?_)
          · exact w_f_law_570 C htr hQ hX hbl hbA hLs h23 _ _ _ _ _ _ _ hf (by omega) hat (lv_sub hl [2, 3, 4, 5, 6] rfl)
          · refine lv_aload_n C.x C.b dd_L_law_558 rfl (lv_at hl 5 rfl) ?_
            refine lv_iconst (v := np_i 0) C.x C.b dd_L_law_559 rfl ?_
            refine np_laload C hat.1 28 (nc_a28 _) 1 rfl (by decide) dd_L_law_560 hf (fun hf => ?_)
            refine lv_iload C.x C.b dd_L_law_561 (lv_at hl 0 rfl) ?_
            refine np_i2l C dd_L_law_563 hf (fun hf => ?_)
            refine np_lcmp C dd_L_law_564 hf (fun hf => ?_)
            refine np_if_eq (tgt := 570) C dd_L_law_565 (by decide) hf (fun _ hf => ?_) (fun _ hf => ?_)
            · exact w_f_law_570 C htr hQ hX hbl hbA hLs h23 _ _ _ _ _ _ _ hf (by omega) hat (lv_sub hl [2, 3, 4, 5, 6] rfl)
            · refine lv_iconst (v := np_i 0) C.x C.b dd_L_law_568 rfl ?_
              exact hQ _ _ _ _ _ _ _ dd_L_law_569 hf (by omega) hat
        · refine lv_iconst (v := np_i 0) C.x C.b dd_L_law_551 rfl ?_
          exact hQ _ _ _ _ _ _ _ dd_L_law_552 hf (by omega) hat
      refine np_case hf (fun hx hf => ?_) (fun n9 hf => ?_)
      · refine np_tswI (tgt := 573) (off := 534) C dd_L_law_39 hx (by decide +kernel) (by decide +kernel) (by decide +kernel) (by decide) ?_
        refine lv_aload_n C.x C.b dd_L_law_573 rfl (lv_at hl 1 rfl) ?_
        refine lv_aload_n C.x C.b dd_L_law_574 rfl (lv_at hl 0 rfl) ?_
        refine lv_iload C.x C.b dd_L_law_575 (lv_at hl 4 rfl) ?_
        refine lv_iconst (v := np_i 1) C.x C.b dd_L_law_577 rfl ?_
        refine np_iadd C dd_L_law_578 ?_
        refine np_sld C hX hbl hbA hLs hat dd_L_law_579 hf (fun hf => ?_)
        refine np_gcallVi (As := [.int (np_i (np_sc xs (x4 + 1)))]) (rest := []) C (c_N_at l (np_sc xs (x4 + 1)) _) np_allgood tw_245 tw_246 tw_247 tw_1 tw_248 (nA := 1) (by decide +kernel) rfl ⟨rfl, rfl, Nat.le_of_ble_eq_true rfl, Nat.le_of_ble_eq_true rfl⟩ (va_recv C.k hat.1 (ci := 0) (q0 := 0) rfl (nc_o0 _)) hat rfl hl.1 (by omega) (Nat.le_of_ble_eq_true rfl) dd_L_law_580 hf (fun o25 H locs hf hat => ?_)
        refine lv_aload_n C.x C.b dd_L_law_583 rfl (lv_at hl 2 rfl) ?_
        refine lv_aload_n C.x C.b dd_L_law_584 rfl (lv_at hl 0 rfl) ?_
        refine lv_iload C.x C.b dd_L_law_585 (lv_at hl 4 rfl) ?_
        refine lv_iconst (v := np_i 1) C.x C.b dd_L_law_587 rfl ?_
        refine np_iadd C dd_L_law_588 ?_
        refine np_sld C hX hbl hbA hLs hat dd_L_law_589 hf (fun hf => ?_)
        refine np_gcallVi (As := [.int (np_i (np_sc xs (x4 + 1)))]) (rest := [.int (np_i o25.1)]) C (c_M_at l (np_sc xs (x4 + 1)) _) np_allgood tw_1175 tw_1176 tw_1177 tw_8 tw_1178 (nA := 1) (by decide +kernel) rfl ⟨rfl, rfl, Nat.le_of_ble_eq_true rfl, Nat.le_of_ble_eq_true rfl⟩ (va_recv C.k hat.1 (ci := 6) (q0 := 29) rfl (nc_o29 _)) hat rfl hl.1 (by omega) (Nat.le_of_ble_eq_true rfl) dd_L_law_590 hf (fun o26 H locs hf hat => ?_)
        refine np_icmp_eq (tgt := 692) C dd_L_law_593 (by decide) hf (fun _ hf => ?_) (fun _ hf => ?_)
        · exact w_f_law_692 C htr hQ hX hbl hbA hLs h23 _ _ _ _ _ _ _ hf (by omega) hat (lv_sub hl [0, 1, 2, 3, 4] rfl)
        · refine lv_iconst (v := np_i 0) C.x C.b dd_L_law_596 rfl ?_
          exact hQ _ _ _ _ _ _ _ dd_L_law_597 hf (by omega) hat
      refine np_case hf (fun hx hf => ?_) (fun n10 hf => ?_)
      · refine np_tswI (tgt := 598) (off := 559) C dd_L_law_39 hx (by decide +kernel) (by decide +kernel) (by decide +kernel) (by decide) ?_
        refine lv_aload_n C.x C.b dd_L_law_598 rfl (lv_at hl 1 rfl) ?_
        refine lv_aload_n C.x C.b dd_L_law_599 rfl (lv_at hl 0 rfl) ?_
        refine lv_iload C.x C.b dd_L_law_600 (lv_at hl 4 rfl) ?_
        refine lv_iconst (v := np_i 1) C.x C.b dd_L_law_602 rfl ?_
        refine np_iadd C dd_L_law_603 ?_
        refine np_sld C hX hbl hbA hLs hat dd_L_law_604 hf (fun hf => ?_)
        refine np_i2l C dd_L_law_605 hf (fun hf => ?_)
        refine lv_bipush (v := np_i 32) C.x C.b dd_L_law_606 (by decide +kernel) ?_
        refine np_lshl C dd_L_law_608 ?_
        refine lv_aload_n C.x C.b dd_L_law_609 rfl (lv_at hl 0 rfl) ?_
        refine lv_iload C.x C.b dd_L_law_610 (lv_at hl 4 rfl) ?_
        refine lv_iconst (v := np_i 2) C.x C.b dd_L_law_612 rfl ?_
        refine np_iadd C dd_L_law_613 ?_
        refine np_sld C hX hbl hbA hLs hat dd_L_law_614 hf (fun hf => ?_)
        refine np_i2l C dd_L_law_615 hf (fun hf => ?_)
        refine np_ldc2 (v := 4294967295) C tw_1187 dd_L_law_616 ?_
        refine np_land C dd_L_law_619 ?_
        refine np_lor C dd_L_law_620 ?_
        refine lv_aload_n C.x C.b dd_L_law_621 rfl (lv_at hl 0 rfl) ?_
        refine lv_iload C.x C.b dd_L_law_622 (lv_at hl 4 rfl) ?_
        refine lv_iconst (v := np_i 3) C.x C.b dd_L_law_624 rfl ?_
        refine np_iadd C dd_L_law_625 ?_
        refine np_sld C hX hbl hbA hLs hat dd_L_law_626 hf (fun hf => ?_)
        refine np_gcallVi (As := [.long (np_l (np_orl (np_shll (np_sc xs (x4 + 1)) 32) (np_andl (np_sc xs (x4 + 2)) 4294967295))), .int (np_i (np_sc xs (x4 + 3)))]) (rest := []) C (c_N_isKey l (np_orl (np_shll (np_sc xs (x4 + 1)) 32) (np_andl (np_sc xs (x4 + 2)) 4294967295)) (np_sc xs (x4 + 3)) _) np_allgood tw_249 tw_250 tw_251 tw_1 tw_252 (nA := 2) (by decide +kernel) rfl ⟨rfl, rfl, Nat.le_of_ble_eq_true rfl, Nat.le_of_ble_eq_true rfl⟩ (va_recv C.k hat.1 (ci := 0) (q0 := 0) rfl (nc_o0 _)) hat rfl hl.1 (by omega) (Nat.le_of_ble_eq_true rfl) dd_L_law_627 hf (fun o27 H locs hf hat => ?_)
        refine lv_aload_n C.x C.b dd_L_law_630 rfl (lv_at hl 2 rfl) ?_
        refine lv_aload_n C.x C.b dd_L_law_631 rfl (lv_at hl 0 rfl) ?_
        refine lv_iload C.x C.b dd_L_law_632 (lv_at hl 4 rfl) ?_
        refine lv_iconst (v := np_i 1) C.x C.b dd_L_law_634 rfl ?_
        refine np_iadd C dd_L_law_635 ?_
        refine np_sld C hX hbl hbA hLs hat dd_L_law_636 hf (fun hf => ?_)
        refine np_i2l C dd_L_law_637 hf (fun hf => ?_)
        refine lv_bipush (v := np_i 32) C.x C.b dd_L_law_638 (by decide +kernel) ?_
        refine np_lshl C dd_L_law_640 ?_
        refine lv_aload_n C.x C.b dd_L_law_641 rfl (lv_at hl 0 rfl) ?_
        refine lv_iload C.x C.b dd_L_law_642 (lv_at hl 4 rfl) ?_
        refine lv_iconst (v := np_i 2) C.x C.b dd_L_law_644 rfl ?_
        refine np_iadd C dd_L_law_645 ?_
        refine np_sld C hX hbl hbA hLs hat dd_L_law_646 hf (fun hf => ?_)
        refine np_i2l C dd_L_law_647 hf (fun hf => ?_)
        refine np_ldc2 (v := 4294967295) C tw_1187 dd_L_law_648 ?_
        refine np_land C dd_L_law_651 ?_
        refine np_lor C dd_L_law_652 ?_
        refine lv_aload_n C.x C.b dd_L_law_653 rfl (lv_at hl 0 rfl) ?_
        refine lv_iload C.x C.b dd_L_law_654 (lv_at hl 4 rfl) ?_
        refine lv_iconst (v := np_i 3) C.x C.b dd_L_law_656 rfl ?_
        refine np_iadd C dd_L_law_657 ?_
        refine np_sld C hX hbl hbA hLs hat dd_L_law_658 hf (fun hf => ?_)
        refine np_gcallVi (As := [.long (np_l (np_orl (np_shll (np_sc xs (x4 + 1)) 32) (np_andl (np_sc xs (x4 + 2)) 4294967295))), .int (np_i (np_sc xs (x4 + 3)))]) (rest := [.int (np_i o27.1)]) C (c_M_isKey l (np_orl (np_shll (np_sc xs (x4 + 1)) 32) (np_andl (np_sc xs (x4 + 2)) 4294967295)) (np_sc xs (x4 + 3)) _) np_allgood tw_1179 tw_1180 tw_1181 tw_8 tw_1182 (nA := 2) (by decide +kernel) rfl ⟨rfl, rfl, Nat.le_of_ble_eq_true rfl, Nat.le_of_ble_eq_true rfl⟩ (va_recv C.k hat.1 (ci := 6) (q0 := 29) rfl (nc_o29 _)) hat rfl hl.1 (by omega) (Nat.le_of_ble_eq_true rfl) dd_L_law_659 hf (fun o28 H locs hf hat => ?_)
        refine np_icmp_eq (tgt := 692) C dd_L_law_662 (by decide) hf (fun _ hf => ?_) (fun _ hf => ?_)
        · exact w_f_law_692 C htr hQ hX hbl hbA hLs h23 _ _ _ _ _ _ _ hf (by omega) hat (lv_sub hl [0, 1, 2, 3, 4] rfl)
        · refine lv_iconst (v := np_i 0) C.x C.b dd_L_law_665 rfl ?_
          exact hQ _ _ _ _ _ _ _ dd_L_law_666 hf (by omega) hat
      refine np_case hf (fun hx hf => ?_) (fun n11 hf => ?_)
      · refine np_tswI (tgt := 667) (off := 628) C dd_L_law_39 hx (by decide +kernel) (by decide +kernel) (by decide +kernel) (by decide) ?_
        refine lv_aload_n C.x C.b dd_L_law_667 rfl (lv_at hl 1 rfl) ?_
        refine lv_aload_n C.x C.b dd_L_law_668 rfl (lv_at hl 0 rfl) ?_
        refine lv_iload C.x C.b dd_L_law_669 (lv_at hl 4 rfl) ?_
        refine lv_iconst (v := np_i 1) C.x C.b dd_L_law_671 rfl ?_
        refine np_iadd C dd_L_law_672 ?_
        refine np_sld C hX hbl hbA hLs hat dd_L_law_673 hf (fun hf => ?_)
        refine np_gcallVi (As := [.int (np_i (np_sc xs (x4 + 1)))]) (rest := []) C (c_N_about l (np_sc xs (x4 + 1)) _) np_allgood tw_359 tw_360 tw_361 tw_1 tw_362 (nA := 1) (by decide +kernel) rfl ⟨rfl, rfl, Nat.le_of_ble_eq_true rfl, Nat.le_of_ble_eq_true rfl⟩ (va_recv C.k hat.1 (ci := 0) (q0 := 0) rfl (nc_o0 _)) hat rfl hl.1 (by omega) (Nat.le_of_ble_eq_true rfl) dd_L_law_674 hf (fun o29 H locs hf hat => ?_)
        refine lv_aload_n C.x C.b dd_L_law_677 rfl (lv_at hl 2 rfl) ?_
        refine lv_aload_n C.x C.b dd_L_law_678 rfl (lv_at hl 0 rfl) ?_
        refine lv_iload C.x C.b dd_L_law_679 (lv_at hl 4 rfl) ?_
        refine lv_iconst (v := np_i 1) C.x C.b dd_L_law_681 rfl ?_
        refine np_iadd C dd_L_law_682 ?_
        refine np_sld C hX hbl hbA hLs hat dd_L_law_683 hf (fun hf => ?_)
        refine np_gcallVi (As := [.int (np_i (np_sc xs (x4 + 1)))]) (rest := [.int (np_i o29.1)]) C (c_M_about l (np_sc xs (x4 + 1)) _) np_allgood tw_1183 tw_1184 tw_1185 tw_8 tw_1186 (nA := 1) (by decide +kernel) rfl ⟨rfl, rfl, Nat.le_of_ble_eq_true rfl, Nat.le_of_ble_eq_true rfl⟩ (va_recv C.k hat.1 (ci := 6) (q0 := 29) rfl (nc_o29 _)) hat rfl hl.1 (by omega) (Nat.le_of_ble_eq_true rfl) dd_L_law_684 hf (fun o30 H locs hf hat => ?_)
        refine np_icmp_eq (tgt := 692) C dd_L_law_687 (by decide) hf (fun _ hf => ?_) (fun _ hf => ?_)
        · exact w_f_law_692 C htr hQ hX hbl hbA hLs h23 _ _ _ _ _ _ _ hf (by omega) hat (lv_sub hl [0, 1, 2, 3, 4] rfl)
        · refine lv_iconst (v := np_i 0) C.x C.b dd_L_law_690 rfl ?_
          exact hQ _ _ _ _ _ _ _ dd_L_law_691 hf (by omega) hat
      refine np_tswO (tgt := 692) C dd_L_law_39 hR (by omega) (by decide) ?_
      exact w_f_law_692 C htr hQ hX hbl hbA hLs h23 _ _ _ _ _ _ _ hf (by omega) hat (lv_sub hl [0, 1, 2, 3, 4] rfl)
end NWL
