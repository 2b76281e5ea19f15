def nc_wd (q : Nat → Nat) (cA : Nat → ClassId) (σ : np_S) : va_W := [
  (q 0, .inr (0, [.ref (q 1), .ref (q 6), .ref (q 11), .ref (q 15), .ref (q 26), .int (np_i (σ 0 5)), .int (np_i (σ 0 6))])),
  (q 1, .inr (1, [.ref (q 2), .ref (q 3), .ref (q 4), .ref (q 5), .int (np_i (σ 1 4)), .int (np_i (σ 1 5))])),
  (q 2, .inl (cA 0, 105, .inl (fun i => np_i (σ 2 i)))),
  (q 3, .inl (cA 1, 105, .inr (.inl (fun i => np_l (σ 3 i))))),
  (q 4, .inl (cA 0, 14, .inl (fun i => np_i (σ 4 i)))),
  (q 5, .inl (cA 0, 14, .inl (fun i => np_i (σ 5 i)))),
  (q 6, .inr (2, [.ref (q 7), .int (np_i (σ 6 1)), .ref (q 8), .ref (q 9), .ref (q 10), .int (np_i (σ 6 5)), .int (np_i (σ 6 6))])),
  (q 7, .inl (cA 2, 200, .inl (fun i => np_i (σ 7 i)))),
  (q 8, .inl (cA 1, 30, .inr (.inl (fun i => np_l (σ 8 i))))),
  (q 9, .inl (cA 1, 30, .inr (.inl (fun i => np_l (σ 9 i))))),
  (q 10, .inl (cA 0, 30, .inl (fun i => np_i (σ 10 i)))),
  (q 11, .inr (3, [.ref (q 1), .ref (q 12), .ref (q 13), .ref (q 14)])),
  (q 12, .inl (cA 0, 3038, .inl (fun i => np_i (σ 12 i)))),
  (q 13, .inl (cA 0, 3038, .inl (fun i => np_i (σ 13 i)))),
  (q 14, .inl (cA 0, 5115, .inl (fun i => np_i (σ 14 i)))),
  (q 15, .inr (4, [.ref (q 1), .ref (q 11), .int (np_i (σ 15 2)), .ref (q 16), .ref (q 17), .ref (q 18), .ref (q 19), .ref (q 20), .ref (q 21), .int (np_i (σ 15 9)), .ref (q 22), .ref (q 23), .ref (q 24), .ref (q 25)])),
  (q 16, .inl (cA 0, 30, .inl (fun i => np_i (σ 16 i)))),
  (q 17, .inl (cA 0, 30, .inl (fun i => np_i (σ 17 i)))),
  (q 18, .inl (cA 0, 30, .inl (fun i => np_i (σ 18 i)))),
  (q 19, .inl (cA 0, 30, .inl (fun i => np_i (σ 19 i)))),
  (q 20, .inl (cA 0, 30, .inl (fun i => np_i (σ 20 i)))),
  (q 21, .inl (cA 0, 30, .inl (fun i => np_i (σ 21 i)))),
  (q 22, .inl (cA 0, 30, .inl (fun i => np_i (σ 22 i)))),
  (q 23, .inl (cA 0, 30, .inl (fun i => np_i (σ 23 i)))),
  (q 24, .inl (cA 0, 30, .inl (fun i => np_i (σ 24 i)))),
  (q 25, .inl (cA 0, 30, .inl (fun i => np_i (σ 25 i)))),
  (q 26, .inr (5, [.ref (q 27), .int (np_i (σ 26 1))])),
  (q 27, .inl (cA 2, 230, .inl (fun i => np_i (σ 27 i)))),
  (q 28, .inl (cA 1, 1, .inr (.inl (fun i => np_l (σ 28 i))))),
  (q 29, .inr (6, [.int (np_i (σ 29 0)), .int (np_i (σ 29 1)), .int (np_i (σ 29 2)), .ref (q 30), .ref (q 31), .ref (q 32), .ref (q 33), .ref (q 34), .int (np_i (σ 29 8)), .int (np_i (σ 29 9)), .int (np_i (σ 29 10)), .int (np_i (σ 29 11)), .ref (q 35), .ref (q 36), .ref (q 37), .ref (q 38), .ref (q 39), .ref (q 40), .int (np_i (σ 29 18)), .ref (q 41), .ref (q 42), .ref (q 43), .ref (q 44), .ref (q 45), .ref (q 46), .ref (q 47), .ref (q 48), .int (np_i (σ 29 27)), .int (np_i (σ 29 28)), .ref (q 49), .ref (q 50)])),
  (q 30, .inl (cA 0, 91, .inl (fun i => np_i (σ 30 i)))),
  (q 31, .inl (cA 1, 91, .inr (.inl (fun i => np_l (σ 31 i))))),
  (q 32, .inl (cA 0, 12, .inl (fun i => np_i (σ 32 i)))),
  (q 33, .inl (cA 0, 12, .inl (fun i => np_i (σ 33 i)))),
  (q 34, .inl (cA 0, 200, .inl (fun i => np_i (σ 34 i)))),
  (q 35, .inl (cA 1, 31, .inr (.inl (fun i => np_l (σ 35 i))))),
  (q 36, .inl (cA 0, 31, .inl (fun i => np_i (σ 36 i)))),
  (q 37, .inl (cA 0, 10571, .inl (fun i => np_i (σ 37 i)))),
  (q 38, .inl (cA 0, 80724, .inl (fun i => np_i (σ 38 i)))),
  (q 39, .inl (cA 3, 341, .inl (fun i => np_i (σ 39 i)))),
  (q 40, .inl (cA 3, 2604, .inl (fun i => np_i (σ 40 i)))),
  (q 41, .inl (cA 0, 40, .inl (fun i => np_i (σ 41 i)))),
  (q 42, .inl (cA 0, 40, .inl (fun i => np_i (σ 42 i)))),
  (q 43, .inl (cA 0, 40, .inl (fun i => np_i (σ 43 i)))),
  (q 44, .inl (cA 0, 40, .inl (fun i => np_i (σ 44 i)))),
  (q 45, .inl (cA 0, 80, .inl (fun i => np_i (σ 45 i)))),
  (q 46, .inl (cA 0, 80, .inl (fun i => np_i (σ 46 i)))),
  (q 47, .inl (cA 0, 80, .inl (fun i => np_i (σ 47 i)))),
  (q 48, .inl (cA 0, 80, .inl (fun i => np_i (σ 48 i)))),
  (q 49, .inl (cA 0, 1200, .inl (fun i => np_i (σ 49 i)))),
  (q 50, .inl (cA 0, 400, .inl (fun i => np_i (σ 50 i))))]
section NCW
variable {q : Nat → Nat} {cA : Nat → ClassId}
theorem nc_o0 (σ : np_S) : (nc_wd q cA σ)[0]? = some (q 0, .inr (0, [.ref (q 1), .ref (q 6), .ref (q 11), .ref (q 15), .ref (q 26), .int (np_i (σ 0 5)), .int (np_i (σ 0 6))])) := rfl
theorem nc_s0_5 (σ : np_S) (x : Int) : (nc_wd q cA σ).set 0 (q 0, .inr (0, List.set [.ref (q 1), .ref (q 6), .ref (q 11), .ref (q 15), .ref (q 26), .int (np_i (σ 0 5)), .int (np_i (σ 0 6))] 5 (.int (np_i x)))) = nc_wd q cA (np_st σ 0 5 x) := rfl
theorem nc_s0_6 (σ : np_S) (x : Int) : (nc_wd q cA σ).set 0 (q 0, .inr (0, List.set [.ref (q 1), .ref (q 6), .ref (q 11), .ref (q 15), .ref (q 26), .int (np_i (σ 0 5)), .int (np_i (σ 0 6))] 6 (.int (np_i x)))) = nc_wd q cA (np_st σ 0 6 x) := rfl
theorem nc_o1 (σ : np_S) : (nc_wd q cA σ)[1]? = some (q 1, .inr (1, [.ref (q 2), .ref (q 3), .ref (q 4), .ref (q 5), .int (np_i (σ 1 4)), .int (np_i (σ 1 5))])) := rfl
theorem nc_s1_4 (σ : np_S) (x : Int) : (nc_wd q cA σ).set 1 (q 1, .inr (1, List.set [.ref (q 2), .ref (q 3), .ref (q 4), .ref (q 5), .int (np_i (σ 1 4)), .int (np_i (σ 1 5))] 4 (.int (np_i x)))) = nc_wd q cA (np_st σ 1 4 x) := rfl
theorem nc_s1_5 (σ : np_S) (x : Int) : (nc_wd q cA σ).set 1 (q 1, .inr (1, List.set [.ref (q 2), .ref (q 3), .ref (q 4), .ref (q 5), .int (np_i (σ 1 4)), .int (np_i (σ 1 5))] 5 (.int (np_i x)))) = nc_wd q cA (np_st σ 1 5 x) := rfl
theorem nc_a2 (σ : np_S) : (nc_wd q cA σ)[2]? = some (q 2, .inl (cA 0, 105, .inl (fun i => np_i (σ 2 i)))) := rfl
theorem nc_s2 (σ : np_S) (j x : Int) : (nc_wd q cA σ).set 2 (q 2, .inl (cA 0, 105, .inl (fun i : Nat => np_i (if (i : Int) = j then x else σ 2 i)))) = nc_wd q cA (np_st σ 2 j x) := rfl
theorem nc_a3 (σ : np_S) : (nc_wd q cA σ)[3]? = some (q 3, .inl (cA 1, 105, .inr (.inl (fun i => np_l (σ 3 i))))) := rfl
theorem nc_s3 (σ : np_S) (j x : Int) : (nc_wd q cA σ).set 3 (q 3, .inl (cA 1, 105, .inr (.inl (fun i : Nat => np_l (if (i : Int) = j then x else σ 3 i))))) = nc_wd q cA (np_st σ 3 j x) := rfl
theorem nc_a4 (σ : np_S) : (nc_wd q cA σ)[4]? = some (q 4, .inl (cA 0, 14, .inl (fun i => np_i (σ 4 i)))) := rfl
theorem nc_s4 (σ : np_S) (j x : Int) : (nc_wd q cA σ).set 4 (q 4, .inl (cA 0, 14, .inl (fun i : Nat => np_i (if (i : Int) = j then x else σ 4 i)))) = nc_wd q cA (np_st σ 4 j x) := rfl
theorem nc_a5 (σ : np_S) : (nc_wd q cA σ)[5]? = some (q 5, .inl (cA 0, 14, .inl (fun i => np_i (σ 5 i)))) := rfl
theorem nc_s5 (σ : np_S) (j x : Int) : (nc_wd q cA σ).set 5 (q 5, .inl (cA 0, 14, .inl (fun i : Nat => np_i (if (i : Int) = j then x else σ 5 i)))) = nc_wd q cA (np_st σ 5 j x) := rfl
theorem nc_o6 (σ : np_S) : (nc_wd q cA σ)[6]? = some (q 6, .inr (2, [.ref (q 7), .int (np_i (σ 6 1)), .ref (q 8), .ref (q 9), .ref (q 10), .int (np_i (σ 6 5)), .int (np_i (σ 6 6))])) := rfl
theorem nc_s6_1 (σ : np_S) (x : Int) : (nc_wd q cA σ).set 6 (q 6, .inr (2, List.set [.ref (q 7), .int (np_i (σ 6 1)), .ref (q 8), .ref (q 9), .ref (q 10), .int (np_i (σ 6 5)), .int (np_i (σ 6 6))] 1 (.int (np_i x)))) = nc_wd q cA (np_st σ 6 1 x) := rfl
theorem nc_s6_5 (σ : np_S) (x : Int) : (nc_wd q cA σ).set 6 (q 6, .inr (2, List.set [.ref (q 7), .int (np_i (σ 6 1)), .ref (q 8), .ref (q 9), .ref (q 10), .int (np_i (σ 6 5)), .int (np_i (σ 6 6))] 5 (.int (np_i x)))) = nc_wd q cA (np_st σ 6 5 x) := rfl
theorem nc_s6_6 (σ : np_S) (x : Int) : (nc_wd q cA σ).set 6 (q 6, .inr (2, List.set [.ref (q 7), .int (np_i (σ 6 1)), .ref (q 8), .ref (q 9), .ref (q 10), .int (np_i (σ 6 5)), .int (np_i (σ 6 6))] 6 (.int (np_i x)))) = nc_wd q cA (np_st σ 6 6 x) := rfl
theorem nc_a7 (σ : np_S) : (nc_wd q cA σ)[7]? = some (q 7, .inl (cA 2, 200, .inl (fun i => np_i (σ 7 i)))) := rfl
theorem nc_s7 (σ : np_S) (j x : Int) : (nc_wd q cA σ).set 7 (q 7, .inl (cA 2, 200, .inl (fun i : Nat => np_i (if (i : Int) = j then x else σ 7 i)))) = nc_wd q cA (np_st σ 7 j x) := rfl
theorem nc_a8 (σ : np_S) : (nc_wd q cA σ)[8]? = some (q 8, .inl (cA 1, 30, .inr (.inl (fun i => np_l (σ 8 i))))) := rfl
theorem nc_s8 (σ : np_S) (j x : Int) : (nc_wd q cA σ).set 8 (q 8, .inl (cA 1, 30, .inr (.inl (fun i : Nat => np_l (if (i : Int) = j then x else σ 8 i))))) = nc_wd q cA (np_st σ 8 j x) := rfl
theorem nc_a9 (σ : np_S) : (nc_wd q cA σ)[9]? = some (q 9, .inl (cA 1, 30, .inr (.inl (fun i => np_l (σ 9 i))))) := rfl
theorem nc_s9 (σ : np_S) (j x : Int) : (nc_wd q cA σ).set 9 (q 9, .inl (cA 1, 30, .inr (.inl (fun i : Nat => np_l (if (i : Int) = j then x else σ 9 i))))) = nc_wd q cA (np_st σ 9 j x) := rfl
theorem nc_a10 (σ : np_S) : (nc_wd q cA σ)[10]? = some (q 10, .inl (cA 0, 30, .inl (fun i => np_i (σ 10 i)))) := rfl
theorem nc_s10 (σ : np_S) (j x : Int) : (nc_wd q cA σ).set 10 (q 10, .inl (cA 0, 30, .inl (fun i : Nat => np_i (if (i : Int) = j then x else σ 10 i)))) = nc_wd q cA (np_st σ 10 j x) := rfl
theorem nc_o11 (σ : np_S) : (nc_wd q cA σ)[11]? = some (q 11, .inr (3, [.ref (q 1), .ref (q 12), .ref (q 13), .ref (q 14)])) := rfl
theorem nc_a12 (σ : np_S) : (nc_wd q cA σ)[12]? = some (q 12, .inl (cA 0, 3038, .inl (fun i => np_i (σ 12 i)))) := rfl
theorem nc_s12 (σ : np_S) (j x : Int) : (nc_wd q cA σ).set 12 (q 12, .inl (cA 0, 3038, .inl (fun i : Nat => np_i (if (i : Int) = j then x else σ 12 i)))) = nc_wd q cA (np_st σ 12 j x) := rfl
theorem nc_a13 (σ : np_S) : (nc_wd q cA σ)[13]? = some (q 13, .inl (cA 0, 3038, .inl (fun i => np_i (σ 13 i)))) := rfl
theorem nc_s13 (σ : np_S) (j x : Int) : (nc_wd q cA σ).set 13 (q 13, .inl (cA 0, 3038, .inl (fun i : Nat => np_i (if (i : Int) = j then x else σ 13 i)))) = nc_wd q cA (np_st σ 13 j x) := rfl
theorem nc_a14 (σ : np_S) : (nc_wd q cA σ)[14]? = some (q 14, .inl (cA 0, 5115, .inl (fun i => np_i (σ 14 i)))) := rfl
theorem nc_s14 (σ : np_S) (j x : Int) : (nc_wd q cA σ).set 14 (q 14, .inl (cA 0, 5115, .inl (fun i : Nat => np_i (if (i : Int) = j then x else σ 14 i)))) = nc_wd q cA (np_st σ 14 j x) := rfl
theorem nc_o15 (σ : np_S) : (nc_wd q cA σ)[15]? = some (q 15, .inr (4, [.ref (q 1), .ref (q 11), .int (np_i (σ 15 2)), .ref (q 16), .ref (q 17), .ref (q 18), .ref (q 19), .ref (q 20), .ref (q 21), .int (np_i (σ 15 9)), .ref (q 22), .ref (q 23), .ref (q 24), .ref (q 25)])) := rfl
theorem nc_s15_2 (σ : np_S) (x : Int) : (nc_wd q cA σ).set 15 (q 15, .inr (4, List.set [.ref (q 1), .ref (q 11), .int (np_i (σ 15 2)), .ref (q 16), .ref (q 17), .ref (q 18), .ref (q 19), .ref (q 20), .ref (q 21), .int (np_i (σ 15 9)), .ref (q 22), .ref (q 23), .ref (q 24), .ref (q 25)] 2 (.int (np_i x)))) = nc_wd q cA (np_st σ 15 2 x) := rfl
theorem nc_s15_9 (σ : np_S) (x : Int) : (nc_wd q cA σ).set 15 (q 15, .inr (4, List.set [.ref (q 1), .ref (q 11), .int (np_i (σ 15 2)), .ref (q 16), .ref (q 17), .ref (q 18), .ref (q 19), .ref (q 20), .ref (q 21), .int (np_i (σ 15 9)), .ref (q 22), .ref (q 23), .ref (q 24), .ref (q 25)] 9 (.int (np_i x)))) = nc_wd q cA (np_st σ 15 9 x) := rfl
theorem nc_a16 (σ : np_S) : (nc_wd q cA σ)[16]? = some (q 16, .inl (cA 0, 30, .inl (fun i => np_i (σ 16 i)))) := rfl
theorem nc_s16 (σ : np_S) (j x : Int) : (nc_wd q cA σ).set 16 (q 16, .inl (cA 0, 30, .inl (fun i : Nat => np_i (if (i : Int) = j then x else σ 16 i)))) = nc_wd q cA (np_st σ 16 j x) := rfl
theorem nc_a17 (σ : np_S) : (nc_wd q cA σ)[17]? = some (q 17, .inl (cA 0, 30, .inl (fun i => np_i (σ 17 i)))) := rfl
theorem nc_s17 (σ : np_S) (j x : Int) : (nc_wd q cA σ).set 17 (q 17, .inl (cA 0, 30, .inl (fun i : Nat => np_i (if (i : Int) = j then x else σ 17 i)))) = nc_wd q cA (np_st σ 17 j x) := rfl
theorem nc_a18 (σ : np_S) : (nc_wd q cA σ)[18]? = some (q 18, .inl (cA 0, 30, .inl (fun i => np_i (σ 18 i)))) := rfl
theorem nc_s18 (σ : np_S) (j x : Int) : (nc_wd q cA σ).set 18 (q 18, .inl (cA 0, 30, .inl (fun i : Nat => np_i (if (i : Int) = j then x else σ 18 i)))) = nc_wd q cA (np_st σ 18 j x) := rfl
theorem nc_a19 (σ : np_S) : (nc_wd q cA σ)[19]? = some (q 19, .inl (cA 0, 30, .inl (fun i => np_i (σ 19 i)))) := rfl
theorem nc_s19 (σ : np_S) (j x : Int) : (nc_wd q cA σ).set 19 (q 19, .inl (cA 0, 30, .inl (fun i : Nat => np_i (if (i : Int) = j then x else σ 19 i)))) = nc_wd q cA (np_st σ 19 j x) := rfl
theorem nc_a20 (σ : np_S) : (nc_wd q cA σ)[20]? = some (q 20, .inl (cA 0, 30, .inl (fun i => np_i (σ 20 i)))) := rfl
theorem nc_s20 (σ : np_S) (j x : Int) : (nc_wd q cA σ).set 20 (q 20, .inl (cA 0, 30, .inl (fun i : Nat => np_i (if (i : Int) = j then x else σ 20 i)))) = nc_wd q cA (np_st σ 20 j x) := rfl
theorem nc_a21 (σ : np_S) : (nc_wd q cA σ)[21]? = some (q 21, .inl (cA 0, 30, .inl (fun i => np_i (σ 21 i)))) := rfl
theorem nc_s21 (σ : np_S) (j x : Int) : (nc_wd q cA σ).set 21 (q 21, .inl (cA 0, 30, .inl (fun i : Nat => np_i (if (i : Int) = j then x else σ 21 i)))) = nc_wd q cA (np_st σ 21 j x) := rfl
theorem nc_a22 (σ : np_S) : (nc_wd q cA σ)[22]? = some (q 22, .inl (cA 0, 30, .inl (fun i => np_i (σ 22 i)))) := rfl
theorem nc_s22 (σ : np_S) (j x : Int) : (nc_wd q cA σ).set 22 (q 22, .inl (cA 0, 30, .inl (fun i : Nat => np_i (if (i : Int) = j then x else σ 22 i)))) = nc_wd q cA (np_st σ 22 j x) := rfl
theorem nc_a23 (σ : np_S) : (nc_wd q cA σ)[23]? = some (q 23, .inl (cA 0, 30, .inl (fun i => np_i (σ 23 i)))) := rfl
theorem nc_s23 (σ : np_S) (j x : Int) : (nc_wd q cA σ).set 23 (q 23, .inl (cA 0, 30, .inl (fun i : Nat => np_i (if (i : Int) = j then x else σ 23 i)))) = nc_wd q cA (np_st σ 23 j x) := rfl
theorem nc_a24 (σ : np_S) : (nc_wd q cA σ)[24]? = some (q 24, .inl (cA 0, 30, .inl (fun i => np_i (σ 24 i)))) := rfl
theorem nc_s24 (σ : np_S) (j x : Int) : (nc_wd q cA σ).set 24 (q 24, .inl (cA 0, 30, .inl (fun i : Nat => np_i (if (i : Int) = j then x else σ 24 i)))) = nc_wd q cA (np_st σ 24 j x) := rfl
theorem nc_a25 (σ : np_S) : (nc_wd q cA σ)[25]? = some (q 25, .inl (cA 0, 30, .inl (fun i => np_i (σ 25 i)))) := rfl
theorem nc_s25 (σ : np_S) (j x : Int) : (nc_wd q cA σ).set 25 (q 25, .inl (cA 0, 30, .inl (fun i : Nat => np_i (if (i : Int) = j then x else σ 25 i)))) = nc_wd q cA (np_st σ 25 j x) := rfl
theorem nc_o26 (σ : np_S) : (nc_wd q cA σ)[26]? = some (q 26, .inr (5, [.ref (q 27), .int (np_i (σ 26 1))])) := rfl
theorem nc_s26_1 (σ : np_S) (x : Int) : (nc_wd q cA σ).set 26 (q 26, .inr (5, List.set [.ref (q 27), .int (np_i (σ 26 1))] 1 (.int (np_i x)))) = nc_wd q cA (np_st σ 26 1 x) := rfl
theorem nc_a27 (σ : np_S) : (nc_wd q cA σ)[27]? = some (q 27, .inl (cA 2, 230, .inl (fun i => np_i (σ 27 i)))) := rfl
theorem nc_s27 (σ : np_S) (j x : Int) : (nc_wd q cA σ).set 27 (q 27, .inl (cA 2, 230, .inl (fun i : Nat => np_i (if (i : Int) = j then x else σ 27 i)))) = nc_wd q cA (np_st σ 27 j x) := rfl
theorem nc_a28 (σ : np_S) : (nc_wd q cA σ)[28]? = some (q 28, .inl (cA 1, 1, .inr (.inl (fun i => np_l (σ 28 i))))) := rfl
theorem nc_s28 (σ : np_S) (j x : Int) : (nc_wd q cA σ).set 28 (q 28, .inl (cA 1, 1, .inr (.inl (fun i : Nat => np_l (if (i : Int) = j then x else σ 28 i))))) = nc_wd q cA (np_st σ 28 j x) := rfl
theorem nc_o29 (σ : np_S) : (nc_wd q cA σ)[29]? = some (q 29, .inr (6, [.int (np_i (σ 29 0)), .int (np_i (σ 29 1)), .int (np_i (σ 29 2)), .ref (q 30), .ref (q 31), .ref (q 32), .ref (q 33), .ref (q 34), .int (np_i (σ 29 8)), .int (np_i (σ 29 9)), .int (np_i (σ 29 10)), .int (np_i (σ 29 11)), .ref (q 35), .ref (q 36), .ref (q 37), .ref (q 38), .ref (q 39), .ref (q 40), .int (np_i (σ 29 18)), .ref (q 41), .ref (q 42), .ref (q 43), .ref (q 44), .ref (q 45), .ref (q 46), .ref (q 47), .ref (q 48), .int (np_i (σ 29 27)), .int (np_i (σ 29 28)), .ref (q 49), .ref (q 50)])) := rfl
theorem nc_s29_0 (σ : np_S) (x : Int) : (nc_wd q cA σ).set 29 (q 29, .inr (6, List.set [.int (np_i (σ 29 0)), .int (np_i (σ 29 1)), .int (np_i (σ 29 2)), .ref (q 30), .ref (q 31), .ref (q 32), .ref (q 33), .ref (q 34), .int (np_i (σ 29 8)), .int (np_i (σ 29 9)), .int (np_i (σ 29 10)), .int (np_i (σ 29 11)), .ref (q 35), .ref (q 36), .ref (q 37), .ref (q 38), .ref (q 39), .ref (q 40), .int (np_i (σ 29 18)), .ref (q 41), .ref (q 42), .ref (q 43), .ref (q 44), .ref (q 45), .ref (q 46), .ref (q 47), .ref (q 48), .int (np_i (σ 29 27)), .int (np_i (σ 29 28)), .ref (q 49), .ref (q 50)] 0 (.int (np_i x)))) = nc_wd q cA (np_st σ 29 0 x) := rfl
theorem nc_s29_1 (σ : np_S) (x : Int) : (nc_wd q cA σ).set 29 (q 29, .inr (6, List.set [.int (np_i (σ 29 0)), .int (np_i (σ 29 1)), .int (np_i (σ 29 2)), .ref (q 30), .ref (q 31), .ref (q 32), .ref (q 33), .ref (q 34), .int (np_i (σ 29 8)), .int (np_i (σ 29 9)), .int (np_i (σ 29 10)), .int (np_i (σ 29 11)), .ref (q 35), .ref (q 36), .ref (q 37), .ref (q 38), .ref (q 39), .ref (q 40), .int (np_i (σ 29 18)), .ref (q 41), .ref (q 42), .ref (q 43), .ref (q 44), .ref (q 45), .ref (q 46), .ref (q 47), .ref (q 48), .int (np_i (σ 29 27)), .int (np_i (σ 29 28)), .ref (q 49), .ref (q 50)] 1 (.int (np_i x)))) = nc_wd q cA (np_st σ 29 1 x) := rfl
theorem nc_s29_2 (σ : np_S) (x : Int) : (nc_wd q cA σ).set 29 (q 29, .inr (6, List.set [.int (np_i (σ 29 0)), .int (np_i (σ 29 1)), .int (np_i (σ 29 2)), .ref (q 30), .ref (q 31), .ref (q 32), .ref (q 33), .ref (q 34), .int (np_i (σ 29 8)), .int (np_i (σ 29 9)), .int (np_i (σ 29 10)), .int (np_i (σ 29 11)), .ref (q 35), .ref (q 36), .ref (q 37), .ref (q 38), .ref (q 39), .ref (q 40), .int (np_i (σ 29 18)), .ref (q 41), .ref (q 42), .ref (q 43), .ref (q 44), .ref (q 45), .ref (q 46), .ref (q 47), .ref (q 48), .int (np_i (σ 29 27)), .int (np_i (σ 29 28)), .ref (q 49), .ref (q 50)] 2 (.int (np_i x)))) = nc_wd q cA (np_st σ 29 2 x) := rfl
theorem nc_s29_8 (σ : np_S) (x : Int) : (nc_wd q cA σ).set 29 (q 29, .inr (6, List.set [.int (np_i (σ 29 0)), .int (np_i (σ 29 1)), .int (np_i (σ 29 2)), .ref (q 30), .ref (q 31), .ref (q 32), .ref (q 33), .ref (q 34), .int (np_i (σ 29 8)), .int (np_i (σ 29 9)), .int (np_i (σ 29 10)), .int (np_i (σ 29 11)), .ref (q 35), .ref (q 36), .ref (q 37), .ref (q 38), .ref (q 39), .ref (q 40), .int (np_i (σ 29 18)), .ref (q 41), .ref (q 42), .ref (q 43), .ref (q 44), .ref (q 45), .ref (q 46), .ref (q 47), .ref (q 48), .int (np_i (σ 29 27)), .int (np_i (σ 29 28)), .ref (q 49), .ref (q 50)] 8 (.int (np_i x)))) = nc_wd q cA (np_st σ 29 8 x) := rfl
theorem nc_s29_9 (σ : np_S) (x : Int) : (nc_wd q cA σ).set 29 (q 29, .inr (6, List.set [.int (np_i (σ 29 0)), .int (np_i (σ 29 1)), .int (np_i (σ 29 2)), .ref (q 30), .ref (q 31), .ref (q 32), .ref (q 33), .ref (q 34), .int (np_i (σ 29 8)), .int (np_i (σ 29 9)), .int (np_i (σ 29 10)), .int (np_i (σ 29 11)), .ref (q 35), .ref (q 36), .ref (q 37), .ref (q 38), .ref (q 39), .ref (q 40), .int (np_i (σ 29 18)), .ref (q 41), .ref (q 42), .ref (q 43), .ref (q 44), .ref (q 45), .ref (q 46), .ref (q 47), .ref (q 48), .int (np_i (σ 29 27)), .int (np_i (σ 29 28)), .ref (q 49), .ref (q 50)] 9 (.int (np_i x)))) = nc_wd q cA (np_st σ 29 9 x) := rfl
theorem nc_s29_10 (σ : np_S) (x : Int) : (nc_wd q cA σ).set 29 (q 29, .inr (6, List.set [.int (np_i (σ 29 0)), .int (np_i (σ 29 1)), .int (np_i (σ 29 2)), .ref (q 30), .ref (q 31), .ref (q 32), .ref (q 33), .ref (q 34), .int (np_i (σ 29 8)), .int (np_i (σ 29 9)), .int (np_i (σ 29 10)), .int (np_i (σ 29 11)), .ref (q 35), .ref (q 36), .ref (q 37), .ref (q 38), .ref (q 39), .ref (q 40), .int (np_i (σ 29 18)), .ref (q 41), .ref (q 42), .ref (q 43), .ref (q 44), .ref (q 45), .ref (q 46), .ref (q 47), .ref (q 48), .int (np_i (σ 29 27)), .int (np_i (σ 29 28)), .ref (q 49), .ref (q 50)] 10 (.int (np_i x)))) = nc_wd q cA (np_st σ 29 10 x) := rfl
theorem nc_s29_11 (σ : np_S) (x : Int) : (nc_wd q cA σ).set 29 (q 29, .inr (6, List.set [.int (np_i (σ 29 0)), .int (np_i (σ 29 1)), .int (np_i (σ 29 2)), .ref (q 30), .ref (q 31), .ref (q 32), .ref (q 33), .ref (q 34), .int (np_i (σ 29 8)), .int (np_i (σ 29 9)), .int (np_i (σ 29 10)), .int (np_i (σ 29 11)), .ref (q 35), .ref (q 36), .ref (q 37), .ref (q 38), .ref (q 39), .ref (q 40), .int (np_i (σ 29 18)), .ref (q 41), .ref (q 42), .ref (q 43), .ref (q 44), .ref (q 45), .ref (q 46), .ref (q 47), .ref (q 48), .int (np_i (σ 29 27)), .int (np_i (σ 29 28)), .ref (q 49), .ref (q 50)] 11 (.int (np_i x)))) = nc_wd q cA (np_st σ 29 11 x) := rfl
theorem nc_s29_18 (σ : np_S) (x : Int) : (nc_wd q cA σ).set 29 (q 29, .inr (6, List.set [.int (np_i (σ 29 0)), .int (np_i (σ 29 1)), .int (np_i (σ 29 2)), .ref (q 30), .ref (q 31), .ref (q 32), .ref (q 33), .ref (q 34), .int (np_i (σ 29 8)), .int (np_i (σ 29 9)), .int (np_i (σ 29 10)), .int (np_i (σ 29 11)), .ref (q 35), .ref (q 36), .ref (q 37), .ref (q 38), .ref (q 39), .ref (q 40), .int (np_i (σ 29 18)), .ref (q 41), .ref (q 42), .ref (q 43), .ref (q 44), .ref (q 45), .ref (q 46), .ref (q 47), .ref (q 48), .int (np_i (σ 29 27)), .int (np_i (σ 29 28)), .ref (q 49), .ref (q 50)] 18 (.int (np_i x)))) = nc_wd q cA (np_st σ 29 18 x) := rfl
theorem nc_s29_27 (σ : np_S) (x : Int) : (nc_wd q cA σ).set 29 (q 29, .inr (6, List.set [.int (np_i (σ 29 0)), .int (np_i (σ 29 1)), .int (np_i (σ 29 2)), .ref (q 30), .ref (q 31), .ref (q 32), .ref (q 33), .ref (q 34), .int (np_i (σ 29 8)), .int (np_i (σ 29 9)), .int (np_i (σ 29 10)), .int (np_i (σ 29 11)), .ref (q 35), .ref (q 36), .ref (q 37), .ref (q 38), .ref (q 39), .ref (q 40), .int (np_i (σ 29 18)), .ref (q 41), .ref (q 42), .ref (q 43), .ref (q 44), .ref (q 45), .ref (q 46), .ref (q 47), .ref (q 48), .int (np_i (σ 29 27)), .int (np_i (σ 29 28)), .ref (q 49), .ref (q 50)] 27 (.int (np_i x)))) = nc_wd q cA (np_st σ 29 27 x) := rfl
theorem nc_s29_28 (σ : np_S) (x : Int) : (nc_wd q cA σ).set 29 (q 29, .inr (6, List.set [.int (np_i (σ 29 0)), .int (np_i (σ 29 1)), .int (np_i (σ 29 2)), .ref (q 30), .ref (q 31), .ref (q 32), .ref (q 33), .ref (q 34), .int (np_i (σ 29 8)), .int (np_i (σ 29 9)), .int (np_i (σ 29 10)), .int (np_i (σ 29 11)), .ref (q 35), .ref (q 36), .ref (q 37), .ref (q 38), .ref (q 39), .ref (q 40), .int (np_i (σ 29 18)), .ref (q 41), .ref (q 42), .ref (q 43), .ref (q 44), .ref (q 45), .ref (q 46), .ref (q 47), .ref (q 48), .int (np_i (σ 29 27)), .int (np_i (σ 29 28)), .ref (q 49), .ref (q 50)] 28 (.int (np_i x)))) = nc_wd q cA (np_st σ 29 28 x) := rfl
theorem nc_a30 (σ : np_S) : (nc_wd q cA σ)[30]? = some (q 30, .inl (cA 0, 91, .inl (fun i => np_i (σ 30 i)))) := rfl
theorem nc_s30 (σ : np_S) (j x : Int) : (nc_wd q cA σ).set 30 (q 30, .inl (cA 0, 91, .inl (fun i : Nat => np_i (if (i : Int) = j then x else σ 30 i)))) = nc_wd q cA (np_st σ 30 j x) := rfl
theorem nc_a31 (σ : np_S) : (nc_wd q cA σ)[31]? = some (q 31, .inl (cA 1, 91, .inr (.inl (fun i => np_l (σ 31 i))))) := rfl
theorem nc_s31 (σ : np_S) (j x : Int) : (nc_wd q cA σ).set 31 (q 31, .inl (cA 1, 91, .inr (.inl (fun i : Nat => np_l (if (i : Int) = j then x else σ 31 i))))) = nc_wd q cA (np_st σ 31 j x) := rfl
theorem nc_a32 (σ : np_S) : (nc_wd q cA σ)[32]? = some (q 32, .inl (cA 0, 12, .inl (fun i => np_i (σ 32 i)))) := rfl
theorem nc_s32 (σ : np_S) (j x : Int) : (nc_wd q cA σ).set 32 (q 32, .inl (cA 0, 12, .inl (fun i : Nat => np_i (if (i : Int) = j then x else σ 32 i)))) = nc_wd q cA (np_st σ 32 j x) := rfl
theorem nc_a33 (σ : np_S) : (nc_wd q cA σ)[33]? = some (q 33, .inl (cA 0, 12, .inl (fun i => np_i (σ 33 i)))) := rfl
theorem nc_s33 (σ : np_S) (j x : Int) : (nc_wd q cA σ).set 33 (q 33, .inl (cA 0, 12, .inl (fun i : Nat => np_i (if (i : Int) = j then x else σ 33 i)))) = nc_wd q cA (np_st σ 33 j x) := rfl
theorem nc_a34 (σ : np_S) : (nc_wd q cA σ)[34]? = some (q 34, .inl (cA 0, 200, .inl (fun i => np_i (σ 34 i)))) := rfl
theorem nc_s34 (σ : np_S) (j x : Int) : (nc_wd q cA σ).set 34 (q 34, .inl (cA 0, 200, .inl (fun i : Nat => np_i (if (i : Int) = j then x else σ 34 i)))) = nc_wd q cA (np_st σ 34 j x) := rfl
theorem nc_a35 (σ : np_S) : (nc_wd q cA σ)[35]? = some (q 35, .inl (cA 1, 31, .inr (.inl (fun i => np_l (σ 35 i))))) := rfl
theorem nc_s35 (σ : np_S) (j x : Int) : (nc_wd q cA σ).set 35 (q 35, .inl (cA 1, 31, .inr (.inl (fun i : Nat => np_l (if (i : Int) = j then x else σ 35 i))))) = nc_wd q cA (np_st σ 35 j x) := rfl
theorem nc_a36 (σ : np_S) : (nc_wd q cA σ)[36]? = some (q 36, .inl (cA 0, 31, .inl (fun i => np_i (σ 36 i)))) := rfl
theorem nc_s36 (σ : np_S) (j x : Int) : (nc_wd q cA σ).set 36 (q 36, .inl (cA 0, 31, .inl (fun i : Nat => np_i (if (i : Int) = j then x else σ 36 i)))) = nc_wd q cA (np_st σ 36 j x) := rfl
theorem nc_a37 (σ : np_S) : (nc_wd q cA σ)[37]? = some (q 37, .inl (cA 0, 10571, .inl (fun i => np_i (σ 37 i)))) := rfl
theorem nc_s37 (σ : np_S) (j x : Int) : (nc_wd q cA σ).set 37 (q 37, .inl (cA 0, 10571, .inl (fun i : Nat => np_i (if (i : Int) = j then x else σ 37 i)))) = nc_wd q cA (np_st σ 37 j x) := rfl
theorem nc_a38 (σ : np_S) : (nc_wd q cA σ)[38]? = some (q 38, .inl (cA 0, 80724, .inl (fun i => np_i (σ 38 i)))) := rfl
theorem nc_s38 (σ : np_S) (j x : Int) : (nc_wd q cA σ).set 38 (q 38, .inl (cA 0, 80724, .inl (fun i : Nat => np_i (if (i : Int) = j then x else σ 38 i)))) = nc_wd q cA (np_st σ 38 j x) := rfl
theorem nc_a39 (σ : np_S) : (nc_wd q cA σ)[39]? = some (q 39, .inl (cA 3, 341, .inl (fun i => np_i (σ 39 i)))) := rfl
theorem nc_s39 (σ : np_S) (j x : Int) : (nc_wd q cA σ).set 39 (q 39, .inl (cA 3, 341, .inl (fun i : Nat => np_i (if (i : Int) = j then x else σ 39 i)))) = nc_wd q cA (np_st σ 39 j x) := rfl
theorem nc_a40 (σ : np_S) : (nc_wd q cA σ)[40]? = some (q 40, .inl (cA 3, 2604, .inl (fun i => np_i (σ 40 i)))) := rfl
theorem nc_s40 (σ : np_S) (j x : Int) : (nc_wd q cA σ).set 40 (q 40, .inl (cA 3, 2604, .inl (fun i : Nat => np_i (if (i : Int) = j then x else σ 40 i)))) = nc_wd q cA (np_st σ 40 j x) := rfl
theorem nc_a41 (σ : np_S) : (nc_wd q cA σ)[41]? = some (q 41, .inl (cA 0, 40, .inl (fun i => np_i (σ 41 i)))) := rfl
theorem nc_s41 (σ : np_S) (j x : Int) : (nc_wd q cA σ).set 41 (q 41, .inl (cA 0, 40, .inl (fun i : Nat => np_i (if (i : Int) = j then x else σ 41 i)))) = nc_wd q cA (np_st σ 41 j x) := rfl
theorem nc_a42 (σ : np_S) : (nc_wd q cA σ)[42]? = some (q 42, .inl (cA 0, 40, .inl (fun i => np_i (σ 42 i)))) := rfl
theorem nc_s42 (σ : np_S) (j x : Int) : (nc_wd q cA σ).set 42 (q 42, .inl (cA 0, 40, .inl (fun i : Nat => np_i (if (i : Int) = j then x else σ 42 i)))) = nc_wd q cA (np_st σ 42 j x) := rfl
theorem nc_a43 (σ : np_S) : (nc_wd q cA σ)[43]? = some (q 43, .inl (cA 0, 40, .inl (fun i => np_i (σ 43 i)))) := rfl
theorem nc_s43 (σ : np_S) (j x : Int) : (nc_wd q cA σ).set 43 (q 43, .inl (cA 0, 40, .inl (fun i : Nat => np_i (if (i : Int) = j then x else σ 43 i)))) = nc_wd q cA (np_st σ 43 j x) := rfl
theorem nc_a44 (σ : np_S) : (nc_wd q cA σ)[44]? = some (q 44, .inl (cA 0, 40, .inl (fun i => np_i (σ 44 i)))) := rfl
theorem nc_s44 (σ : np_S) (j x : Int) : (nc_wd q cA σ).set 44 (q 44, .inl (cA 0, 40, .inl (fun i : Nat => np_i (if (i : Int) = j then x else σ 44 i)))) = nc_wd q cA (np_st σ 44 j x) := rfl
theorem nc_a45 (σ : np_S) : (nc_wd q cA σ)[45]? = some (q 45, .inl (cA 0, 80, .inl (fun i => np_i (σ 45 i)))) := rfl
theorem nc_s45 (σ : np_S) (j x : Int) : (nc_wd q cA σ).set 45 (q 45, .inl (cA 0, 80, .inl (fun i : Nat => np_i (if (i : Int) = j then x else σ 45 i)))) = nc_wd q cA (np_st σ 45 j x) := rfl
theorem nc_a46 (σ : np_S) : (nc_wd q cA σ)[46]? = some (q 46, .inl (cA 0, 80, .inl (fun i => np_i (σ 46 i)))) := rfl
theorem nc_s46 (σ : np_S) (j x : Int) : (nc_wd q cA σ).set 46 (q 46, .inl (cA 0, 80, .inl (fun i : Nat => np_i (if (i : Int) = j then x else σ 46 i)))) = nc_wd q cA (np_st σ 46 j x) := rfl
theorem nc_a47 (σ : np_S) : (nc_wd q cA σ)[47]? = some (q 47, .inl (cA 0, 80, .inl (fun i => np_i (σ 47 i)))) := rfl
theorem nc_s47 (σ : np_S) (j x : Int) : (nc_wd q cA σ).set 47 (q 47, .inl (cA 0, 80, .inl (fun i : Nat => np_i (if (i : Int) = j then x else σ 47 i)))) = nc_wd q cA (np_st σ 47 j x) := rfl
theorem nc_a48 (σ : np_S) : (nc_wd q cA σ)[48]? = some (q 48, .inl (cA 0, 80, .inl (fun i => np_i (σ 48 i)))) := rfl
theorem nc_s48 (σ : np_S) (j x : Int) : (nc_wd q cA σ).set 48 (q 48, .inl (cA 0, 80, .inl (fun i : Nat => np_i (if (i : Int) = j then x else σ 48 i)))) = nc_wd q cA (np_st σ 48 j x) := rfl
theorem nc_a49 (σ : np_S) : (nc_wd q cA σ)[49]? = some (q 49, .inl (cA 0, 1200, .inl (fun i => np_i (σ 49 i)))) := rfl
theorem nc_s49 (σ : np_S) (j x : Int) : (nc_wd q cA σ).set 49 (q 49, .inl (cA 0, 1200, .inl (fun i : Nat => np_i (if (i : Int) = j then x else σ 49 i)))) = nc_wd q cA (np_st σ 49 j x) := rfl
theorem nc_a50 (σ : np_S) : (nc_wd q cA σ)[50]? = some (q 50, .inl (cA 0, 400, .inl (fun i => np_i (σ 50 i)))) := rfl
theorem nc_s50 (σ : np_S) (j x : Int) : (nc_wd q cA σ).set 50 (q 50, .inl (cA 0, 400, .inl (fun i : Nat => np_i (if (i : Int) = j then x else σ 50 i)))) = nc_wd q cA (np_st σ 50 j x) := rfl
end NCW
