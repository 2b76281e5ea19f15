def nc_wd (q : Nat → Nat) (cA : Nat → ClassId) (σ : np_S) : va_W := [
  (q 0, .inr (0, [.ref (q 1), .ref (q 6), .ref (q 11), .ref (q 15), .ref (q 26), .int (np_i (σ 0 5)), .int (np_i (σ 0 6))])),
  (q 1, .inr (1, [.ref (q 2), .ref (q 3), .ref (q 4), .ref (q 5), .int (np_i (σ 1 4)), .int (np_i (σ 1 5))])),
  (q 2, .inl (cA 0, 105, .inl (fun i => np_i (σ 2 i)))),
  (q 3, .inl (cA 1, 105, .inr (.inl (fun i => np_l (σ 3 i))))),
  (q 4, .inl (cA 0, 14, .inl (fun i => np_i (σ 4 i)))),
  (q 5, .inl (cA 0, 14, .inl (fun i => np_i (σ 5 i)))),
  (q 6, .inr (2, [.ref (q 7), .int (np_i (σ 6 1)), .ref (q 8), .ref (q 9), .ref (q 10), .int (np_i (σ 6 5)), .int (np_i (σ 6 6))])),
  (q 7, .inl (cA 2, 200, .inl (fun i => np_i (σ 7 i)))),
  (q 8, .inl (cA 1, 30, .inr (.inl (fun i => np_l (σ 8 i))))),
  (q 9, .inl (cA 1, 30, .inr (.inl (fun i => np_l (σ 9 i))))),
  (q 10, .inl (cA 0, 30, .inl (fun i => np_i (σ 10 i)))),
  (q 11, .inr (3, [.ref (q 1), .ref (q 12), .ref (q 13), .ref (q 14)])),
  (q 12, .inl (cA 0, 3038, .inl (fun i => np_i (σ 12 i)))),
  (q 13, .inl (cA 0, 3038, .inl (fun i => np_i (σ 13 i)))),
  (q 14, .inl (cA 0, 5115, .inl (fun i => np_i (σ 14 i)))),
  (q 15, .inr (4, [.ref (q 1), .ref (q 11), .int (np_i (σ 15 2)), .ref (q 16), .ref (q 17), .ref (q 18), .ref (q 19), .ref (q 20), .ref (q 21), .int (np_i (σ 15 9)), .ref (q 22), .ref (q 23), .ref (q 24), .ref (q 25)])),
  (q 16, .inl (cA 0, 30, .inl (fun i => np_i (σ 16 i)))),
  (q 17, .inl (cA 0, 30, .inl (fun i => np_i (σ 17 i)))),
  (q 18, .inl (cA 0, 30, .inl (fun i => np_i (σ 18 i)))),
  (q 19, .inl (cA 0, 30, .inl (fun i => np_i (σ 19 i)))),
  (q 20, .inl (cA 0, 30, .inl (fun i => np_i (σ 20 i)))),
  (q 21, .inl (cA 0, 30, .inl (fun i => np_i (σ 21 i)))),
  (q 22, .inl (cA 0, 30, .inl (fun i => np_i (σ 22 i)))),
  (q 23, .inl (cA 0, 30, .inl (fun i => np_i (σ 23 i)))),
  (q 24, .inl (cA 0, 30, .inl (fun i => np_i (σ 24 i)))),
  (q 25, .inl (cA 0, 30, .inl (fun i => np_i (σ 25 i)))),
  (q 26, .inr (5, [.ref (q 27), .int (np_i (σ 26 1))])),
  (q 27, .inl (cA 2, 230, .inl (fun i => np_i (σ 27 i))))]
section NCW
variable {q : Nat → Nat} {cA : Nat → ClassId}
theorem nc_o0 (σ : np_S) : (nc_wd q cA σ)[0]? = some (q 0, .inr (0, [.ref (q 1), .ref (q 6), .ref (q 11), .ref (q 15), .ref (q 26), .int (np_i (σ 0 5)), .int (np_i (σ 0 6))])) := rfl
theorem nc_s0_5 (σ : np_S) (x : Int) : (nc_wd q cA σ).set 0 (q 0, .inr (0, List.set [.ref (q 1), .ref (q 6), .ref (q 11), .ref (q 15), .ref (q 26), .int (np_i (σ 0 5)), .int (np_i (σ 0 6))] 5 (.int (np_i x)))) = nc_wd q cA (np_st σ 0 5 x) := rfl
theorem nc_s0_6 (σ : np_S) (x : Int) : (nc_wd q cA σ).set 0 (q 0, .inr (0, List.set [.ref (q 1), .ref (q 6), .ref (q 11), .ref (q 15), .ref (q 26), .int (np_i (σ 0 5)), .int (np_i (σ 0 6))] 6 (.int (np_i x)))) = nc_wd q cA (np_st σ 0 6 x) := rfl
theorem nc_o1 (σ : np_S) : (nc_wd q cA σ)[1]? = some (q 1, .inr (1, [.ref (q 2), .ref (q 3), .ref (q 4), .ref (q 5), .int (np_i (σ 1 4)), .int (np_i (σ 1 5))])) := rfl
theorem nc_s1_4 (σ : np_S) (x : Int) : (nc_wd q cA σ).set 1 (q 1, .inr (1, List.set [.ref (q 2), .ref (q 3), .ref (q 4), .ref (q 5), .int (np_i (σ 1 4)), .int (np_i (σ 1 5))] 4 (.int (np_i x)))) = nc_wd q cA (np_st σ 1 4 x) := rfl
theorem nc_s1_5 (σ : np_S) (x : Int) : (nc_wd q cA σ).set 1 (q 1, .inr (1, List.set [.ref (q 2), .ref (q 3), .ref (q 4), .ref (q 5), .int (np_i (σ 1 4)), .int (np_i (σ 1 5))] 5 (.int (np_i x)))) = nc_wd q cA (np_st σ 1 5 x) := rfl
theorem nc_a2 (σ : np_S) : (nc_wd q cA σ)[2]? = some (q 2, .inl (cA 0, 105, .inl (fun i => np_i (σ 2 i)))) := rfl
theorem nc_s2 (σ : np_S) (j x : Int) : (nc_wd q cA σ).set 2 (q 2, .inl (cA 0, 105, .inl (fun i : Nat => np_i (if (i : Int) = j then x else σ 2 i)))) = nc_wd q cA (np_st σ 2 j x) := rfl
theorem nc_a3 (σ : np_S) : (nc_wd q cA σ)[3]? = some (q 3, .inl (cA 1, 105, .inr (.inl (fun i => np_l (σ 3 i))))) := rfl
theorem nc_s3 (σ : np_S) (j x : Int) : (nc_wd q cA σ).set 3 (q 3, .inl (cA 1, 105, .inr (.inl (fun i : Nat => np_l (if (i : Int) = j then x else σ 3 i))))) = nc_wd q cA (np_st σ 3 j x) := rfl
theorem nc_a4 (σ : np_S) : (nc_wd q cA σ)[4]? = some (q 4, .inl (cA 0, 14, .inl (fun i => np_i (σ 4 i)))) := rfl
theorem nc_s4 (σ : np_S) (j x : Int) : (nc_wd q cA σ).set 4 (q 4, .inl (cA 0, 14, .inl (fun i : Nat => np_i (if (i : Int) = j then x else σ 4 i)))) = nc_wd q cA (np_st σ 4 j x) := rfl
theorem nc_a5 (σ : np_S) : (nc_wd q cA σ)[5]? = some (q 5, .inl (cA 0, 14, .inl (fun i => np_i (σ 5 i)))) := rfl
theorem nc_s5 (σ : np_S) (j x : Int) : (nc_wd q cA σ).set 5 (q 5, .inl (cA 0, 14, .inl (fun i : Nat => np_i (if (i : Int) = j then x else σ 5 i)))) = nc_wd q cA (np_st σ 5 j x) := rfl
theorem nc_o6 (σ : np_S) : (nc_wd q cA σ)[6]? = some (q 6, .inr (2, [.ref (q 7), .int (np_i (σ 6 1)), .ref (q 8), .ref (q 9), .ref (q 10), .int (np_i (σ 6 5)), .int (np_i (σ 6 6))])) := rfl
theorem nc_s6_1 (σ : np_S) (x : Int) : (nc_wd q cA σ).set 6 (q 6, .inr (2, List.set [.ref (q 7), .int (np_i (σ 6 1)), .ref (q 8), .ref (q 9), .ref (q 10), .int (np_i (σ 6 5)), .int (np_i (σ 6 6))] 1 (.int (np_i x)))) = nc_wd q cA (np_st σ 6 1 x) := rfl
theorem nc_s6_5 (σ : np_S) (x : Int) : (nc_wd q cA σ).set 6 (q 6, .inr (2, List.set [.ref (q 7), .int (np_i (σ 6 1)), .ref (q 8), .ref (q 9), .ref (q 10), .int (np_i (σ 6 5)), .int (np_i (σ 6 6))] 5 (.int (np_i x)))) = nc_wd q cA (np_st σ 6 5 x) := rfl
theorem nc_s6_6 (σ : np_S) (x : Int) : (nc_wd q cA σ).set 6 (q 6, .inr (2, List.set [.ref (q 7), .int (np_i (σ 6 1)), .ref (q 8), .ref (q 9), .ref (q 10), .int (np_i (σ 6 5)), .int (np_i (σ 6 6))] 6 (.int (np_i x)))) = nc_wd q cA (np_st σ 6 6 x) := rfl
theorem nc_a7 (σ : np_S) : (nc_wd q cA σ)[7]? = some (q 7, .inl (cA 2, 200, .inl (fun i => np_i (σ 7 i)))) := rfl
theorem nc_s7 (σ : np_S) (j x : Int) : (nc_wd q cA σ).set 7 (q 7, .inl (cA 2, 200, .inl (fun i : Nat => np_i (if (i : Int) = j then x else σ 7 i)))) = nc_wd q cA (np_st σ 7 j x) := rfl
theorem nc_a8 (σ : np_S) : (nc_wd q cA σ)[8]? = some (q 8, .inl (cA 1, 30, .inr (.inl (fun i => np_l (σ 8 i))))) := rfl
theorem nc_s8 (σ : np_S) (j x : Int) : (nc_wd q cA σ).set 8 (q 8, .inl (cA 1, 30, .inr (.inl (fun i : Nat => np_l (if (i : Int) = j then x else σ 8 i))))) = nc_wd q cA (np_st σ 8 j x) := rfl
theorem nc_a9 (σ : np_S) : (nc_wd q cA σ)[9]? = some (q 9, .inl (cA 1, 30, .inr (.inl (fun i => np_l (σ 9 i))))) := rfl
theorem nc_s9 (σ : np_S) (j x : Int) : (nc_wd q cA σ).set 9 (q 9, .inl (cA 1, 30, .inr (.inl (fun i : Nat => np_l (if (i : Int) = j then x else σ 9 i))))) = nc_wd q cA (np_st σ 9 j x) := rfl
theorem nc_a10 (σ : np_S) : (nc_wd q cA σ)[10]? = some (q 10, .inl (cA 0, 30, .inl (fun i => np_i (σ 10 i)))) := rfl
theorem nc_s10 (σ : np_S) (j x : Int) : (nc_wd q cA σ).set 10 (q 10, .inl (cA 0, 30, .inl (fun i : Nat => np_i (if (i : Int) = j then x else σ 10 i)))) = nc_wd q cA (np_st σ 10 j x) := rfl
theorem nc_o11 (σ : np_S) : (nc_wd q cA σ)[11]? = some (q 11, .inr (3, [.ref (q 1), .ref (q 12), .ref (q 13), .ref (q 14)])) := rfl
theorem nc_a12 (σ : np_S) : (nc_wd q cA σ)[12]? = some (q 12, .inl (cA 0, 3038, .inl (fun i => np_i (σ 12 i)))) := rfl
theorem nc_s12 (σ : np_S) (j x : Int) : (nc_wd q cA σ).set 12 (q 12, .inl (cA 0, 3038, .inl (fun i : Nat => np_i (if (i : Int) = j then x else σ 12 i)))) = nc_wd q cA (np_st σ 12 j x) := rfl
theorem nc_a13 (σ : np_S) : (nc_wd q cA σ)[13]? = some (q 13, .inl (cA 0, 3038, .inl (fun i => np_i (σ 13 i)))) := rfl
theorem nc_s13 (σ : np_S) (j x : Int) : (nc_wd q cA σ).set 13 (q 13, .inl (cA 0, 3038, .inl (fun i : Nat => np_i (if (i : Int) = j then x else σ 13 i)))) = nc_wd q cA (np_st σ 13 j x) := rfl
theorem nc_a14 (σ : np_S) : (nc_wd q cA σ)[14]? = some (q 14, .inl (cA 0, 5115, .inl (fun i => np_i (σ 14 i)))) := rfl
theorem nc_s14 (σ : np_S) (j x : Int) : (nc_wd q cA σ).set 14 (q 14, .inl (cA 0, 5115, .inl (fun i : Nat => np_i (if (i : Int) = j then x else σ 14 i)))) = nc_wd q cA (np_st σ 14 j x) := rfl
theorem nc_o15 (σ : np_S) : (nc_wd q cA σ)[15]? = some (q 15, .inr (4, [.ref (q 1), .ref (q 11), .int (np_i (σ 15 2)), .ref (q 16), .ref (q 17), .ref (q 18), .ref (q 19), .ref (q 20), .ref (q 21), .int (np_i (σ 15 9)), .ref (q 22), .ref (q 23), .ref (q 24), .ref (q 25)])) := rfl
theorem nc_s15_2 (σ : np_S) (x : Int) : (nc_wd q cA σ).set 15 (q 15, .inr (4, List.set [.ref (q 1), .ref (q 11), .int (np_i (σ 15 2)), .ref (q 16), .ref (q 17), .ref (q 18), .ref (q 19), .ref (q 20), .ref (q 21), .int (np_i (σ 15 9)), .ref (q 22), .ref (q 23), .ref (q 24), .ref (q 25)] 2 (.int (np_i x)))) = nc_wd q cA (np_st σ 15 2 x) := rfl
theorem nc_s15_9 (σ : np_S) (x : Int) : (nc_wd q cA σ).set 15 (q 15, .inr (4, List.set [.ref (q 1), .ref (q 11), .int (np_i (σ 15 2)), .ref (q 16), .ref (q 17), .ref (q 18), .ref (q 19), .ref (q 20), .ref (q 21), .int (np_i (σ 15 9)), .ref (q 22), .ref (q 23), .ref (q 24), .ref (q 25)] 9 (.int (np_i x)))) = nc_wd q cA (np_st σ 15 9 x) := rfl
theorem nc_a16 (σ : np_S) : (nc_wd q cA σ)[16]? = some (q 16, .inl (cA 0, 30, .inl (fun i => np_i (σ 16 i)))) := rfl
theorem nc_s16 (σ : np_S) (j x : Int) : (nc_wd q cA σ).set 16 (q 16, .inl (cA 0, 30, .inl (fun i : Nat => np_i (if (i : Int) = j then x else σ 16 i)))) = nc_wd q cA (np_st σ 16 j x) := rfl
theorem nc_a17 (σ : np_S) : (nc_wd q cA σ)[17]? = some (q 17, .inl (cA 0, 30, .inl (fun i => np_i (σ 17 i)))) := rfl
theorem nc_s17 (σ : np_S) (j x : Int) : (nc_wd q cA σ).set 17 (q 17, .inl (cA 0, 30, .inl (fun i : Nat => np_i (if (i : Int) = j then x else σ 17 i)))) = nc_wd q cA (np_st σ 17 j x) := rfl
theorem nc_a18 (σ : np_S) : (nc_wd q cA σ)[18]? = some (q 18, .inl (cA 0, 30, .inl (fun i => np_i (σ 18 i)))) := rfl
theorem nc_s18 (σ : np_S) (j x : Int) : (nc_wd q cA σ).set 18 (q 18, .inl (cA 0, 30, .inl (fun i : Nat => np_i (if (i : Int) = j then x else σ 18 i)))) = nc_wd q cA (np_st σ 18 j x) := rfl
theorem nc_a19 (σ : np_S) : (nc_wd q cA σ)[19]? = some (q 19, .inl (cA 0, 30, .inl (fun i => np_i (σ 19 i)))) := rfl
theorem nc_s19 (σ : np_S) (j x : Int) : (nc_wd q cA σ).set 19 (q 19, .inl (cA 0, 30, .inl (fun i : Nat => np_i (if (i : Int) = j then x else σ 19 i)))) = nc_wd q cA (np_st σ 19 j x) := rfl
theorem nc_a20 (σ : np_S) : (nc_wd q cA σ)[20]? = some (q 20, .inl (cA 0, 30, .inl (fun i => np_i (σ 20 i)))) := rfl
theorem nc_s20 (σ : np_S) (j x : Int) : (nc_wd q cA σ).set 20 (q 20, .inl (cA 0, 30, .inl (fun i : Nat => np_i (if (i : Int) = j then x else σ 20 i)))) = nc_wd q cA (np_st σ 20 j x) := rfl
theorem nc_a21 (σ : np_S) : (nc_wd q cA σ)[21]? = some (q 21, .inl (cA 0, 30, .inl (fun i => np_i (σ 21 i)))) := rfl
theorem nc_s21 (σ : np_S) (j x : Int) : (nc_wd q cA σ).set 21 (q 21, .inl (cA 0, 30, .inl (fun i : Nat => np_i (if (i : Int) = j then x else σ 21 i)))) = nc_wd q cA (np_st σ 21 j x) := rfl
theorem nc_a22 (σ : np_S) : (nc_wd q cA σ)[22]? = some (q 22, .inl (cA 0, 30, .inl (fun i => np_i (σ 22 i)))) := rfl
theorem nc_s22 (σ : np_S) (j x : Int) : (nc_wd q cA σ).set 22 (q 22, .inl (cA 0, 30, .inl (fun i : Nat => np_i (if (i : Int) = j then x else σ 22 i)))) = nc_wd q cA (np_st σ 22 j x) := rfl
theorem nc_a23 (σ : np_S) : (nc_wd q cA σ)[23]? = some (q 23, .inl (cA 0, 30, .inl (fun i => np_i (σ 23 i)))) := rfl
theorem nc_s23 (σ : np_S) (j x : Int) : (nc_wd q cA σ).set 23 (q 23, .inl (cA 0, 30, .inl (fun i : Nat => np_i (if (i : Int) = j then x else σ 23 i)))) = nc_wd q cA (np_st σ 23 j x) := rfl
theorem nc_a24 (σ : np_S) : (nc_wd q cA σ)[24]? = some (q 24, .inl (cA 0, 30, .inl (fun i => np_i (σ 24 i)))) := rfl
theorem nc_s24 (σ : np_S) (j x : Int) : (nc_wd q cA σ).set 24 (q 24, .inl (cA 0, 30, .inl (fun i : Nat => np_i (if (i : Int) = j then x else σ 24 i)))) = nc_wd q cA (np_st σ 24 j x) := rfl
theorem nc_a25 (σ : np_S) : (nc_wd q cA σ)[25]? = some (q 25, .inl (cA 0, 30, .inl (fun i => np_i (σ 25 i)))) := rfl
theorem nc_s25 (σ : np_S) (j x : Int) : (nc_wd q cA σ).set 25 (q 25, .inl (cA 0, 30, .inl (fun i : Nat => np_i (if (i : Int) = j then x else σ 25 i)))) = nc_wd q cA (np_st σ 25 j x) := rfl
theorem nc_o26 (σ : np_S) : (nc_wd q cA σ)[26]? = some (q 26, .inr (5, [.ref (q 27), .int (np_i (σ 26 1))])) := rfl
theorem nc_s26_1 (σ : np_S) (x : Int) : (nc_wd q cA σ).set 26 (q 26, .inr (5, List.set [.ref (q 27), .int (np_i (σ 26 1))] 1 (.int (np_i x)))) = nc_wd q cA (np_st σ 26 1 x) := rfl
theorem nc_a27 (σ : np_S) : (nc_wd q cA σ)[27]? = some (q 27, .inl (cA 2, 230, .inl (fun i => np_i (σ 27 i)))) := rfl
theorem nc_s27 (σ : np_S) (j x : Int) : (nc_wd q cA σ).set 27 (q 27, .inl (cA 2, 230, .inl (fun i : Nat => np_i (if (i : Int) = j then x else σ 27 i)))) = nc_wd q cA (np_st σ 27 j x) := rfl
end NCW
def nm_wd (q : Nat → Nat) (cA : Nat → ClassId) (σ : np_S) : va_W := [
  (q 0, .inr (6, [.int (np_i (σ 0 0)), .int (np_i (σ 0 1)), .int (np_i (σ 0 2)), .ref (q 1), .ref (q 2), .ref (q 3), .ref (q 4), .ref (q 5), .int (np_i (σ 0 8)), .int (np_i (σ 0 9)), .int (np_i (σ 0 10)), .int (np_i (σ 0 11)), .ref (q 6), .ref (q 7), .ref (q 8), .ref (q 9), .ref (q 10), .ref (q 11), .int (np_i (σ 0 18)), .ref (q 12), .ref (q 13), .ref (q 14), .ref (q 15), .ref (q 16), .ref (q 17), .ref (q 18), .ref (q 19), .int (np_i (σ 0 27)), .int (np_i (σ 0 28)), .ref (q 20), .ref (q 21)])),
  (q 1, .inl (cA 0, 91, .inl (fun i => np_i (σ 1 i)))),
  (q 2, .inl (cA 1, 91, .inr (.inl (fun i => np_l (σ 2 i))))),
  (q 3, .inl (cA 0, 12, .inl (fun i => np_i (σ 3 i)))),
  (q 4, .inl (cA 0, 12, .inl (fun i => np_i (σ 4 i)))),
  (q 5, .inl (cA 0, 200, .inl (fun i => np_i (σ 5 i)))),
  (q 6, .inl (cA 1, 31, .inr (.inl (fun i => np_l (σ 6 i))))),
  (q 7, .inl (cA 0, 31, .inl (fun i => np_i (σ 7 i)))),
  (q 8, .inl (cA 0, 10571, .inl (fun i => np_i (σ 8 i)))),
  (q 9, .inl (cA 0, 80724, .inl (fun i => np_i (σ 9 i)))),
  (q 10, .inl (cA 3, 341, .inl (fun i => np_i (σ 10 i)))),
  (q 11, .inl (cA 3, 2604, .inl (fun i => np_i (σ 11 i)))),
  (q 12, .inl (cA 0, 40, .inl (fun i => np_i (σ 12 i)))),
  (q 13, .inl (cA 0, 40, .inl (fun i => np_i (σ 13 i)))),
  (q 14, .inl (cA 0, 40, .inl (fun i => np_i (σ 14 i)))),
  (q 15, .inl (cA 0, 40, .inl (fun i => np_i (σ 15 i)))),
  (q 16, .inl (cA 0, 80, .inl (fun i => np_i (σ 16 i)))),
  (q 17, .inl (cA 0, 80, .inl (fun i => np_i (σ 17 i)))),
  (q 18, .inl (cA 0, 80, .inl (fun i => np_i (σ 18 i)))),
  (q 19, .inl (cA 0, 80, .inl (fun i => np_i (σ 19 i)))),
  (q 20, .inl (cA 0, 1200, .inl (fun i => np_i (σ 20 i)))),
  (q 21, .inl (cA 0, 400, .inl (fun i => np_i (σ 21 i))))]
section NMW
variable {q : Nat → Nat} {cA : Nat → ClassId}
theorem nm_o0 (σ : np_S) : (nm_wd q cA σ)[0]? = some (q 0, .inr (6, [.int (np_i (σ 0 0)), .int (np_i (σ 0 1)), .int (np_i (σ 0 2)), .ref (q 1), .ref (q 2), .ref (q 3), .ref (q 4), .ref (q 5), .int (np_i (σ 0 8)), .int (np_i (σ 0 9)), .int (np_i (σ 0 10)), .int (np_i (σ 0 11)), .ref (q 6), .ref (q 7), .ref (q 8), .ref (q 9), .ref (q 10), .ref (q 11), .int (np_i (σ 0 18)), .ref (q 12), .ref (q 13), .ref (q 14), .ref (q 15), .ref (q 16), .ref (q 17), .ref (q 18), .ref (q 19), .int (np_i (σ 0 27)), .int (np_i (σ 0 28)), .ref (q 20), .ref (q 21)])) := rfl
theorem nm_s0_0 (σ : np_S) (x : Int) : (nm_wd q cA σ).set 0 (q 0, .inr (6, List.set [.int (np_i (σ 0 0)), .int (np_i (σ 0 1)), .int (np_i (σ 0 2)), .ref (q 1), .ref (q 2), .ref (q 3), .ref (q 4), .ref (q 5), .int (np_i (σ 0 8)), .int (np_i (σ 0 9)), .int (np_i (σ 0 10)), .int (np_i (σ 0 11)), .ref (q 6), .ref (q 7), .ref (q 8), .ref (q 9), .ref (q 10), .ref (q 11), .int (np_i (σ 0 18)), .ref (q 12), .ref (q 13), .ref (q 14), .ref (q 15), .ref (q 16), .ref (q 17), .ref (q 18), .ref (q 19), .int (np_i (σ 0 27)), .int (np_i (σ 0 28)), .ref (q 20), .ref (q 21)] 0 (.int (np_i x)))) = nm_wd q cA (np_st σ 0 0 x) := rfl
theorem nm_s0_1 (σ : np_S) (x : Int) : (nm_wd q cA σ).set 0 (q 0, .inr (6, List.set [.int (np_i (σ 0 0)), .int (np_i (σ 0 1)), .int (np_i (σ 0 2)), .ref (q 1), .ref (q 2), .ref (q 3), .ref (q 4), .ref (q 5), .int (np_i (σ 0 8)), .int (np_i (σ 0 9)), .int (np_i (σ 0 10)), .int (np_i (σ 0 11)), .ref (q 6), .ref (q 7), .ref (q 8), .ref (q 9), .ref (q 10), .ref (q 11), .int (np_i (σ 0 18)), .ref (q 12), .ref (q 13), .ref (q 14), .ref (q 15), .ref (q 16), .ref (q 17), .ref (q 18), .ref (q 19), .int (np_i (σ 0 27)), .int (np_i (σ 0 28)), .ref (q 20), .ref (q 21)] 1 (.int (np_i x)))) = nm_wd q cA (np_st σ 0 1 x) := rfl
theorem nm_s0_2 (σ : np_S) (x : Int) : (nm_wd q cA σ).set 0 (q 0, .inr (6, List.set [.int (np_i (σ 0 0)), .int (np_i (σ 0 1)), .int (np_i (σ 0 2)), .ref (q 1), .ref (q 2), .ref (q 3), .ref (q 4), .ref (q 5), .int (np_i (σ 0 8)), .int (np_i (σ 0 9)), .int (np_i (σ 0 10)), .int (np_i (σ 0 11)), .ref (q 6), .ref (q 7), .ref (q 8), .ref (q 9), .ref (q 10), .ref (q 11), .int (np_i (σ 0 18)), .ref (q 12), .ref (q 13), .ref (q 14), .ref (q 15), .ref (q 16), .ref (q 17), .ref (q 18), .ref (q 19), .int (np_i (σ 0 27)), .int (np_i (σ 0 28)), .ref (q 20), .ref (q 21)] 2 (.int (np_i x)))) = nm_wd q cA (np_st σ 0 2 x) := rfl
theorem nm_s0_8 (σ : np_S) (x : Int) : (nm_wd q cA σ).set 0 (q 0, .inr (6, List.set [.int (np_i (σ 0 0)), .int (np_i (σ 0 1)), .int (np_i (σ 0 2)), .ref (q 1), .ref (q 2), .ref (q 3), .ref (q 4), .ref (q 5), .int (np_i (σ 0 8)), .int (np_i (σ 0 9)), .int (np_i (σ 0 10)), .int (np_i (σ 0 11)), .ref (q 6), .ref (q 7), .ref (q 8), .ref (q 9), .ref (q 10), .ref (q 11), .int (np_i (σ 0 18)), .ref (q 12), .ref (q 13), .ref (q 14), .ref (q 15), .ref (q 16), .ref (q 17), .ref (q 18), .ref (q 19), .int (np_i (σ 0 27)), .int (np_i (σ 0 28)), .ref (q 20), .ref (q 21)] 8 (.int (np_i x)))) = nm_wd q cA (np_st σ 0 8 x) := rfl
theorem nm_s0_9 (σ : np_S) (x : Int) : (nm_wd q cA σ).set 0 (q 0, .inr (6, List.set [.int (np_i (σ 0 0)), .int (np_i (σ 0 1)), .int (np_i (σ 0 2)), .ref (q 1), .ref (q 2), .ref (q 3), .ref (q 4), .ref (q 5), .int (np_i (σ 0 8)), .int (np_i (σ 0 9)), .int (np_i (σ 0 10)), .int (np_i (σ 0 11)), .ref (q 6), .ref (q 7), .ref (q 8), .ref (q 9), .ref (q 10), .ref (q 11), .int (np_i (σ 0 18)), .ref (q 12), .ref (q 13), .ref (q 14), .ref (q 15), .ref (q 16), .ref (q 17), .ref (q 18), .ref (q 19), .int (np_i (σ 0 27)), .int (np_i (σ 0 28)), .ref (q 20), .ref (q 21)] 9 (.int (np_i x)))) = nm_wd q cA (np_st σ 0 9 x) := rfl
theorem nm_s0_10 (σ : np_S) (x : Int) : (nm_wd q cA σ).set 0 (q 0, .inr (6, List.set [.int (np_i (σ 0 0)), .int (np_i (σ 0 1)), .int (np_i (σ 0 2)), .ref (q 1), .ref (q 2), .ref (q 3), .ref (q 4), .ref (q 5), .int (np_i (σ 0 8)), .int (np_i (σ 0 9)), .int (np_i (σ 0 10)), .int (np_i (σ 0 11)), .ref (q 6), .ref (q 7), .ref (q 8), .ref (q 9), .ref (q 10), .ref (q 11), .int (np_i (σ 0 18)), .ref (q 12), .ref (q 13), .ref (q 14), .ref (q 15), .ref (q 16), .ref (q 17), .ref (q 18), .ref (q 19), .int (np_i (σ 0 27)), .int (np_i (σ 0 28)), .ref (q 20), .ref (q 21)] 10 (.int (np_i x)))) = nm_wd q cA (np_st σ 0 10 x) := rfl
theorem nm_s0_11 (σ : np_S) (x : Int) : (nm_wd q cA σ).set 0 (q 0, .inr (6, List.set [.int (np_i (σ 0 0)), .int (np_i (σ 0 1)), .int (np_i (σ 0 2)), .ref (q 1), .ref (q 2), .ref (q 3), .ref (q 4), .ref (q 5), .int (np_i (σ 0 8)), .int (np_i (σ 0 9)), .int (np_i (σ 0 10)), .int (np_i (σ 0 11)), .ref (q 6), .ref (q 7), .ref (q 8), .ref (q 9), .ref (q 10), .ref (q 11), .int (np_i (σ 0 18)), .ref (q 12), .ref (q 13), .ref (q 14), .ref (q 15), .ref (q 16), .ref (q 17), .ref (q 18), .ref (q 19), .int (np_i (σ 0 27)), .int (np_i (σ 0 28)), .ref (q 20), .ref (q 21)] 11 (.int (np_i x)))) = nm_wd q cA (np_st σ 0 11 x) := rfl
theorem nm_s0_18 (σ : np_S) (x : Int) : (nm_wd q cA σ).set 0 (q 0, .inr (6, List.set [.int (np_i (σ 0 0)), .int (np_i (σ 0 1)), .int (np_i (σ 0 2)), .ref (q 1), .ref (q 2), .ref (q 3), .ref (q 4), .ref (q 5), .int (np_i (σ 0 8)), .int (np_i (σ 0 9)), .int (np_i (σ 0 10)), .int (np_i (σ 0 11)), .ref (q 6), .ref (q 7), .ref (q 8), .ref (q 9), .ref (q 10), .ref (q 11), .int (np_i (σ 0 18)), .ref (q 12), .ref (q 13), .ref (q 14), .ref (q 15), .ref (q 16), .ref (q 17), .ref (q 18), .ref (q 19), .int (np_i (σ 0 27)), .int (np_i (σ 0 28)), .ref (q 20), .ref (q 21)] 18 (.int (np_i x)))) = nm_wd q cA (np_st σ 0 18 x) := rfl
theorem nm_s0_27 (σ : np_S) (x : Int) : (nm_wd q cA σ).set 0 (q 0, .inr (6, List.set [.int (np_i (σ 0 0)), .int (np_i (σ 0 1)), .int (np_i (σ 0 2)), .ref (q 1), .ref (q 2), .ref (q 3), .ref (q 4), .ref (q 5), .int (np_i (σ 0 8)), .int (np_i (σ 0 9)), .int (np_i (σ 0 10)), .int (np_i (σ 0 11)), .ref (q 6), .ref (q 7), .ref (q 8), .ref (q 9), .ref (q 10), .ref (q 11), .int (np_i (σ 0 18)), .ref (q 12), .ref (q 13), .ref (q 14), .ref (q 15), .ref (q 16), .ref (q 17), .ref (q 18), .ref (q 19), .int (np_i (σ 0 27)), .int (np_i (σ 0 28)), .ref (q 20), .ref (q 21)] 27 (.int (np_i x)))) = nm_wd q cA (np_st σ 0 27 x) := rfl
theorem nm_s0_28 (σ : np_S) (x : Int) : (nm_wd q cA σ).set 0 (q 0, .inr (6, List.set [.int (np_i (σ 0 0)), .int (np_i (σ 0 1)), .int (np_i (σ 0 2)), .ref (q 1), .ref (q 2), .ref (q 3), .ref (q 4), .ref (q 5), .int (np_i (σ 0 8)), .int (np_i (σ 0 9)), .int (np_i (σ 0 10)), .int (np_i (σ 0 11)), .ref (q 6), .ref (q 7), .ref (q 8), .ref (q 9), .ref (q 10), .ref (q 11), .int (np_i (σ 0 18)), .ref (q 12), .ref (q 13), .ref (q 14), .ref (q 15), .ref (q 16), .ref (q 17), .ref (q 18), .ref (q 19), .int (np_i (σ 0 27)), .int (np_i (σ 0 28)), .ref (q 20), .ref (q 21)] 28 (.int (np_i x)))) = nm_wd q cA (np_st σ 0 28 x) := rfl
theorem nm_a1 (σ : np_S) : (nm_wd q cA σ)[1]? = some (q 1, .inl (cA 0, 91, .inl (fun i => np_i (σ 1 i)))) := rfl
theorem nm_s1 (σ : np_S) (j x : Int) : (nm_wd q cA σ).set 1 (q 1, .inl (cA 0, 91, .inl (fun i : Nat => np_i (if (i : Int) = j then x else σ 1 i)))) = nm_wd q cA (np_st σ 1 j x) := rfl
theorem nm_a2 (σ : np_S) : (nm_wd q cA σ)[2]? = some (q 2, .inl (cA 1, 91, .inr (.inl (fun i => np_l (σ 2 i))))) := rfl
theorem nm_s2 (σ : np_S) (j x : Int) : (nm_wd q cA σ).set 2 (q 2, .inl (cA 1, 91, .inr (.inl (fun i : Nat => np_l (if (i : Int) = j then x else σ 2 i))))) = nm_wd q cA (np_st σ 2 j x) := rfl
theorem nm_a3 (σ : np_S) : (nm_wd q cA σ)[3]? = some (q 3, .inl (cA 0, 12, .inl (fun i => np_i (σ 3 i)))) := rfl
theorem nm_s3 (σ : np_S) (j x : Int) : (nm_wd q cA σ).set 3 (q 3, .inl (cA 0, 12, .inl (fun i : Nat => np_i (if (i : Int) = j then x else σ 3 i)))) = nm_wd q cA (np_st σ 3 j x) := rfl
theorem nm_a4 (σ : np_S) : (nm_wd q cA σ)[4]? = some (q 4, .inl (cA 0, 12, .inl (fun i => np_i (σ 4 i)))) := rfl
theorem nm_s4 (σ : np_S) (j x : Int) : (nm_wd q cA σ).set 4 (q 4, .inl (cA 0, 12, .inl (fun i : Nat => np_i (if (i : Int) = j then x else σ 4 i)))) = nm_wd q cA (np_st σ 4 j x) := rfl
theorem nm_a5 (σ : np_S) : (nm_wd q cA σ)[5]? = some (q 5, .inl (cA 0, 200, .inl (fun i => np_i (σ 5 i)))) := rfl
theorem nm_s5 (σ : np_S) (j x : Int) : (nm_wd q cA σ).set 5 (q 5, .inl (cA 0, 200, .inl (fun i : Nat => np_i (if (i : Int) = j then x else σ 5 i)))) = nm_wd q cA (np_st σ 5 j x) := rfl
theorem nm_a6 (σ : np_S) : (nm_wd q cA σ)[6]? = some (q 6, .inl (cA 1, 31, .inr (.inl (fun i => np_l (σ 6 i))))) := rfl
theorem nm_s6 (σ : np_S) (j x : Int) : (nm_wd q cA σ).set 6 (q 6, .inl (cA 1, 31, .inr (.inl (fun i : Nat => np_l (if (i : Int) = j then x else σ 6 i))))) = nm_wd q cA (np_st σ 6 j x) := rfl
theorem nm_a7 (σ : np_S) : (nm_wd q cA σ)[7]? = some (q 7, .inl (cA 0, 31, .inl (fun i => np_i (σ 7 i)))) := rfl
theorem nm_s7 (σ : np_S) (j x : Int) : (nm_wd q cA σ).set 7 (q 7, .inl (cA 0, 31, .inl (fun i : Nat => np_i (if (i : Int) = j then x else σ 7 i)))) = nm_wd q cA (np_st σ 7 j x) := rfl
theorem nm_a8 (σ : np_S) : (nm_wd q cA σ)[8]? = some (q 8, .inl (cA 0, 10571, .inl (fun i => np_i (σ 8 i)))) := rfl
theorem nm_s8 (σ : np_S) (j x : Int) : (nm_wd q cA σ).set 8 (q 8, .inl (cA 0, 10571, .inl (fun i : Nat => np_i (if (i : Int) = j then x else σ 8 i)))) = nm_wd q cA (np_st σ 8 j x) := rfl
theorem nm_a9 (σ : np_S) : (nm_wd q cA σ)[9]? = some (q 9, .inl (cA 0, 80724, .inl (fun i => np_i (σ 9 i)))) := rfl
theorem nm_s9 (σ : np_S) (j x : Int) : (nm_wd q cA σ).set 9 (q 9, .inl (cA 0, 80724, .inl (fun i : Nat => np_i (if (i : Int) = j then x else σ 9 i)))) = nm_wd q cA (np_st σ 9 j x) := rfl
theorem nm_a10 (σ : np_S) : (nm_wd q cA σ)[10]? = some (q 10, .inl (cA 3, 341, .inl (fun i => np_i (σ 10 i)))) := rfl
theorem nm_s10 (σ : np_S) (j x : Int) : (nm_wd q cA σ).set 10 (q 10, .inl (cA 3, 341, .inl (fun i : Nat => np_i (if (i : Int) = j then x else σ 10 i)))) = nm_wd q cA (np_st σ 10 j x) := rfl
theorem nm_a11 (σ : np_S) : (nm_wd q cA σ)[11]? = some (q 11, .inl (cA 3, 2604, .inl (fun i => np_i (σ 11 i)))) := rfl
theorem nm_s11 (σ : np_S) (j x : Int) : (nm_wd q cA σ).set 11 (q 11, .inl (cA 3, 2604, .inl (fun i : Nat => np_i (if (i : Int) = j then x else σ 11 i)))) = nm_wd q cA (np_st σ 11 j x) := rfl
theorem nm_a12 (σ : np_S) : (nm_wd q cA σ)[12]? = some (q 12, .inl (cA 0, 40, .inl (fun i => np_i (σ 12 i)))) := rfl
theorem nm_s12 (σ : np_S) (j x : Int) : (nm_wd q cA σ).set 12 (q 12, .inl (cA 0, 40, .inl (fun i : Nat => np_i (if (i : Int) = j then x else σ 12 i)))) = nm_wd q cA (np_st σ 12 j x) := rfl
theorem nm_a13 (σ : np_S) : (nm_wd q cA σ)[13]? = some (q 13, .inl (cA 0, 40, .inl (fun i => np_i (σ 13 i)))) := rfl
theorem nm_s13 (σ : np_S) (j x : Int) : (nm_wd q cA σ).set 13 (q 13, .inl (cA 0, 40, .inl (fun i : Nat => np_i (if (i : Int) = j then x else σ 13 i)))) = nm_wd q cA (np_st σ 13 j x) := rfl
theorem nm_a14 (σ : np_S) : (nm_wd q cA σ)[14]? = some (q 14, .inl (cA 0, 40, .inl (fun i => np_i (σ 14 i)))) := rfl
theorem nm_s14 (σ : np_S) (j x : Int) : (nm_wd q cA σ).set 14 (q 14, .inl (cA 0, 40, .inl (fun i : Nat => np_i (if (i : Int) = j then x else σ 14 i)))) = nm_wd q cA (np_st σ 14 j x) := rfl
theorem nm_a15 (σ : np_S) : (nm_wd q cA σ)[15]? = some (q 15, .inl (cA 0, 40, .inl (fun i => np_i (σ 15 i)))) := rfl
theorem nm_s15 (σ : np_S) (j x : Int) : (nm_wd q cA σ).set 15 (q 15, .inl (cA 0, 40, .inl (fun i : Nat => np_i (if (i : Int) = j then x else σ 15 i)))) = nm_wd q cA (np_st σ 15 j x) := rfl
theorem nm_a16 (σ : np_S) : (nm_wd q cA σ)[16]? = some (q 16, .inl (cA 0, 80, .inl (fun i => np_i (σ 16 i)))) := rfl
theorem nm_s16 (σ : np_S) (j x : Int) : (nm_wd q cA σ).set 16 (q 16, .inl (cA 0, 80, .inl (fun i : Nat => np_i (if (i : Int) = j then x else σ 16 i)))) = nm_wd q cA (np_st σ 16 j x) := rfl
theorem nm_a17 (σ : np_S) : (nm_wd q cA σ)[17]? = some (q 17, .inl (cA 0, 80, .inl (fun i => np_i (σ 17 i)))) := rfl
theorem nm_s17 (σ : np_S) (j x : Int) : (nm_wd q cA σ).set 17 (q 17, .inl (cA 0, 80, .inl (fun i : Nat => np_i (if (i : Int) = j then x else σ 17 i)))) = nm_wd q cA (np_st σ 17 j x) := rfl
theorem nm_a18 (σ : np_S) : (nm_wd q cA σ)[18]? = some (q 18, .inl (cA 0, 80, .inl (fun i => np_i (σ 18 i)))) := rfl
theorem nm_s18 (σ : np_S) (j x : Int) : (nm_wd q cA σ).set 18 (q 18, .inl (cA 0, 80, .inl (fun i : Nat => np_i (if (i : Int) = j then x else σ 18 i)))) = nm_wd q cA (np_st σ 18 j x) := rfl
theorem nm_a19 (σ : np_S) : (nm_wd q cA σ)[19]? = some (q 19, .inl (cA 0, 80, .inl (fun i => np_i (σ 19 i)))) := rfl
theorem nm_s19 (σ : np_S) (j x : Int) : (nm_wd q cA σ).set 19 (q 19, .inl (cA 0, 80, .inl (fun i : Nat => np_i (if (i : Int) = j then x else σ 19 i)))) = nm_wd q cA (np_st σ 19 j x) := rfl
theorem nm_a20 (σ : np_S) : (nm_wd q cA σ)[20]? = some (q 20, .inl (cA 0, 1200, .inl (fun i => np_i (σ 20 i)))) := rfl
theorem nm_s20 (σ : np_S) (j x : Int) : (nm_wd q cA σ).set 20 (q 20, .inl (cA 0, 1200, .inl (fun i : Nat => np_i (if (i : Int) = j then x else σ 20 i)))) = nm_wd q cA (np_st σ 20 j x) := rfl
theorem nm_a21 (σ : np_S) : (nm_wd q cA σ)[21]? = some (q 21, .inl (cA 0, 400, .inl (fun i => np_i (σ 21 i)))) := rfl
theorem nm_s21 (σ : np_S) (j x : Int) : (nm_wd q cA σ).set 21 (q 21, .inl (cA 0, 400, .inl (fun i : Nat => np_i (if (i : Int) = j then x else σ 21 i)))) = nm_wd q cA (np_st σ 21 j x) := rfl
end NMW
