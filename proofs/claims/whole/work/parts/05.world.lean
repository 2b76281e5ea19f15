def nc_wd (q : Nat → Nat) (cI cL cB : ClassId) (σ : np_S) : va_W := [
  (q 0, .inr (0, [.ref (q 1), .ref (q 6), .ref (q 11), .ref (q 15), .ref (q 26), .int (np_i (σ 0 5)), .int (np_i (σ 0 6))])),
  (q 1, .inr (1, [.ref (q 2), .ref (q 3), .ref (q 4), .ref (q 5), .int (np_i (σ 1 4)), .int (np_i (σ 1 5))])),
  (q 2, .inl (cI, 105, .inl (fun i => np_i (σ 2 i)))),
  (q 3, .inl (cL, 105, .inr (.inl (fun i => np_l (σ 3 i))))),
  (q 4, .inl (cI, 14, .inl (fun i => np_i (σ 4 i)))),
  (q 5, .inl (cI, 14, .inl (fun i => np_i (σ 5 i)))),
  (q 6, .inr (2, [.ref (q 7), .int (np_i (σ 6 1)), .ref (q 8), .ref (q 9), .ref (q 10), .int (np_i (σ 6 5)), .int (np_i (σ 6 6))])),
  (q 7, .inl (cB, 200, .inl (fun i => np_i (σ 7 i)))),
  (q 8, .inl (cL, 30, .inr (.inl (fun i => np_l (σ 8 i))))),
  (q 9, .inl (cL, 30, .inr (.inl (fun i => np_l (σ 9 i))))),
  (q 10, .inl (cI, 30, .inl (fun i => np_i (σ 10 i)))),
  (q 11, .inr (3, [.ref (q 1), .ref (q 12), .ref (q 13), .ref (q 14)])),
  (q 12, .inl (cI, 3038, .inl (fun i => np_i (σ 12 i)))),
  (q 13, .inl (cI, 3038, .inl (fun i => np_i (σ 13 i)))),
  (q 14, .inl (cI, 5115, .inl (fun i => np_i (σ 14 i)))),
  (q 15, .inr (4, [.ref (q 1), .ref (q 11), .int (np_i (σ 15 2)), .ref (q 16), .ref (q 17), .ref (q 18), .ref (q 19), .ref (q 20), .ref (q 21), .int (np_i (σ 15 9)), .ref (q 22), .ref (q 23), .ref (q 24), .ref (q 25)])),
  (q 16, .inl (cI, 30, .inl (fun i => np_i (σ 16 i)))),
  (q 17, .inl (cI, 30, .inl (fun i => np_i (σ 17 i)))),
  (q 18, .inl (cI, 30, .inl (fun i => np_i (σ 18 i)))),
  (q 19, .inl (cI, 30, .inl (fun i => np_i (σ 19 i)))),
  (q 20, .inl (cI, 30, .inl (fun i => np_i (σ 20 i)))),
  (q 21, .inl (cI, 30, .inl (fun i => np_i (σ 21 i)))),
  (q 22, .inl (cI, 30, .inl (fun i => np_i (σ 22 i)))),
  (q 23, .inl (cI, 30, .inl (fun i => np_i (σ 23 i)))),
  (q 24, .inl (cI, 30, .inl (fun i => np_i (σ 24 i)))),
  (q 25, .inl (cI, 30, .inl (fun i => np_i (σ 25 i)))),
  (q 26, .inr (5, [.ref (q 27), .int (np_i (σ 26 1))])),
  (q 27, .inl (cB, 230, .inl (fun i => np_i (σ 27 i))))]
section NCW
variable {q : Nat → Nat} {cI cL cB : ClassId}
theorem nc_o0 (σ : np_S) : (nc_wd q cI cL cB σ)[0]? = some (q 0, .inr (0, [.ref (q 1), .ref (q 6), .ref (q 11), .ref (q 15), .ref (q 26), .int (np_i (σ 0 5)), .int (np_i (σ 0 6))])) := rfl
theorem nc_s0_5 (σ : np_S) (x : Int) : (nc_wd q cI cL cB σ).set 0 (q 0, .inr (0, List.set [.ref (q 1), .ref (q 6), .ref (q 11), .ref (q 15), .ref (q 26), .int (np_i (σ 0 5)), .int (np_i (σ 0 6))] 5 (.int (np_i x)))) = nc_wd q cI cL cB (np_st σ 0 5 x) := rfl
theorem nc_s0_6 (σ : np_S) (x : Int) : (nc_wd q cI cL cB σ).set 0 (q 0, .inr (0, List.set [.ref (q 1), .ref (q 6), .ref (q 11), .ref (q 15), .ref (q 26), .int (np_i (σ 0 5)), .int (np_i (σ 0 6))] 6 (.int (np_i x)))) = nc_wd q cI cL cB (np_st σ 0 6 x) := rfl
theorem nc_o1 (σ : np_S) : (nc_wd q cI cL cB σ)[1]? = some (q 1, .inr (1, [.ref (q 2), .ref (q 3), .ref (q 4), .ref (q 5), .int (np_i (σ 1 4)), .int (np_i (σ 1 5))])) := rfl
theorem nc_s1_4 (σ : np_S) (x : Int) : (nc_wd q cI cL cB σ).set 1 (q 1, .inr (1, List.set [.ref (q 2), .ref (q 3), .ref (q 4), .ref (q 5), .int (np_i (σ 1 4)), .int (np_i (σ 1 5))] 4 (.int (np_i x)))) = nc_wd q cI cL cB (np_st σ 1 4 x) := rfl
theorem nc_s1_5 (σ : np_S) (x : Int) : (nc_wd q cI cL cB σ).set 1 (q 1, .inr (1, List.set [.ref (q 2), .ref (q 3), .ref (q 4), .ref (q 5), .int (np_i (σ 1 4)), .int (np_i (σ 1 5))] 5 (.int (np_i x)))) = nc_wd q cI cL cB (np_st σ 1 5 x) := rfl
theorem nc_a2 (σ : np_S) : (nc_wd q cI cL cB σ)[2]? = some (q 2, .inl (cI, 105, .inl (fun i => np_i (σ 2 i)))) := rfl
theorem nc_s2 (σ : np_S) (j x : Int) : (nc_wd q cI cL cB σ).set 2 (q 2, .inl (cI, 105, .inl (fun i : Nat => np_i (if (i : Int) = j then x else σ 2 i)))) = nc_wd q cI cL cB (np_st σ 2 j x) := rfl
theorem nc_a3 (σ : np_S) : (nc_wd q cI cL cB σ)[3]? = some (q 3, .inl (cL, 105, .inr (.inl (fun i => np_l (σ 3 i))))) := rfl
theorem nc_s3 (σ : np_S) (j x : Int) : (nc_wd q cI cL cB σ).set 3 (q 3, .inl (cL, 105, .inr (.inl (fun i : Nat => np_l (if (i : Int) = j then x else σ 3 i))))) = nc_wd q cI cL cB (np_st σ 3 j x) := rfl
theorem nc_a4 (σ : np_S) : (nc_wd q cI cL cB σ)[4]? = some (q 4, .inl (cI, 14, .inl (fun i => np_i (σ 4 i)))) := rfl
theorem nc_s4 (σ : np_S) (j x : Int) : (nc_wd q cI cL cB σ).set 4 (q 4, .inl (cI, 14, .inl (fun i : Nat => np_i (if (i : Int) = j then x else σ 4 i)))) = nc_wd q cI cL cB (np_st σ 4 j x) := rfl
theorem nc_a5 (σ : np_S) : (nc_wd q cI cL cB σ)[5]? = some (q 5, .inl (cI, 14, .inl (fun i => np_i (σ 5 i)))) := rfl
theorem nc_s5 (σ : np_S) (j x : Int) : (nc_wd q cI cL cB σ).set 5 (q 5, .inl (cI, 14, .inl (fun i : Nat => np_i (if (i : Int) = j then x else σ 5 i)))) = nc_wd q cI cL cB (np_st σ 5 j x) := rfl
theorem nc_o6 (σ : np_S) : (nc_wd q cI cL cB σ)[6]? = some (q 6, .inr (2, [.ref (q 7), .int (np_i (σ 6 1)), .ref (q 8), .ref (q 9), .ref (q 10), .int (np_i (σ 6 5)), .int (np_i (σ 6 6))])) := rfl
theorem nc_s6_1 (σ : np_S) (x : Int) : (nc_wd q cI cL cB σ).set 6 (q 6, .inr (2, List.set [.ref (q 7), .int (np_i (σ 6 1)), .ref (q 8), .ref (q 9), .ref (q 10), .int (np_i (σ 6 5)), .int (np_i (σ 6 6))] 1 (.int (np_i x)))) = nc_wd q cI cL cB (np_st σ 6 1 x) := rfl
theorem nc_s6_5 (σ : np_S) (x : Int) : (nc_wd q cI cL cB σ).set 6 (q 6, .inr (2, List.set [.ref (q 7), .int (np_i (σ 6 1)), .ref (q 8), .ref (q 9), .ref (q 10), .int (np_i (σ 6 5)), .int (np_i (σ 6 6))] 5 (.int (np_i x)))) = nc_wd q cI cL cB (np_st σ 6 5 x) := rfl
theorem nc_s6_6 (σ : np_S) (x : Int) : (nc_wd q cI cL cB σ).set 6 (q 6, .inr (2, List.set [.ref (q 7), .int (np_i (σ 6 1)), .ref (q 8), .ref (q 9), .ref (q 10), .int (np_i (σ 6 5)), .int (np_i (σ 6 6))] 6 (.int (np_i x)))) = nc_wd q cI cL cB (np_st σ 6 6 x) := rfl
theorem nc_a7 (σ : np_S) : (nc_wd q cI cL cB σ)[7]? = some (q 7, .inl (cB, 200, .inl (fun i => np_i (σ 7 i)))) := rfl
theorem nc_s7 (σ : np_S) (j x : Int) : (nc_wd q cI cL cB σ).set 7 (q 7, .inl (cB, 200, .inl (fun i : Nat => np_i (if (i : Int) = j then x else σ 7 i)))) = nc_wd q cI cL cB (np_st σ 7 j x) := rfl
theorem nc_a8 (σ : np_S) : (nc_wd q cI cL cB σ)[8]? = some (q 8, .inl (cL, 30, .inr (.inl (fun i => np_l (σ 8 i))))) := rfl
theorem nc_s8 (σ : np_S) (j x : Int) : (nc_wd q cI cL cB σ).set 8 (q 8, .inl (cL, 30, .inr (.inl (fun i : Nat => np_l (if (i : Int) = j then x else σ 8 i))))) = nc_wd q cI cL cB (np_st σ 8 j x) := rfl
theorem nc_a9 (σ : np_S) : (nc_wd q cI cL cB σ)[9]? = some (q 9, .inl (cL, 30, .inr (.inl (fun i => np_l (σ 9 i))))) := rfl
theorem nc_s9 (σ : np_S) (j x : Int) : (nc_wd q cI cL cB σ).set 9 (q 9, .inl (cL, 30, .inr (.inl (fun i : Nat => np_l (if (i : Int) = j then x else σ 9 i))))) = nc_wd q cI cL cB (np_st σ 9 j x) := rfl
theorem nc_a10 (σ : np_S) : (nc_wd q cI cL cB σ)[10]? = some (q 10, .inl (cI, 30, .inl (fun i => np_i (σ 10 i)))) := rfl
theorem nc_s10 (σ : np_S) (j x : Int) : (nc_wd q cI cL cB σ).set 10 (q 10, .inl (cI, 30, .inl (fun i : Nat => np_i (if (i : Int) = j then x else σ 10 i)))) = nc_wd q cI cL cB (np_st σ 10 j x) := rfl
theorem nc_o11 (σ : np_S) : (nc_wd q cI cL cB σ)[11]? = some (q 11, .inr (3, [.ref (q 1), .ref (q 12), .ref (q 13), .ref (q 14)])) := rfl
theorem nc_a12 (σ : np_S) : (nc_wd q cI cL cB σ)[12]? = some (q 12, .inl (cI, 3038, .inl (fun i => np_i (σ 12 i)))) := rfl
theorem nc_s12 (σ : np_S) (j x : Int) : (nc_wd q cI cL cB σ).set 12 (q 12, .inl (cI, 3038, .inl (fun i : Nat => np_i (if (i : Int) = j then x else σ 12 i)))) = nc_wd q cI cL cB (np_st σ 12 j x) := rfl
theorem nc_a13 (σ : np_S) : (nc_wd q cI cL cB σ)[13]? = some (q 13, .inl (cI, 3038, .inl (fun i => np_i (σ 13 i)))) := rfl
theorem nc_s13 (σ : np_S) (j x : Int) : (nc_wd q cI cL cB σ).set 13 (q 13, .inl (cI, 3038, .inl (fun i : Nat => np_i (if (i : Int) = j then x else σ 13 i)))) = nc_wd q cI cL cB (np_st σ 13 j x) := rfl
theorem nc_a14 (σ : np_S) : (nc_wd q cI cL cB σ)[14]? = some (q 14, .inl (cI, 5115, .inl (fun i => np_i (σ 14 i)))) := rfl
theorem nc_s14 (σ : np_S) (j x : Int) : (nc_wd q cI cL cB σ).set 14 (q 14, .inl (cI, 5115, .inl (fun i : Nat => np_i (if (i : Int) = j then x else σ 14 i)))) = nc_wd q cI cL cB (np_st σ 14 j x) := rfl
theorem nc_o15 (σ : np_S) : (nc_wd q cI cL cB σ)[15]? = some (q 15, .inr (4, [.ref (q 1), .ref (q 11), .int (np_i (σ 15 2)), .ref (q 16), .ref (q 17), .ref (q 18), .ref (q 19), .ref (q 20), .ref (q 21), .int (np_i (σ 15 9)), .ref (q 22), .ref (q 23), .ref (q 24), .ref (q 25)])) := rfl
theorem nc_s15_2 (σ : np_S) (x : Int) : (nc_wd q cI cL cB σ).set 15 (q 15, .inr (4, List.set [.ref (q 1), .ref (q 11), .int (np_i (σ 15 2)), .ref (q 16), .ref (q 17), .ref (q 18), .ref (q 19), .ref (q 20), .ref (q 21), .int (np_i (σ 15 9)), .ref (q 22), .ref (q 23), .ref (q 24), .ref (q 25)] 2 (.int (np_i x)))) = nc_wd q cI cL cB (np_st σ 15 2 x) := rfl
theorem nc_s15_9 (σ : np_S) (x : Int) : (nc_wd q cI cL cB σ).set 15 (q 15, .inr (4, List.set [.ref (q 1), .ref (q 11), .int (np_i (σ 15 2)), .ref (q 16), .ref (q 17), .ref (q 18), .ref (q 19), .ref (q 20), .ref (q 21), .int (np_i (σ 15 9)), .ref (q 22), .ref (q 23), .ref (q 24), .ref (q 25)] 9 (.int (np_i x)))) = nc_wd q cI cL cB (np_st σ 15 9 x) := rfl
theorem nc_a16 (σ : np_S) : (nc_wd q cI cL cB σ)[16]? = some (q 16, .inl (cI, 30, .inl (fun i => np_i (σ 16 i)))) := rfl
theorem nc_s16 (σ : np_S) (j x : Int) : (nc_wd q cI cL cB σ).set 16 (q 16, .inl (cI, 30, .inl (fun i : Nat => np_i (if (i : Int) = j then x else σ 16 i)))) = nc_wd q cI cL cB (np_st σ 16 j x) := rfl
theorem nc_a17 (σ : np_S) : (nc_wd q cI cL cB σ)[17]? = some (q 17, .inl (cI, 30, .inl (fun i => np_i (σ 17 i)))) := rfl
theorem nc_s17 (σ : np_S) (j x : Int) : (nc_wd q cI cL cB σ).set 17 (q 17, .inl (cI, 30, .inl (fun i : Nat => np_i (if (i : Int) = j then x else σ 17 i)))) = nc_wd q cI cL cB (np_st σ 17 j x) := rfl
theorem nc_a18 (σ : np_S) : (nc_wd q cI cL cB σ)[18]? = some (q 18, .inl (cI, 30, .inl (fun i => np_i (σ 18 i)))) := rfl
theorem nc_s18 (σ : np_S) (j x : Int) : (nc_wd q cI cL cB σ).set 18 (q 18, .inl (cI, 30, .inl (fun i : Nat => np_i (if (i : Int) = j then x else σ 18 i)))) = nc_wd q cI cL cB (np_st σ 18 j x) := rfl
theorem nc_a19 (σ : np_S) : (nc_wd q cI cL cB σ)[19]? = some (q 19, .inl (cI, 30, .inl (fun i => np_i (σ 19 i)))) := rfl
theorem nc_s19 (σ : np_S) (j x : Int) : (nc_wd q cI cL cB σ).set 19 (q 19, .inl (cI, 30, .inl (fun i : Nat => np_i (if (i : Int) = j then x else σ 19 i)))) = nc_wd q cI cL cB (np_st σ 19 j x) := rfl
theorem nc_a20 (σ : np_S) : (nc_wd q cI cL cB σ)[20]? = some (q 20, .inl (cI, 30, .inl (fun i => np_i (σ 20 i)))) := rfl
theorem nc_s20 (σ : np_S) (j x : Int) : (nc_wd q cI cL cB σ).set 20 (q 20, .inl (cI, 30, .inl (fun i : Nat => np_i (if (i : Int) = j then x else σ 20 i)))) = nc_wd q cI cL cB (np_st σ 20 j x) := rfl
theorem nc_a21 (σ : np_S) : (nc_wd q cI cL cB σ)[21]? = some (q 21, .inl (cI, 30, .inl (fun i => np_i (σ 21 i)))) := rfl
theorem nc_s21 (σ : np_S) (j x : Int) : (nc_wd q cI cL cB σ).set 21 (q 21, .inl (cI, 30, .inl (fun i : Nat => np_i (if (i : Int) = j then x else σ 21 i)))) = nc_wd q cI cL cB (np_st σ 21 j x) := rfl
theorem nc_a22 (σ : np_S) : (nc_wd q cI cL cB σ)[22]? = some (q 22, .inl (cI, 30, .inl (fun i => np_i (σ 22 i)))) := rfl
theorem nc_s22 (σ : np_S) (j x : Int) : (nc_wd q cI cL cB σ).set 22 (q 22, .inl (cI, 30, .inl (fun i : Nat => np_i (if (i : Int) = j then x else σ 22 i)))) = nc_wd q cI cL cB (np_st σ 22 j x) := rfl
theorem nc_a23 (σ : np_S) : (nc_wd q cI cL cB σ)[23]? = some (q 23, .inl (cI, 30, .inl (fun i => np_i (σ 23 i)))) := rfl
theorem nc_s23 (σ : np_S) (j x : Int) : (nc_wd q cI cL cB σ).set 23 (q 23, .inl (cI, 30, .inl (fun i : Nat => np_i (if (i : Int) = j then x else σ 23 i)))) = nc_wd q cI cL cB (np_st σ 23 j x) := rfl
theorem nc_a24 (σ : np_S) : (nc_wd q cI cL cB σ)[24]? = some (q 24, .inl (cI, 30, .inl (fun i => np_i (σ 24 i)))) := rfl
theorem nc_s24 (σ : np_S) (j x : Int) : (nc_wd q cI cL cB σ).set 24 (q 24, .inl (cI, 30, .inl (fun i : Nat => np_i (if (i : Int) = j then x else σ 24 i)))) = nc_wd q cI cL cB (np_st σ 24 j x) := rfl
theorem nc_a25 (σ : np_S) : (nc_wd q cI cL cB σ)[25]? = some (q 25, .inl (cI, 30, .inl (fun i => np_i (σ 25 i)))) := rfl
theorem nc_s25 (σ : np_S) (j x : Int) : (nc_wd q cI cL cB σ).set 25 (q 25, .inl (cI, 30, .inl (fun i : Nat => np_i (if (i : Int) = j then x else σ 25 i)))) = nc_wd q cI cL cB (np_st σ 25 j x) := rfl
theorem nc_o26 (σ : np_S) : (nc_wd q cI cL cB σ)[26]? = some (q 26, .inr (5, [.ref (q 27), .int (np_i (σ 26 1))])) := rfl
theorem nc_s26_1 (σ : np_S) (x : Int) : (nc_wd q cI cL cB σ).set 26 (q 26, .inr (5, List.set [.ref (q 27), .int (np_i (σ 26 1))] 1 (.int (np_i x)))) = nc_wd q cI cL cB (np_st σ 26 1 x) := rfl
theorem nc_a27 (σ : np_S) : (nc_wd q cI cL cB σ)[27]? = some (q 27, .inl (cB, 230, .inl (fun i => np_i (σ 27 i)))) := rfl
theorem nc_s27 (σ : np_S) (j x : Int) : (nc_wd q cI cL cB σ).set 27 (q 27, .inl (cB, 230, .inl (fun i : Nat => np_i (if (i : Int) = j then x else σ 27 i)))) = nc_wd q cI cL cB (np_st σ 27 j x) := rfl
end NCW
