def f_Grammar_usedDots  (σ : np_S) : Option np_O := some ((σ 1 4) * 7, σ)
def f_Arrays_rangeCheck  (x0 x1 x2 : Int) (σ : np_S) : Option np_O := np_ck (np_R x1 ∧ np_R x2) (if x1 ≤ x2 then (np_ck (np_R x1) (if (0 : Int) ≤ x1 then (np_ck (np_R x2 ∧ np_R x0) (if x2 ≤ x0 then (some (0, σ)) else (none))) else (none))) else (none))
def f_Arrays_fill_2_10_b  (k10 : (Int → Int → Int → np_S → Option np_O)) (x2 x3 x4 : Int) (σ : np_S) : Option np_O := np_ck (np_R x4 ∧ np_R x2) (if x2 ≤ x4 then (some (0, σ)) else (np_ck ((0 : Int) ≤ x4 ∧ x4 < 105) (k10 x2 x3 (x4 + 1) (np_st σ 2 x4 x3))))
def f_Arrays_fill_2_10  : Nat → Int → Int → Int → np_S → Option np_O
  | 0, _, _, _, _ => none
  | n + 1, x2, x3, x4, σ => f_Arrays_fill_2_10_b  (fun x2 x3 x4 σ => f_Arrays_fill_2_10  n x2 x3 x4 σ) x2 x3 x4 σ
def f_Arrays_fill_2  (x1 x2 x3 : Int) (σ : np_S) : Option np_O := (f_Arrays_rangeCheck 105 x1 x2 σ).bind (fun o1 => f_Arrays_fill_2_10 6000 x2 x3 x1 o1.2)
def f_Arrays_fill2_3_10_b  (k10 : (Int → Int → Int → np_S → Option np_O)) (x2 x3 x5 : Int) (σ : np_S) : Option np_O := np_ck (np_R x5 ∧ np_R x2) (if x2 ≤ x5 then (some (0, σ)) else (np_ck ((0 : Int) ≤ x5 ∧ x5 < 105) (k10 x2 x3 (x5 + 1) (np_st σ 3 x5 x3))))
def f_Arrays_fill2_3_10  : Nat → Int → Int → Int → np_S → Option np_O
  | 0, _, _, _, _ => none
  | n + 1, x2, x3, x5, σ => f_Arrays_fill2_3_10_b  (fun x2 x3 x5 σ => f_Arrays_fill2_3_10  n x2 x3 x5 σ) x2 x3 x5 σ
def f_Arrays_fill2_3  (x1 x2 x3 : Int) (σ : np_S) : Option np_O := (f_Arrays_rangeCheck 105 x1 x2 σ).bind (fun o1 => f_Arrays_fill2_3_10 6000 x2 x3 x1 o1.2)
def f_Grammar_dropHand  (σ : np_S) : Option np_O := (f_Grammar_usedDots σ).bind (fun o1 => (f_Grammar_usedDots o1.2).bind (fun o2 => (f_Arrays_fill_2 o1.1 (o2.1 + 7) ((-1)) o2.2).bind (fun o3 => (f_Grammar_usedDots o3.2).bind (fun o4 => (f_Grammar_usedDots o4.2).bind (fun o5 => (f_Arrays_fill2_3 o4.1 (o5.1 + 7) ((-1)) o5.2).bind (fun o6 => some (0, (np_st o6.2 1 5 0))))))))
def f_Spelling_byteOf  (x0 x2 : Int) (σ : np_S) : Option np_O := some (np_andi (np_ushrl x0 (8 * x2)) 255, σ)
def f_Text_append_5_b  (k5 : (Int → Int → np_S → Option np_O)) (x1 x4 : Int) (σ : np_S) : Option np_O := np_ck (np_R x4) (if x4 < 0 then (some (0, σ)) else ((f_Spelling_byteOf x1 x4 σ).bind (fun o1 => np_ck ((0 : Int) ≤ σ 6 1 ∧ σ 6 1 < 200) (k5 x1 (x4 + (-1)) (np_st (np_st o1.2 7 (σ 6 1) (Int.bmod (Int.bmod o1.1 256) 256)) 6 1 (((np_st o1.2 7 (σ 6 1) (Int.bmod (Int.bmod o1.1 256) 256)) 6 1) + 1))))))
def f_Text_append_5  : Nat → Int → Int → np_S → Option np_O
  | 0, _, _, _ => none
  | n + 1, x1, x4, σ => f_Text_append_5_b  (fun x1 x4 σ => f_Text_append_5  n x1 x4 σ) x1 x4 σ
def f_Text_append  (x1 x3 : Int) (σ : np_S) : Option np_O := f_Text_append_5 6000 x1 (x3 - 1) σ
def f_N_put_26  (σ : np_S) : Option np_O := np_ck ((0 : Int) = 0 ∨ (0 : Int) = 1) (some (0, σ))
def f_N_put  (x1 x3 : Int) (σ : np_S) : Option np_O := np_ck (np_R x3 ∧ np_R 1) (if x3 < 1 then (f_N_put_26 σ) else (np_ck (np_R x3 ∧ np_R 8) (if (8 : Int) < x3 then (f_N_put_26 σ) else (np_ck (np_R x3 ∧ np_R (200 - (σ 6 1))) (if x3 ≤ 200 - (σ 6 1) then ((f_Text_append x1 x3 σ).bind (fun o1 => np_ck ((1 : Int) = 0 ∨ (1 : Int) = 1) (some (1, o1.2)))) else (f_N_put_26 σ))))))
def f_N_clear  (σ : np_S) : Option np_O := some (0, (np_st σ 6 1 0))
def f_Tree_fell  (σ : np_S) : Option np_O := some (0, (np_st σ 15 2 0))
def f_Arrays_fill_12_10_b  (k10 : (Int → Int → Int → np_S → Option np_O)) (x2 x3 x4 : Int) (σ : np_S) : Option np_O := np_ck (np_R x4 ∧ np_R x2) (if x2 ≤ x4 then (some (0, σ)) else (np_ck ((0 : Int) ≤ x4 ∧ x4 < 3038) (k10 x2 x3 (x4 + 1) (np_st σ 12 x4 x3))))
def f_Arrays_fill_12_10  : Nat → Int → Int → Int → np_S → Option np_O
  | 0, _, _, _, _ => none
  | n + 1, x2, x3, x4, σ => f_Arrays_fill_12_10_b  (fun x2 x3 x4 σ => f_Arrays_fill_12_10  n x2 x3 x4 σ) x2 x3 x4 σ
def f_Arrays_fill_12  (x1 x2 x3 : Int) (σ : np_S) : Option np_O := (f_Arrays_rangeCheck 3038 x1 x2 σ).bind (fun o1 => f_Arrays_fill_12_10 6000 x2 x3 x1 o1.2)
def f_Chart_emptyRow  (x1 : Int) (σ : np_S) : Option np_O := (f_Arrays_fill_12 (x1 * 98) ((x1 + 1) * 98) 0 σ).bind (fun o1 => some (0, o1.2))
def f_Chart_scan_84 (k19 : (Int → Int → Int → Int → Int → np_S → Option np_O)) (x2 x4 x5 x6 x7 : Int) (σ : np_S) : Option np_O := k19 x2 x4 x5 x6 (x7 + 1) σ
def f_Chart_scan_19_b  (k19 : (Int → Int → Int → Int → Int → np_S → Option np_O)) (x2 x4 x5 x6 x7 : Int) (σ : np_S) : Option np_O := (f_Grammar_usedDots σ).bind (fun o1 => np_ck (np_R x7 ∧ np_R o1.1) (if o1.1 ≤ x7 then (np_ck (x6 = 0 ∨ x6 = 1) (some (x6, o1.2))) else (np_ck ((0 : Int) ≤ x4 + x7 ∧ x4 + x7 < 3038) (np_ck (np_R (o1.2 12 (x4 + x7))) (if o1.2 12 (x4 + x7) = 0 then (f_Chart_scan_84 k19 x2 x4 x5 x6 x7 o1.2) else (np_ck ((0 : Int) ≤ x7 ∧ x7 < 105) (np_ck (np_R6 (o1.2 3 x7) ∧ np_R6 x2) (np_ck (np_R (np_cmp (o1.2 3 x7) x2)) (if np_cmp (o1.2 3 x7) x2 ≠ 0 then (f_Chart_scan_84 k19 x2 x4 x5 x6 x7 o1.2) else (np_ck ((0 : Int) ≤ x4 + x7 ∧ x4 + x7 < 3038) (np_ck ((0 : Int) ≤ (x5 + x7) + 1 ∧ (x5 + x7) + 1 < 3038) (f_Chart_scan_84 k19 x2 x4 x5 1 x7 (np_st o1.2 12 ((x5 + x7) + 1) (o1.2 12 (x4 + x7)))))))))))))))
def f_Chart_scan_19  : Nat → Int → Int → Int → Int → Int → np_S → Option np_O
  | 0, _, _, _, _, _, _ => none
  | n + 1, x2, x4, x5, x6, x7, σ => f_Chart_scan_19_b  (fun x2 x4 x5 x6 x7 σ => f_Chart_scan_19  n x2 x4 x5 x6 x7 σ) x2 x4 x5 x6 x7 σ
def f_Chart_scan  (x1 x2 : Int) (σ : np_S) : Option np_O := f_Chart_scan_19 6000 x2 (x1 * 98) ((x1 * 98) + 98) 0 0 σ
def f_Grammar_lastDot  (x1 : Int) (σ : np_S) : Option np_O := np_ck ((0 : Int) ≤ x1 ∧ x1 < 14) (some ((x1 * 7) + (σ 5 x1), σ))
def f_Chart_isReached_23  (t0 : Int) (σ : np_S) : Option np_O := np_ck (t0 = 0 ∨ t0 = 1) (some (t0, σ))
def f_Chart_isReached  (x1 x2 x3 : Int) (σ : np_S) : Option np_O := np_ck ((0 : Int) ≤ (x2 * 98) + x3 ∧ (x2 * 98) + x3 < 3038) (np_ck (np_R (np_andi (np_ushri (σ 12 ((x2 * 98) + x3)) x1) 1)) (if np_andi (np_ushri (σ 12 ((x2 * 98) + x3)) x1) 1 = 0 then (f_Chart_isReached_23 0 σ) else (f_Chart_isReached_23 1 σ)))
def f_Chart_highestTerm_60 (k5 : (Int → Int → Int → Int → np_S → Option np_O)) (x1 x2 x3 x4 : Int) (σ : np_S) : Option np_O := k5 x1 x2 x3 (x4 + 1) σ
def f_Chart_highestTerm_5_b  (k5 : (Int → Int → Int → Int → np_S → Option np_O)) (x1 x2 x3 x4 : Int) (σ : np_S) : Option np_O := np_ck (np_R x4 ∧ np_R (σ 1 4)) (if σ 1 4 ≤ x4 then (some (x3, σ)) else (np_ck ((0 : Int) ≤ x4 ∧ x4 < 14) (np_ck (np_R (σ 4 x4) ∧ np_R x3) (if σ 4 x4 ≤ x3 then (f_Chart_highestTerm_60 k5 x1 x2 x3 x4 σ) else ((f_Grammar_lastDot x4 σ).bind (fun o1 => (f_Chart_isReached x1 x2 o1.1 o1.2).bind (fun o2 => np_ck (np_R o2.1) (if o2.1 = 0 then (f_Chart_highestTerm_60 k5 x1 x2 x3 x4 o2.2) else (np_ck ((0 : Int) ≤ x4 ∧ x4 < 14) (f_Chart_highestTerm_60 k5 x1 x2 (o2.2 4 x4) x4 o2.2))))))))))
def f_Chart_highestTerm_5  : Nat → Int → Int → Int → Int → np_S → Option np_O
  | 0, _, _, _, _, _ => none
  | n + 1, x1, x2, x3, x4, σ => f_Chart_highestTerm_5_b  (fun x1 x2 x3 x4 σ => f_Chart_highestTerm_5  n x1 x2 x3 x4 σ) x1 x2 x3 x4 σ
def f_Chart_highestTerm  (x1 x2 : Int) (σ : np_S) : Option np_O := f_Chart_highestTerm_5 6000 x1 x2 ((-1)) 0 σ
def f_Chart_fillHoles_76 (k15 : (Int → Int → Int → Int → np_S → Option np_O)) (x3 x4 x5 x6 : Int) (σ : np_S) : Option np_O := k15 x3 x4 x5 (x6 + 1) σ
def f_Chart_fillHoles_15_b  (k15 : (Int → Int → Int → Int → np_S → Option np_O)) (x3 x4 x5 x6 : Int) (σ : np_S) : Option np_O := (f_Grammar_usedDots σ).bind (fun o1 => np_ck (np_R x6 ∧ np_R o1.1) (if o1.1 ≤ x6 then (some (0, o1.2)) else (np_ck ((0 : Int) ≤ x6 ∧ x6 < 105) (np_ck (np_R (o1.2 2 x6) ∧ np_R ((-1))) (if o1.2 2 x6 = (-1) then (f_Chart_fillHoles_76 k15 x3 x4 x5 x6 o1.2) else (np_ck (np_R (o1.2 2 x6) ∧ np_R x3) (if x3 < o1.2 2 x6 then (f_Chart_fillHoles_76 k15 x3 x4 x5 x6 o1.2) else (np_ck ((0 : Int) ≤ (x5 + x6) + 1 ∧ (x5 + x6) + 1 < 3038) (np_ck ((0 : Int) ≤ x4 + x6 ∧ x4 + x6 < 3038) (np_ck ((0 : Int) ≤ (x5 + x6) + 1 ∧ (x5 + x6) + 1 < 3038) (f_Chart_fillHoles_76 k15 x3 x4 x5 x6 (np_st o1.2 12 ((x5 + x6) + 1) (np_ori (o1.2 12 ((x5 + x6) + 1)) (o1.2 12 (x4 + x6)))))))))))))))
def f_Chart_fillHoles_15  : Nat → Int → Int → Int → Int → np_S → Option np_O
  | 0, _, _, _, _, _ => none
  | n + 1, x3, x4, x5, x6, σ => f_Chart_fillHoles_15_b  (fun x3 x4 x5 x6 σ => f_Chart_fillHoles_15  n x3 x4 x5 x6 σ) x3 x4 x5 x6 σ
def f_Chart_fillHoles  (x1 x2 x3 : Int) (σ : np_S) : Option np_O := f_Chart_fillHoles_15 6000 x3 (x1 * 98) (x2 * 98) 0 σ
def f_Chart_complete_27 (k4 : (Int → Int → np_S → Option np_O)) (x1 x2 : Int) (σ : np_S) : Option np_O := k4 x1 (x2 + (-1)) σ
def f_Chart_complete_4_b  (k4 : (Int → Int → np_S → Option np_O)) (x1 x2 : Int) (σ : np_S) : Option np_O := np_ck (np_R x2) (if x2 < 0 then (some (0, σ)) else ((f_Chart_highestTerm x2 x1 σ).bind (fun o1 => np_ck (np_R o1.1 ∧ np_R ((-1))) (if o1.1 = (-1) then (f_Chart_complete_27 k4 x1 x2 o1.2) else ((f_Chart_fillHoles x2 x1 o1.1 o1.2).bind (fun o2 => f_Chart_complete_27 k4 x1 x2 o2.2))))))
def f_Chart_complete_4  : Nat → Int → Int → np_S → Option np_O
  | 0, _, _, _ => none
  | n + 1, x1, x2, σ => f_Chart_complete_4_b  (fun x1 x2 σ => f_Chart_complete_4  n x1 x2 σ) x1 x2 σ
def f_Chart_complete  (x1 : Int) (σ : np_S) : Option np_O := f_Chart_complete_4 6000 x1 (x1 - 1) σ
def f_Chart_leastWanted_56 (k5 : (Int → Int → Int → np_S → Option np_O)) (x1 x2 x3 : Int) (σ : np_S) : Option np_O := k5 x1 x2 (x3 + 1) σ
def f_Chart_leastWanted_5_b  (k5 : (Int → Int → Int → np_S → Option np_O)) (x1 x2 x3 : Int) (σ : np_S) : Option np_O := (f_Grammar_usedDots σ).bind (fun o1 => np_ck (np_R x3 ∧ np_R o1.1) (if o1.1 ≤ x3 then (some (x2, o1.2)) else (np_ck ((0 : Int) ≤ x3 ∧ x3 < 105) (np_ck (np_R (o1.2 2 x3) ∧ np_R ((-1))) (if o1.2 2 x3 = (-1) then (f_Chart_leastWanted_56 k5 x1 x2 x3 o1.2) else (np_ck (np_R (o1.2 2 x3) ∧ np_R x2) (if x2 ≤ o1.2 2 x3 then (f_Chart_leastWanted_56 k5 x1 x2 x3 o1.2) else (np_ck ((0 : Int) ≤ (x1 * 98) + x3 ∧ (x1 * 98) + x3 < 3038) (np_ck (np_R (o1.2 12 ((x1 * 98) + x3))) (if o1.2 12 ((x1 * 98) + x3) = 0 then (f_Chart_leastWanted_56 k5 x1 x2 x3 o1.2) else (f_Chart_leastWanted_56 k5 x1 (o1.2 2 x3) x3 o1.2)))))))))))
def f_Chart_leastWanted_5  : Nat → Int → Int → Int → np_S → Option np_O
  | 0, _, _, _, _ => none
  | n + 1, x1, x2, x3, σ => f_Chart_leastWanted_5_b  (fun x1 x2 x3 σ => f_Chart_leastWanted_5  n x1 x2 x3 σ) x1 x2 x3 σ
def f_Chart_leastWanted  (x1 : Int) (σ : np_S) : Option np_O := f_Chart_leastWanted_5 6000 x1 11 0 σ
def f_Chart_leastFirstHole_57 (k4 : (Int → Int → Int → np_S → Option np_O)) (x1 x2 x3 : Int) (σ : np_S) : Option np_O := k4 x1 x2 (x3 + 1) σ
def f_Chart_leastFirstHole_4_b  (k4 : (Int → Int → Int → np_S → Option np_O)) (x1 x2 x3 : Int) (σ : np_S) : Option np_O := np_ck (np_R x3 ∧ np_R (σ 1 4)) (if σ 1 4 ≤ x3 then (some (x2, σ)) else (np_ck ((0 : Int) ≤ x3 * 7 ∧ x3 * 7 < 105) (np_ck ((0 : Int) ≤ x3 ∧ x3 < 14) (np_ck (np_R (σ 4 x3) ∧ np_R x1) (if σ 4 x3 < x1 then (f_Chart_leastFirstHole_57 k4 x1 x2 x3 σ) else (np_ck (np_R (σ 2 (x3 * 7)) ∧ np_R ((-1))) (if σ 2 (x3 * 7) = (-1) then (f_Chart_leastFirstHole_57 k4 x1 x2 x3 σ) else (np_ck (np_R (σ 2 (x3 * 7)) ∧ np_R x2) (if x2 ≤ σ 2 (x3 * 7) then (f_Chart_leastFirstHole_57 k4 x1 x2 x3 σ) else (f_Chart_leastFirstHole_57 k4 x1 (σ 2 (x3 * 7)) x3 σ))))))))))
def f_Chart_leastFirstHole_4  : Nat → Int → Int → Int → np_S → Option np_O
  | 0, _, _, _, _ => none
  | n + 1, x1, x2, x3, σ => f_Chart_leastFirstHole_4_b  (fun x1 x2 x3 σ => f_Chart_leastFirstHole_4  n x1 x2 x3 σ) x1 x2 x3 σ
def f_Chart_leastFirstHole  (x1 : Int) (σ : np_S) : Option np_O := f_Chart_leastFirstHole_4 6000 x1 x1 2 σ
def f_Chart_predict_96 (k52 : (Int → Int → Int → np_S → Option np_O)) (x1 x3 x5 : Int) (σ : np_S) : Option np_O := k52 x1 x3 (x5 + 1) σ
def f_Chart_predict_52_b  (k52 : (Int → Int → Int → np_S → Option np_O)) (x1 x3 x5 : Int) (σ : np_S) : Option np_O := np_ck (np_R x5 ∧ np_R (σ 1 4)) (if σ 1 4 ≤ x5 then (some (0, σ)) else (np_ck ((0 : Int) ≤ x5 ∧ x5 < 14) (np_ck (np_R (σ 4 x5) ∧ np_R x3) (if σ 4 x5 < x3 then (f_Chart_predict_96 k52 x1 x3 x5 σ) else (np_ck ((0 : Int) ≤ (x1 * 98) + (x5 * 7) ∧ (x1 * 98) + (x5 * 7) < 3038) (f_Chart_predict_96 k52 x1 x3 x5 (np_st σ 12 ((x1 * 98) + (x5 * 7)) (np_shli 1 x1))))))))
def f_Chart_predict_52  : Nat → Int → Int → Int → np_S → Option np_O
  | 0, _, _, _, _ => none
  | n + 1, x1, x3, x5, σ => f_Chart_predict_52_b  (fun x1 x3 x5 σ => f_Chart_predict_52  n x1 x3 x5 σ) x1 x3 x5 σ
def f_Chart_predict_49  (x1 x3 : Int) (σ : np_S) : Option np_O := f_Chart_predict_52 6000 x1 x3 0 σ
def f_Chart_predict_41 (k8 : (Int → Int → Int → Int → np_S → Option np_O)) (x1 x3 x5 t0 : Int) (σ : np_S) : Option np_O := k8 x1 x3 t0 (x5 + 1) σ
def f_Chart_predict_8_b  (k8 : (Int → Int → Int → Int → np_S → Option np_O)) (x1 x3 x4 x5 : Int) (σ : np_S) : Option np_O := np_ck (np_R x5 ∧ np_R 10) (if (10 : Int) < x5 then (f_Chart_predict_49 x1 x3 σ) else (np_ck (np_R x4) (if x4 = 0 then (f_Chart_predict_49 x1 x3 σ) else ((f_Chart_leastFirstHole x3 σ).bind (fun o1 => np_ck (np_R o1.1 ∧ np_R x3) (if x3 ≤ o1.1 then (f_Chart_predict_41 k8 x1 o1.1 x5 0 o1.2) else (f_Chart_predict_41 k8 x1 o1.1 x5 1 o1.2)))))))
def f_Chart_predict_8  : Nat → Int → Int → Int → Int → np_S → Option np_O
  | 0, _, _, _, _, _ => none
  | n + 1, x1, x3, x4, x5, σ => f_Chart_predict_8_b  (fun x1 x3 x4 x5 σ => f_Chart_predict_8  n x1 x3 x4 x5 σ) x1 x3 x4 x5 σ
def f_Chart_predict  (x1 x2 : Int) (σ : np_S) : Option np_O := f_Chart_predict_8 6000 x1 x2 1 0 σ
def f_Chart_follow_13_b  (k13 : (Int → Int → np_S → Option np_O)) (x2 x3 : Int) (σ : np_S) : Option np_O := np_ck (np_R x3 ∧ np_R x2) (if x2 ≤ x3 then (some (x2, σ)) else ((f_Chart_emptyRow (x3 + 1) σ).bind (fun o1 => np_ck ((0 : Int) ≤ x3 ∧ x3 < 30) ((f_Chart_scan x3 (o1.2 9 x3) o1.2).bind (fun o2 => np_ck (np_R o2.1) (if o2.1 ≠ 0 then ((f_Chart_complete (x3 + 1) o2.2).bind (fun o3 => (f_Chart_leastWanted (x3 + 1) o3.2).bind (fun o4 => (f_Chart_predict (x3 + 1) o4.1 o4.2).bind (fun o5 => k13 x2 (x3 + 1) o5.2)))) else (some (x3, o2.2))))))))
def f_Chart_follow_13  : Nat → Int → Int → np_S → Option np_O
  | 0, _, _, _ => none
  | n + 1, x2, x3, σ => f_Chart_follow_13_b  (fun x2 x3 σ => f_Chart_follow_13  n x2 x3 σ) x2 x3 σ
def f_Chart_follow  (x2 : Int) (σ : np_S) : Option np_O := (f_Chart_emptyRow 0 σ).bind (fun o6 => (f_Chart_predict 0 0 o6.2).bind (fun o7 => f_Chart_follow_13 6000 x2 0 o7.2))
def f_Chart_isWhole_15  (t0 : Int) (σ : np_S) : Option np_O := np_ck (t0 = 0 ∨ t0 = 1) (some (t0, σ))
def f_Chart_isWhole  (x1 : Int) (σ : np_S) : Option np_O := (f_Chart_highestTerm 0 x1 σ).bind (fun o1 => np_ck (np_R o1.1 ∧ np_R ((-1))) (if o1.1 = (-1) then (f_Chart_isWhole_15 0 o1.2) else (f_Chart_isWhole_15 1 o1.2)))
def f_N_noteFault  (x1 x2 : Int) (σ : np_S) : Option np_O := some (0, (np_st (np_st σ 0 5 x1) 0 6 x2))
def f_N_findFault_114  (σ : np_S) : Option np_O := some (0, σ)
def f_N_findFault  (σ : np_S) : Option np_O := (f_Chart_follow (σ 6 5) σ).bind (fun o1 => np_ck (np_R o1.1 ∧ np_R (o1.2 6 5)) (if o1.2 6 5 ≤ o1.1 then (np_ck (np_R (o1.2 6 6) ∧ np_R ((-1))) (if o1.2 6 6 = (-1) then ((f_Chart_isWhole (o1.2 6 5) o1.2).bind (fun o2 => np_ck (np_R o2.1) (if o2.1 ≠ 0 then ((f_N_noteFault 0 ((-1)) o2.2).bind (fun o3 => f_N_findFault_114 o3.2)) else ((f_N_noteFault 1 (o2.2 6 1) o2.2).bind (fun o4 => f_N_findFault_114 o4.2))))) else ((f_N_noteFault 2 (o1.2 6 6) o1.2).bind (fun o5 => f_N_findFault_114 o5.2)))) else (np_ck ((0 : Int) ≤ o1.1 ∧ o1.1 < 30) ((f_N_noteFault 1 (o1.2 10 o1.1) o1.2).bind (fun o6 => f_N_findFault_114 o6.2)))))
def f_N_fault  (x1 : Int) (σ : np_S) : Option np_O := np_ck (np_R x1) (if x1 = 0 then (some (σ 0 5, σ)) else (if x1 = 1 then (some (σ 0 6, σ)) else (some ((-1), σ))))
def f_Tree_levelWithin_27  (x2 : Int) (σ : np_S) : Option np_O := np_ck ((0 : Int) ≤ x2 ∧ x2 < 30) (np_ck ((0 : Int) ≤ σ 16 x2 ∧ σ 16 x2 < 14) (some (σ 4 (σ 16 x2), σ)))
def f_Tree_levelWithin_2_b  (k2 : (Int → np_S → Option np_O)) (x2 : Int) (σ : np_S) : Option np_O := np_ck (np_R x2 ∧ np_R ((σ 15 2) - 1)) (if (σ 15 2) - 1 ≤ x2 then (f_Tree_levelWithin_27 x2 σ) else (np_ck ((0 : Int) ≤ x2 ∧ x2 < 30) (np_ck (np_R (σ 16 x2)) (if σ 16 x2 ≠ 0 then (f_Tree_levelWithin_27 x2 σ) else (k2 (x2 + 1) σ)))))
def f_Tree_levelWithin_2  : Nat → Int → np_S → Option np_O
  | 0, _, _ => none
  | n + 1, x2, σ => f_Tree_levelWithin_2_b  (fun x2 σ => f_Tree_levelWithin_2  n x2 σ) x2 σ
def f_Tree_levelWithin  (x1 : Int) (σ : np_S) : Option np_O := f_Tree_levelWithin_2 6000 x1 σ
def f_Tree_needlessBrackets_64 (k4 : (Int → Int → np_S → Option np_O)) (x1 x2 : Int) (σ : np_S) : Option np_O := k4 x1 (x2 + 1) σ
def f_Tree_needlessBrackets_4_b  (k4 : (Int → Int → np_S → Option np_O)) (x1 x2 : Int) (σ : np_S) : Option np_O := np_ck (np_R x2 ∧ np_R (σ 15 2)) (if σ 15 2 ≤ x2 then (some (x1, σ)) else (np_ck ((0 : Int) ≤ x2 ∧ x2 < 30) (np_ck (np_R (σ 16 x2)) (if σ 16 x2 ≠ 0 then (f_Tree_needlessBrackets_64 k4 x1 x2 σ) else ((f_Tree_levelWithin x2 σ).bind (fun o1 => np_ck ((0 : Int) ≤ x2 ∧ x2 < 30) (np_ck (np_R o1.1 ∧ np_R (o1.2 21 x2)) (if o1.1 < o1.2 21 x2 then (f_Tree_needlessBrackets_64 k4 x1 x2 o1.2) else (np_ck ((0 : Int) ≤ x2 ∧ x2 < 30) (np_ck ((0 : Int) ≤ x2 ∧ x2 < 30) (np_ck ((0 : Int) ≤ x2 ∧ x2 < 30) (f_Tree_needlessBrackets_64 k4 (np_ori x1 (np_ori (np_shli 1 (o1.2 18 x2)) (np_shli 1 (((o1.2 18 x2) + (o1.2 19 x2)) - 1)))) x2 o1.2))))))))))))
def f_Tree_needlessBrackets_4  : Nat → Int → Int → np_S → Option np_O
  | 0, _, _, _ => none
  | n + 1, x1, x2, σ => f_Tree_needlessBrackets_4_b  (fun x1 x2 σ => f_Tree_needlessBrackets_4  n x1 x2 σ) x1 x2 σ
def f_Tree_needlessBrackets  (σ : np_S) : Option np_O := f_Tree_needlessBrackets_4 6000 0 0 σ
def f_Output_addByte_33  (σ : np_S) : Option np_O := some (0, σ)
def f_Output_addByte  (x1 : Int) (σ : np_S) : Option np_O := np_ck (np_R (σ 26 1) ∧ np_R 230) (if (230 : Int) ≤ σ 26 1 then (f_Output_addByte_33 σ) else (np_ck ((0 : Int) ≤ σ 26 1 ∧ σ 26 1 < 230) (f_Output_addByte_33 (np_st (np_st σ 27 (σ 26 1) (Int.bmod (Int.bmod x1 256) 256)) 26 1 (((np_st σ 27 (σ 26 1) (Int.bmod (Int.bmod x1 256) 256)) 26 1) + 1)))))
def f_Output_writeWord_25 (k3 : (Int → Int → np_S → Option np_O)) (x1 x3 : Int) (σ : np_S) : Option np_O := k3 x1 (x3 + (-1)) σ
def f_Output_writeWord_3_b  (k3 : (Int → Int → np_S → Option np_O)) (x1 x3 : Int) (σ : np_S) : Option np_O := np_ck (np_R x3) (if x3 < 0 then (some (0, σ)) else ((f_Spelling_byteOf x1 x3 σ).bind (fun o1 => np_ck (np_R o1.1) (if o1.1 = 0 then (f_Output_writeWord_25 k3 x1 x3 o1.2) else ((f_Output_addByte o1.1 o1.2).bind (fun o2 => f_Output_writeWord_25 k3 x1 x3 o2.2))))))
def f_Output_writeWord_3  : Nat → Int → Int → np_S → Option np_O
  | 0, _, _, _ => none
  | n + 1, x1, x3, σ => f_Output_writeWord_3_b  (fun x1 x3 σ => f_Output_writeWord_3  n x1 x3 σ) x1 x3 σ
def f_Output_writeWord  (x1 : Int) (σ : np_S) : Option np_O := f_Output_writeWord_3 6000 x1 7 σ
def f_Output_writeWords_46 (k7 : (Int → Int → np_S → Option np_O)) (x2 x3 : Int) (σ : np_S) : Option np_O := k7 x2 (x3 + 1) σ
def f_Output_writeWords_36 (k7 : (Int → Int → np_S → Option np_O)) (x2 x3 : Int) (σ : np_S) : Option np_O := np_ck ((0 : Int) ≤ x3 ∧ x3 < 30) ((f_Output_writeWord (σ 8 x3) σ).bind (fun o1 => f_Output_writeWords_46 k7 x2 x3 o1.2))
def f_Output_writeWords_7_b  (k7 : (Int → Int → np_S → Option np_O)) (x2 x3 : Int) (σ : np_S) : Option np_O := np_ck (np_R x3 ∧ np_R (σ 6 5)) (if σ 6 5 ≤ x3 then (some (0, σ)) else (np_ck (np_R (np_andi (np_ushri x2 x3) 1)) (if np_andi (np_ushri x2 x3) 1 ≠ 0 then (f_Output_writeWords_46 k7 x2 x3 σ) else (np_ck (np_R (σ 26 1)) (if σ 26 1 ≤ 0 then (f_Output_writeWords_36 k7 x2 x3 σ) else ((f_Output_addByte 32 σ).bind (fun o2 => f_Output_writeWords_36 k7 x2 x3 o2.2)))))))
def f_Output_writeWords_7  : Nat → Int → Int → np_S → Option np_O
  | 0, _, _, _ => none
  | n + 1, x2, x3, σ => f_Output_writeWords_7_b  (fun x2 x3 σ => f_Output_writeWords_7  n x2 x3 σ) x2 x3 σ
def f_Output_writeWords  (x2 : Int) (σ : np_S) : Option np_O := f_Output_writeWords_7 6000 x2 0 (np_st σ 26 1 0)
def f_N_at_28  (t0 : Int) (σ : np_S) : Option np_O := some (t0, σ)
def f_N_at_15  (σ : np_S) : Option np_O := f_N_at_28 ((-1)) σ
def f_N_at  (x1 : Int) (σ : np_S) : Option np_O := np_ck (np_R x1) (if x1 < 0 then (f_N_at_15 σ) else (np_ck (np_R x1 ∧ np_R (σ 26 1)) (if x1 < σ 26 1 then (np_ck ((0 : Int) ≤ x1 ∧ x1 < 230) (f_N_at_28 (σ 27 x1) σ)) else (f_N_at_15 σ))))
def f_N_about  (x1 : Int) (σ : np_S) : Option np_O := np_ck (np_R x1) (if x1 = 0 then (some ((σ 1 4) - 2, σ)) else (if x1 = 1 then (some (σ 1 5, σ)) else (if x1 = 2 then (some (σ 6 1, σ)) else (if x1 = 3 then (some (σ 15 2, σ)) else (if x1 = 4 then (some (σ 26 1, σ)) else (some ((-1), σ)))))))
def f_Grammar_handEndsInHole_32  (t0 : Int) (σ : np_S) : Option np_O := np_ck (t0 = 0 ∨ t0 = 1) (some (t0, σ))
def f_Grammar_handEndsInHole_31  (σ : np_S) : Option np_O := f_Grammar_handEndsInHole_32 0 σ
def f_Grammar_handEndsInHole  (σ : np_S) : Option np_O := np_ck (np_R (σ 1 5)) (if σ 1 5 ≤ 0 then (f_Grammar_handEndsInHole_31 σ) else ((f_Grammar_usedDots σ).bind (fun o1 => np_ck ((0 : Int) ≤ (o1.1 + (o1.2 1 5)) - 1 ∧ (o1.1 + (o1.2 1 5)) - 1 < 105) (np_ck (np_R (o1.2 2 ((o1.1 + (o1.2 1 5)) - 1)) ∧ np_R ((-1))) (if o1.2 2 ((o1.1 + (o1.2 1 5)) - 1) = (-1) then (f_Grammar_handEndsInHole_31 o1.2) else (f_Grammar_handEndsInHole_32 1 o1.2))))))
def f_Grammar_handHasWord_2_b  (k2 : (Int → np_S → Option np_O)) (x1 : Int) (σ : np_S) : Option np_O := np_ck (np_R x1 ∧ np_R (σ 1 5)) (if σ 1 5 ≤ x1 then (np_ck ((0 : Int) = 0 ∨ (0 : Int) = 1) (some (0, σ))) else ((f_Grammar_usedDots σ).bind (fun o1 => np_ck ((0 : Int) ≤ o1.1 + x1 ∧ o1.1 + x1 < 105) (np_ck (np_R6 (o1.2 3 (o1.1 + x1)) ∧ np_R6 ((-1))) (np_ck (np_R (np_cmp (o1.2 3 (o1.1 + x1)) ((-1)))) (if np_cmp (o1.2 3 (o1.1 + x1)) ((-1)) = 0 then (k2 (x1 + 1) o1.2) else (np_ck ((1 : Int) = 0 ∨ (1 : Int) = 1) (some (1, o1.2)))))))))
def f_Grammar_handHasWord_2  : Nat → Int → np_S → Option np_O
  | 0, _, _ => none
  | n + 1, x1, σ => f_Grammar_handHasWord_2_b  (fun x1 σ => f_Grammar_handHasWord_2  n x1 σ) x1 σ
def f_Grammar_handHasWord  (σ : np_S) : Option np_O := f_Grammar_handHasWord_2 6000 0 σ
def f_Grammar_takePart  (x1 x2 : Int) (σ : np_S) : Option np_O := (f_Grammar_usedDots σ).bind (fun o1 => np_ck ((0 : Int) ≤ o1.1 + (o1.2 1 5) ∧ o1.1 + (o1.2 1 5) < 105) ((f_Grammar_usedDots (np_st o1.2 2 (o1.1 + (o1.2 1 5)) x1)).bind (fun o2 => np_ck ((0 : Int) ≤ o2.1 + (o2.2 1 5) ∧ o2.1 + (o2.2 1 5) < 105) (some ((np_st (np_st o2.2 3 (o2.1 + (o2.2 1 5)) x2) 1 5 (((np_st o2.2 3 (o2.1 + (o2.2 1 5)) x2) 1 5) + 1)) 1 5, (np_st (np_st o2.2 3 (o2.1 + (o2.2 1 5)) x2) 1 5 (((np_st o2.2 3 (o2.1 + (o2.2 1 5)) x2) 1 5) + 1)))))))
def f_Grammar_makeRule  (x1 : Int) (σ : np_S) : Option np_O := np_ck ((0 : Int) ≤ σ 1 4 ∧ σ 1 4 < 14) (np_ck ((0 : Int) ≤ σ 1 4 ∧ σ 1 4 < 14) (some (σ 1 4, (np_st (np_st (np_st (np_st σ 4 (σ 1 4) x1) 5 (σ 1 4) ((np_st σ 4 (σ 1 4) x1) 1 5)) 1 4 (((np_st (np_st σ 4 (σ 1 4) x1) 5 (σ 1 4) ((np_st σ 4 (σ 1 4) x1) 1 5)) 1 4) + 1)) 1 5 0))))
def f_Grammar_hasKey_3_b  (k3 : (Int → Int → np_S → Option np_O)) (x1 x3 : Int) (σ : np_S) : Option np_O := (f_Grammar_usedDots σ).bind (fun o1 => np_ck (np_R x3 ∧ np_R o1.1) (if o1.1 ≤ x3 then (np_ck ((0 : Int) = 0 ∨ (0 : Int) = 1) (some (0, o1.2))) else (np_ck ((0 : Int) ≤ x3 ∧ x3 < 105) (np_ck (np_R6 (o1.2 3 x3) ∧ np_R6 x1) (np_ck (np_R (np_cmp (o1.2 3 x3) x1)) (if np_cmp (o1.2 3 x3) x1 ≠ 0 then (k3 x1 (x3 + 1) o1.2) else (np_ck ((1 : Int) = 0 ∨ (1 : Int) = 1) (some (1, o1.2)))))))))
def f_Grammar_hasKey_3  : Nat → Int → Int → np_S → Option np_O
  | 0, _, _, _ => none
  | n + 1, x1, x3, σ => f_Grammar_hasKey_3_b  (fun x1 x3 σ => f_Grammar_hasKey_3  n x1 x3 σ) x1 x3 σ
def f_Grammar_hasKey  (x1 : Int) (σ : np_S) : Option np_O := f_Grammar_hasKey_3 6000 x1 14 σ
def f_Text_takeRow_33  (x1 : Int) (σ : np_S) : Option np_O := some (0, (np_st σ 6 6 x1))
def f_Text_takeRow_134  (x1 t1 t2 : Int) (σ : np_S) : Option np_O := np_ck ((0 : Int) ≤ t1 ∧ t1 < 30) (np_ck ((0 : Int) ≤ (np_st σ 9 t1 t2) 6 5 ∧ (np_st σ 9 t1 t2) 6 5 < 30) (some (0, (np_st (np_st (np_st σ 9 t1 t2) 10 ((np_st σ 9 t1 t2) 6 5) x1) 6 5 (((np_st (np_st σ 9 t1 t2) 10 ((np_st σ 9 t1 t2) 6 5) x1) 6 5) + 1)))))
def f_Text_takeRow_132  (x1 x6 t1 : Int) (σ : np_S) : Option np_O := f_Text_takeRow_134 x1 t1 x6 σ
def f_Text_takeRow_92  (x1 x6 t0 : Int) (σ : np_S) : Option np_O := np_ck ((0 : Int) ≤ σ 6 5 ∧ σ 6 5 < 30) (np_ck (np_R t0) (if t0 = 0 then (f_Text_takeRow_132 x1 x6 ((np_st σ 8 (σ 6 5) x6) 6 5) (np_st σ 8 (σ 6 5) x6)) else ((f_Grammar_hasKey x6 (np_st σ 8 (σ 6 5) x6)).bind (fun o1 => np_ck (np_R o1.1) (if o1.1 ≠ 0 then (f_Text_takeRow_132 x1 x6 ((np_st σ 8 (σ 6 5) x6) 6 5) o1.2) else (f_Text_takeRow_134 x1 ((np_st σ 8 (σ 6 5) x6) 6 5) 0 o1.2))))))
def f_Text_takeRow_87  (x1 x6 : Int) (σ : np_S) : Option np_O := f_Text_takeRow_92 x1 x6 1 σ
def f_Text_takeRow_45_b  (k45 : (Int → Int → Int → Int → Int → np_S → Option np_O)) (x1 x2 x3 x6 x8 : Int) (σ : np_S) : Option np_O := np_ck (np_R x8 ∧ np_R x2) (if x2 ≤ x8 then (np_ck (np_R x3 ∧ np_R 2) (if x3 = 2 then (f_Text_takeRow_87 x1 x6 σ) else (np_ck (np_R x3 ∧ np_R 3) (if x3 ≠ 3 then (f_Text_takeRow_92 x1 x6 0 σ) else (f_Text_takeRow_87 x1 x6 σ))))) else (np_ck ((0 : Int) ≤ x8 ∧ x8 < 200) (np_ck (np_R (np_andi (σ 7 x8) 255)) (k45 x1 x2 x3 (np_orl (np_shll x6 8) (np_andi (σ 7 x8) 255)) (x8 + 1) σ))))
def f_Text_takeRow_45  : Nat → Int → Int → Int → Int → Int → np_S → Option np_O
  | 0, _, _, _, _, _, _ => none
  | n + 1, x1, x2, x3, x6, x8, σ => f_Text_takeRow_45_b  (fun x1 x2 x3 x6 x8 σ => f_Text_takeRow_45  n x1 x2 x3 x6 x8 σ) x1 x2 x3 x6 x8 σ
def f_Text_takeRow_13  (x1 x2 x3 t0 : Int) (σ : np_S) : Option np_O := np_ck (np_R x3) (if x3 = 0 then (f_Text_takeRow_33 x1 σ) else (np_ck (np_R t0) (if t0 ≠ 0 then (f_Text_takeRow_33 x1 σ) else (np_ck (np_R (σ 6 5) ∧ np_R 30) (if σ 6 5 < 30 then (f_Text_takeRow_45 6000 x1 x2 x3 0 x1 σ) else (f_Text_takeRow_33 x1 σ))))))
def f_Text_takeRow  (x1 x2 x3 : Int) (σ : np_S) : Option np_O := np_ck (np_R (x2 - x1) ∧ np_R 8) (if x2 - x1 ≤ 8 then (f_Text_takeRow_13 x1 x2 x3 0 σ) else (f_Text_takeRow_13 x1 x2 x3 1 σ))
def f_Chart_cell  (x1 x2 x3 : Int) (σ : np_S) : Option np_O := np_ck ((0 : Int) ≤ x2 * (x2 - 1) ∧ np_R (x2 * (x2 - 1)) ∧ (0 : Int) < 2 ∧ np_R 2) (some (((((x2 * (x2 - 1)) / 2) + x1) * 11) + x3, σ))
def f_Chart_addTrees  (x1 x2 : Int) (σ : np_S) : Option np_O := np_ck ((0 : Int) ≤ x1 ∧ x1 < 5115) (np_ck (np_R ((σ 14 x1) + x2) ∧ np_R 1000000) (np_ck ((0 : Int) ≤ x1 ∧ x1 < 5115) (some (0, (np_st σ 14 x1 (np_min ((σ 14 x1) + x2) 1000000))))))
def f_Chart_sumTerms_109_b  (k109 : (Int → Int → np_S → Option np_O)) (x3 x4 : Int) (σ : np_S) : Option np_O := np_ck (np_R x4) (if x4 < 0 then (some (0, σ)) else (np_ck ((0 : Int) ≤ (x3 + x4) + 1 ∧ (x3 + x4) + 1 < 5115) ((f_Chart_addTrees (x3 + x4) (σ 14 ((x3 + x4) + 1)) σ).bind (fun o1 => k109 x3 (x4 + (-1)) o1.2))))
def f_Chart_sumTerms_109  : Nat → Int → Int → np_S → Option np_O
  | 0, _, _, _ => none
  | n + 1, x3, x4, σ => f_Chart_sumTerms_109_b  (fun x3 x4 σ => f_Chart_sumTerms_109  n x3 x4 σ) x3 x4 σ
def f_Chart_sumTerms_99 (k37 : (Int → Int → Int → Int → np_S → Option np_O)) (x1 x2 x3 x4 : Int) (σ : np_S) : Option np_O := k37 x1 x2 x3 (x4 + 1) σ
def f_Chart_sumTerms_37_b  (k37 : (Int → Int → Int → Int → np_S → Option np_O)) (x1 x2 x3 x4 : Int) (σ : np_S) : Option np_O := np_ck (np_R x4 ∧ np_R (σ 1 4)) (if σ 1 4 ≤ x4 then (f_Chart_sumTerms_109 6000 x3 9 σ) else ((f_Grammar_lastDot x4 σ).bind (fun o2 => (f_Chart_isReached x1 x2 o2.1 o2.2).bind (fun o3 => np_ck (np_R o3.1) (if o3.1 = 0 then (f_Chart_sumTerms_99 k37 x1 x2 x3 x4 o3.2) else (np_ck ((0 : Int) ≤ x4 ∧ x4 < 14) (np_ck ((0 : Int) ≤ (x2 * 98) + o2.1 ∧ (x2 * 98) + o2.1 < 3038) ((f_Chart_addTrees (x3 + (o3.2 4 x4)) (o3.2 13 ((x2 * 98) + o2.1)) o3.2).bind (fun o4 => f_Chart_sumTerms_99 k37 x1 x2 x3 x4 o4.2)))))))))
def f_Chart_sumTerms_37  : Nat → Int → Int → Int → Int → np_S → Option np_O
  | 0, _, _, _, _, _ => none
  | n + 1, x1, x2, x3, x4, σ => f_Chart_sumTerms_37_b  (fun x1 x2 x3 x4 σ => f_Chart_sumTerms_37  n x1 x2 x3 x4 σ) x1 x2 x3 x4 σ
def f_Chart_sumTerms_11_b  (k11 : (Int → Int → Int → Int → np_S → Option np_O)) (x1 x2 x3 x4 : Int) (σ : np_S) : Option np_O := np_ck (np_R x4 ∧ np_R 10) (if (10 : Int) < x4 then (f_Chart_sumTerms_37 6000 x1 x2 x3 0 σ) else (np_ck ((0 : Int) ≤ x3 + x4 ∧ x3 + x4 < 5115) (k11 x1 x2 x3 (x4 + 1) (np_st σ 14 (x3 + x4) 0))))
def f_Chart_sumTerms_11  : Nat → Int → Int → Int → Int → np_S → Option np_O
  | 0, _, _, _, _, _ => none
  | n + 1, x1, x2, x3, x4, σ => f_Chart_sumTerms_11_b  (fun x1 x2 x3 x4 σ => f_Chart_sumTerms_11  n x1 x2 x3 x4 σ) x1 x2 x3 x4 σ
def f_Chart_sumTerms  (x1 x2 : Int) (σ : np_S) : Option np_O := (f_Chart_cell x1 x2 0 σ).bind (fun o5 => f_Chart_sumTerms_11 6000 x1 x2 o5.1 0 o5.2)
def f_Chart_countFirstHoles_64 (k2 : (Int → Int → Int → np_S → Option np_O)) (x1 x2 x3 : Int) (σ : np_S) : Option np_O := k2 x1 x2 (x3 + 1) σ
def f_Chart_countFirstHoles_2_b  (k2 : (Int → Int → Int → np_S → Option np_O)) (x1 x2 x3 : Int) (σ : np_S) : Option np_O := np_ck (np_R x3 ∧ np_R (σ 1 4)) (if σ 1 4 ≤ x3 then (some (0, σ)) else (np_ck ((0 : Int) ≤ x3 * 7 ∧ x3 * 7 < 105) (np_ck (np_R (σ 2 (x3 * 7)) ∧ np_R ((-1))) (if σ 2 (x3 * 7) = (-1) then (f_Chart_countFirstHoles_64 k2 x1 x2 x3 σ) else ((f_Chart_cell x1 x2 (σ 2 (x3 * 7)) σ).bind (fun o1 => np_ck ((0 : Int) ≤ o1.1 ∧ o1.1 < 5115) (np_ck ((0 : Int) ≤ ((x2 * 98) + (x3 * 7)) + 1 ∧ ((x2 * 98) + (x3 * 7)) + 1 < 3038) (f_Chart_countFirstHoles_64 k2 x1 x2 x3 (np_st o1.2 13 (((x2 * 98) + (x3 * 7)) + 1) (o1.2 14 o1.1))))))))))
def f_Chart_countFirstHoles_2  : Nat → Int → Int → Int → np_S → Option np_O
  | 0, _, _, _, _ => none
  | n + 1, x1, x2, x3, σ => f_Chart_countFirstHoles_2_b  (fun x1 x2 x3 σ => f_Chart_countFirstHoles_2  n x1 x2 x3 σ) x1 x2 x3 σ
def f_Chart_countFirstHoles  (x1 x2 : Int) (σ : np_S) : Option np_O := f_Chart_countFirstHoles_2 6000 x1 x2 0 σ
def f_Chart_countSplits_60 (k8 : (Int → Int → Int → Int → Int → Int → np_S → Option np_O)) (x1 x2 x3 x4 x5 x7 : Int) (σ : np_S) : Option np_O := k8 x1 x2 x3 x4 x5 (x7 + 1) σ
def f_Chart_countSplits_8_b  (k8 : (Int → Int → Int → Int → Int → Int → np_S → Option np_O)) (x1 x2 x3 x4 x5 x7 : Int) (σ : np_S) : Option np_O := np_ck (np_R x7 ∧ np_R x4) (if x4 ≤ x7 then (np_ck (np_R6 x5 ∧ np_R6 1000000) (some (np_min x5 1000000, σ))) else ((f_Chart_isReached x3 x7 x1 σ).bind (fun o1 => np_ck (np_R o1.1) (if o1.1 = 0 then (f_Chart_countSplits_60 k8 x1 x2 x3 x4 x5 x7 o1.2) else (np_ck ((0 : Int) ≤ (x7 * 98) + x1 ∧ (x7 * 98) + x1 < 3038) (np_ck (np_R (o1.2 13 ((x7 * 98) + x1))) ((f_Chart_cell x7 x4 x2 o1.2).bind (fun o2 => np_ck ((0 : Int) ≤ o2.1 ∧ o2.1 < 5115) (np_ck (np_R (o2.2 14 o2.1)) (f_Chart_countSplits_60 k8 x1 x2 x3 x4 (x5 + ((o1.2 13 ((x7 * 98) + x1)) * (o2.2 14 o2.1))) x7 o2.2))))))))))
def f_Chart_countSplits_8  : Nat → Int → Int → Int → Int → Int → Int → np_S → Option np_O
  | 0, _, _, _, _, _, _, _ => none
  | n + 1, x1, x2, x3, x4, x5, x7, σ => f_Chart_countSplits_8_b  (fun x1 x2 x3 x4 x5 x7 σ => f_Chart_countSplits_8  n x1 x2 x3 x4 x5 x7 σ) x1 x2 x3 x4 x5 x7 σ
def f_Chart_countSplits  (x1 x2 x3 x4 : Int) (σ : np_S) : Option np_O := f_Chart_countSplits_8 6000 x1 x2 x3 x4 0 (x3 + 1) σ
def f_Chart_countRule_124 (k22 : (Int → Int → Int → Int → Int → np_S → Option np_O)) (x2 x3 x4 x5 x6 : Int) (σ : np_S) : Option np_O := k22 x2 x3 x4 x5 (x6 + 1) σ
def f_Chart_countRule_22_b  (k22 : (Int → Int → Int → Int → Int → np_S → Option np_O)) (x2 x3 x4 x5 x6 : Int) (σ : np_S) : Option np_O := np_ck (np_R x6 ∧ np_R x5) (if x5 < x6 then (some (0, σ)) else ((f_Chart_isReached x2 x3 x6 σ).bind (fun o1 => np_ck (np_R o1.1) (if o1.1 = 0 then (f_Chart_countRule_124 k22 x2 x3 x4 x5 x6 o1.2) else (np_ck ((0 : Int) ≤ x6 - 1 ∧ x6 - 1 < 105) (np_ck (np_R (o1.2 2 (x6 - 1)) ∧ np_R ((-1))) (if o1.2 2 (x6 - 1) ≠ (-1) then (np_ck (np_R x6 ∧ np_R (x4 + 1)) (if x6 ≤ x4 + 1 then (f_Chart_countRule_124 k22 x2 x3 x4 x5 x6 o1.2) else ((f_Chart_countSplits (x6 - 1) (o1.2 2 (x6 - 1)) x2 x3 o1.2).bind (fun o2 => np_ck ((0 : Int) ≤ (x3 * 98) + x6 ∧ (x3 * 98) + x6 < 3038) (f_Chart_countRule_124 k22 x2 x3 x4 x5 x6 (np_st o2.2 13 ((x3 * 98) + x6) o2.1)))))) else (np_ck ((0 : Int) ≤ (((x3 - 1) * 98) + x6) - 1 ∧ (((x3 - 1) * 98) + x6) - 1 < 3038) (np_ck ((0 : Int) ≤ (x3 * 98) + x6 ∧ (x3 * 98) + x6 < 3038) (f_Chart_countRule_124 k22 x2 x3 x4 x5 x6 (np_st o1.2 13 ((x3 * 98) + x6) (o1.2 13 ((((x3 - 1) * 98) + x6) - 1)))))))))))))
def f_Chart_countRule_22  : Nat → Int → Int → Int → Int → Int → np_S → Option np_O
  | 0, _, _, _, _, _, _ => none
  | n + 1, x2, x3, x4, x5, x6, σ => f_Chart_countRule_22_b  (fun x2 x3 x4 x5 x6 σ => f_Chart_countRule_22  n x2 x3 x4 x5 x6 σ) x2 x3 x4 x5 x6 σ
def f_Chart_countRule  (x1 x2 x3 : Int) (σ : np_S) : Option np_O := (f_Grammar_lastDot x1 σ).bind (fun o3 => f_Chart_countRule_22 6000 x2 x3 (x1 * 7) o3.1 ((x1 * 7) + 1) o3.2)
def f_Chart_countFrom_46_b (k38 : (Int → Int → Int → np_S → Option np_O)) (k46 : (Int → Int → Int → Int → np_S → Option np_O)) (x1 x2 x3 x4 : Int) (σ : np_S) : Option np_O := np_ck (np_R x4 ∧ np_R (σ 1 4)) (if σ 1 4 ≤ x4 then ((f_Chart_sumTerms x1 x3 σ).bind (fun o1 => (f_Chart_countFirstHoles x1 x3 o1.2).bind (fun o2 => k38 x1 x2 (x3 + 1) o2.2))) else ((f_Chart_countRule x4 x1 x3 σ).bind (fun o3 => k46 x1 x2 x3 (x4 + 1) o3.2)))
def f_Chart_countFrom_46 (k38 : (Int → Int → Int → np_S → Option np_O)) : Nat → Int → Int → Int → Int → np_S → Option np_O
  | 0, _, _, _, _, _ => none
  | n + 1, x1, x2, x3, x4, σ => f_Chart_countFrom_46_b k38 (fun x1 x2 x3 x4 σ => f_Chart_countFrom_46 k38 n x1 x2 x3 x4 σ) x1 x2 x3 x4 σ
def f_Chart_countFrom_38_b  (k38 : (Int → Int → Int → np_S → Option np_O)) (x1 x2 x3 : Int) (σ : np_S) : Option np_O := np_ck (np_R x3 ∧ np_R x2) (if x2 < x3 then (some (0, σ)) else (f_Chart_countFrom_46 k38 6000 x1 x2 x3 0 σ))
def f_Chart_countFrom_38  : Nat → Int → Int → Int → np_S → Option np_O
  | 0, _, _, _, _ => none
  | n + 1, x1, x2, x3, σ => f_Chart_countFrom_38_b  (fun x1 x2 x3 σ => f_Chart_countFrom_38  n x1 x2 x3 σ) x1 x2 x3 σ
def f_Chart_countFrom_2_b  (k2 : (Int → Int → Int → np_S → Option np_O)) (x1 x2 x3 : Int) (σ : np_S) : Option np_O := np_ck (np_R x3 ∧ np_R (σ 1 4)) (if σ 1 4 ≤ x3 then (f_Chart_countFrom_38 6000 x1 x2 (x1 + 1) σ) else (np_ck ((0 : Int) ≤ (x1 * 98) + (x3 * 7) ∧ (x1 * 98) + (x3 * 7) < 3038) (k2 x1 x2 (x3 + 1) (np_st σ 13 ((x1 * 98) + (x3 * 7)) 1))))
def f_Chart_countFrom_2  : Nat → Int → Int → Int → np_S → Option np_O
  | 0, _, _, _, _ => none
  | n + 1, x1, x2, x3, σ => f_Chart_countFrom_2_b  (fun x1 x2 x3 σ => f_Chart_countFrom_2  n x1 x2 x3 σ) x1 x2 x3 σ
def f_Chart_countFrom  (x1 x2 : Int) (σ : np_S) : Option np_O := f_Chart_countFrom_2 6000 x1 x2 0 σ
def f_Chart_countTrees_52  (t0 : Int) (σ : np_S) : Option np_O := some (t0, σ)
def f_Chart_countTrees_25 (k4 : (Int → Int → np_S → Option np_O)) (x1 x2 : Int) (σ : np_S) : Option np_O := k4 x1 (x2 + (-1)) σ
def f_Chart_countTrees_4_b  (k4 : (Int → Int → np_S → Option np_O)) (x1 x2 : Int) (σ : np_S) : Option np_O := np_ck (np_R x2) (if x2 < 0 then (np_ck (np_R x1 ∧ np_R 1) (if (1 : Int) ≤ x1 then ((f_Chart_cell 0 x1 0 σ).bind (fun o1 => np_ck ((0 : Int) ≤ o1.1 ∧ o1.1 < 5115) (f_Chart_countTrees_52 (o1.2 14 o1.1) o1.2))) else (f_Chart_countTrees_52 0 σ))) else ((f_Chart_isReached x2 x2 7 σ).bind (fun o2 => np_ck (np_R o2.1) (if o2.1 = 0 then (f_Chart_countTrees_25 k4 x1 x2 o2.2) else ((f_Chart_countFrom x2 x1 o2.2).bind (fun o3 => f_Chart_countTrees_25 k4 x1 x2 o3.2))))))
def f_Chart_countTrees_4  : Nat → Int → Int → np_S → Option np_O
  | 0, _, _, _ => none
  | n + 1, x1, x2, σ => f_Chart_countTrees_4_b  (fun x1 x2 σ => f_Chart_countTrees_4  n x1 x2 σ) x1 x2 σ
def f_Chart_countTrees  (x1 : Int) (σ : np_S) : Option np_O := f_Chart_countTrees_4 6000 x1 (x1 - 1) σ
def f_Chart_onlyRule_51 (k11 : (Int → Int → Int → Int → np_S → Option np_O)) (x1 x2 x3 x4 : Int) (σ : np_S) : Option np_O := k11 x1 x2 x3 (x4 + (-1)) σ
def f_Chart_onlyRule_11_b  (k11 : (Int → Int → Int → Int → np_S → Option np_O)) (x1 x2 x3 x4 : Int) (σ : np_S) : Option np_O := np_ck (np_R x4) (if x4 ≤ 0 then (some (0, σ)) else (np_ck ((0 : Int) ≤ x4 ∧ x4 < 14) (np_ck (np_R (σ 4 x4) ∧ np_R x3) (if σ 4 x4 < x3 then (f_Chart_onlyRule_51 k11 x1 x2 x3 x4 σ) else ((f_Grammar_lastDot x4 σ).bind (fun o1 => (f_Chart_isReached x1 x2 o1.1 o1.2).bind (fun o2 => np_ck (np_R o2.1) (if o2.1 = 0 then (f_Chart_onlyRule_51 k11 x1 x2 x3 x4 o2.2) else (some (x4, o2.2))))))))))
def f_Chart_onlyRule_11  : Nat → Int → Int → Int → Int → np_S → Option np_O
  | 0, _, _, _, _, _ => none
  | n + 1, x1, x2, x3, x4, σ => f_Chart_onlyRule_11_b  (fun x1 x2 x3 x4 σ => f_Chart_onlyRule_11  n x1 x2 x3 x4 σ) x1 x2 x3 x4 σ
def f_Chart_onlyRule  (x1 x2 x3 : Int) (σ : np_S) : Option np_O := f_Chart_onlyRule_11 6000 x1 x2 x3 ((σ 1 4) - 1) σ
def f_Chart_onlySplit_53 (k16 : (Int → Int → Int → Int → Int → np_S → Option np_O)) (x1 x2 x3 x4 x5 : Int) (σ : np_S) : Option np_O := k16 x1 x2 x3 x4 (x5 + (-1)) σ
def f_Chart_onlySplit_16_b  (k16 : (Int → Int → Int → Int → Int → np_S → Option np_O)) (x1 x2 x3 x4 x5 : Int) (σ : np_S) : Option np_O := np_ck (np_R x5 ∧ np_R x2) (if x5 ≤ x2 then (some (x2, σ)) else ((f_Chart_isReached x2 x5 x1 σ).bind (fun o1 => np_ck (np_R o1.1) (if o1.1 = 0 then (f_Chart_onlySplit_53 k16 x1 x2 x3 x4 x5 o1.2) else ((f_Chart_cell x5 x3 x4 o1.2).bind (fun o2 => np_ck ((0 : Int) ≤ o2.1 ∧ o2.1 < 5115) (np_ck (np_R (o2.2 14 o2.1)) (if o2.2 14 o2.1 ≤ 0 then (f_Chart_onlySplit_53 k16 x1 x2 x3 x4 x5 o2.2) else (some (x5, o2.2))))))))))
def f_Chart_onlySplit_16  : Nat → Int → Int → Int → Int → Int → np_S → Option np_O
  | 0, _, _, _, _, _, _ => none
  | n + 1, x1, x2, x3, x4, x5, σ => f_Chart_onlySplit_16_b  (fun x1 x2 x3 x4 x5 σ => f_Chart_onlySplit_16  n x1 x2 x3 x4 x5 σ) x1 x2 x3 x4 x5 σ
def f_Chart_onlySplit  (x1 x2 x3 : Int) (σ : np_S) : Option np_O := np_ck ((0 : Int) ≤ x1 ∧ x1 < 105) (f_Chart_onlySplit_16 6000 x1 x2 x3 (σ 2 x1) (x3 - 1) σ)
def f_Tree_await_60  (σ : np_S) : Option np_O := some (0, σ)
def f_Tree_await  (x1 x2 x3 x4 : Int) (σ : np_S) : Option np_O := np_ck (np_R (σ 15 9) ∧ np_R 30) (if (30 : Int) ≤ σ 15 9 then (f_Tree_await_60 σ) else (np_ck ((0 : Int) ≤ σ 15 9 ∧ σ 15 9 < 30) (np_ck ((0 : Int) ≤ (np_st σ 22 (σ 15 9) x1) 15 9 ∧ (np_st σ 22 (σ 15 9) x1) 15 9 < 30) (np_ck ((0 : Int) ≤ (np_st (np_st σ 22 (σ 15 9) x1) 23 ((np_st σ 22 (σ 15 9) x1) 15 9) x2) 15 9 ∧ (np_st (np_st σ 22 (σ 15 9) x1) 23 ((np_st σ 22 (σ 15 9) x1) 15 9) x2) 15 9 < 30) (np_ck ((0 : Int) ≤ (np_st (np_st (np_st σ 22 (σ 15 9) x1) 23 ((np_st σ 22 (σ 15 9) x1) 15 9) x2) 24 ((np_st (np_st σ 22 (σ 15 9) x1) 23 ((np_st σ 22 (σ 15 9) x1) 15 9) x2) 15 9) x3) 15 9 ∧ (np_st (np_st (np_st σ 22 (σ 15 9) x1) 23 ((np_st σ 22 (σ 15 9) x1) 15 9) x2) 24 ((np_st (np_st σ 22 (σ 15 9) x1) 23 ((np_st σ 22 (σ 15 9) x1) 15 9) x2) 15 9) x3) 15 9 < 30) (f_Tree_await_60 (np_st (np_st (np_st (np_st (np_st σ 22 (σ 15 9) x1) 23 ((np_st σ 22 (σ 15 9) x1) 15 9) x2) 24 ((np_st (np_st σ 22 (σ 15 9) x1) 23 ((np_st σ 22 (σ 15 9) x1) 15 9) x2) 15 9) x3) 25 ((np_st (np_st (np_st σ 22 (σ 15 9) x1) 23 ((np_st σ 22 (σ 15 9) x1) 15 9) x2) 24 ((np_st (np_st σ 22 (σ 15 9) x1) 23 ((np_st σ 22 (σ 15 9) x1) 15 9) x2) 15 9) x3) 15 9) x4) 15 9 (((np_st (np_st (np_st (np_st σ 22 (σ 15 9) x1) 23 ((np_st σ 22 (σ 15 9) x1) 15 9) x2) 24 ((np_st (np_st σ 22 (σ 15 9) x1) 23 ((np_st σ 22 (σ 15 9) x1) 15 9) x2) 15 9) x3) 25 ((np_st (np_st (np_st σ 22 (σ 15 9) x1) 23 ((np_st σ 22 (σ 15 9) x1) 15 9) x2) 24 ((np_st (np_st σ 22 (σ 15 9) x1) 23 ((np_st σ 22 (σ 15 9) x1) 15 9) x2) 15 9) x3) 15 9) x4) 15 9) + 1))))))))
def f_Tree_awaitHoles_100 (k34 : (Int → Int → Int → Int → Int → Int → np_S → Option np_O)) (x1 x2 x4 x5 x7 x9 : Int) (σ : np_S) : Option np_O := k34 x1 x2 x4 x5 x9 (x7 + (-1)) σ
def f_Tree_awaitHoles_78 (k34 : (Int → Int → Int → Int → Int → Int → np_S → Option np_O)) (x1 x2 x4 x5 x6 x7 x8 t0 : Int) (σ : np_S) : Option np_O := np_ck (np_R x8 ∧ np_R ((-1))) (if x8 = (-1) then (f_Tree_awaitHoles_100 k34 x1 x2 x4 x5 x7 t0 σ) else ((f_Tree_await t0 x6 x8 x1 σ).bind (fun o1 => f_Tree_awaitHoles_100 k34 x1 x2 x4 (x5 + 1) x7 t0 o1.2)))
def f_Tree_awaitHoles_34_b  (k34 : (Int → Int → Int → Int → Int → Int → np_S → Option np_O)) (x1 x2 x4 x5 x6 x7 : Int) (σ : np_S) : Option np_O := np_ck (np_R x7 ∧ np_R x4) (if x7 < x4 then (some (x5, σ)) else (np_ck ((0 : Int) ≤ x7 ∧ x7 < 105) (np_ck (np_R (σ 2 x7) ∧ np_R ((-1))) (if σ 2 x7 ≠ (-1) then ((f_Chart_onlySplit x7 x2 x6 σ).bind (fun o2 => f_Tree_awaitHoles_78 k34 x1 x2 x4 x5 x6 x7 (σ 2 x7) o2.1 o2.2)) else (f_Tree_awaitHoles_78 k34 x1 x2 x4 x5 x6 x7 (σ 2 x7) (x6 - 1) σ)))))
def f_Tree_awaitHoles_34  : Nat → Int → Int → Int → Int → Int → Int → np_S → Option np_O
  | 0, _, _, _, _, _, _, _ => none
  | n + 1, x1, x2, x4, x5, x6, x7, σ => f_Tree_awaitHoles_34_b  (fun x1 x2 x4 x5 x6 x7 σ => f_Tree_awaitHoles_34  n x1 x2 x4 x5 x6 x7 σ) x1 x2 x4 x5 x6 x7 σ
def f_Tree_awaitHoles  (x1 x2 x3 : Int) (σ : np_S) : Option np_O := np_ck ((0 : Int) ≤ x1 ∧ x1 < 30) (np_ck ((0 : Int) ≤ x1 ∧ x1 < 30) ((f_Grammar_lastDot (σ 16 x1) σ).bind (fun o3 => f_Tree_awaitHoles_34 6000 x1 x2 ((σ 16 x1) * 7) 0 x3 (o3.1 - 1) o3.2)))
def f_Tree_growNode  (x1 x2 x3 : Int) (σ : np_S) : Option np_O := np_ck ((0 : Int) ≤ σ 15 9 ∧ σ 15 9 < 30) ((f_Chart_onlyRule x2 x3 (σ 24 (σ 15 9)) σ).bind (fun o1 => np_ck ((0 : Int) ≤ x1 ∧ x1 < 30) (np_ck ((0 : Int) ≤ x1 ∧ x1 < 30) (np_ck ((0 : Int) ≤ x1 ∧ x1 < 30) (np_ck ((0 : Int) ≤ (np_st (np_st (np_st o1.2 16 x1 o1.1) 18 x1 x2) 19 x1 (x3 - x2)) 15 9 ∧ (np_st (np_st (np_st o1.2 16 x1 o1.1) 18 x1 x2) 19 x1 (x3 - x2)) 15 9 < 30) (np_ck ((0 : Int) ≤ x1 ∧ x1 < 30) (np_ck ((0 : Int) ≤ (np_st (np_st (np_st (np_st o1.2 16 x1 o1.1) 18 x1 x2) 19 x1 (x3 - x2)) 20 x1 ((np_st (np_st (np_st o1.2 16 x1 o1.1) 18 x1 x2) 19 x1 (x3 - x2)) 25 ((np_st (np_st (np_st o1.2 16 x1 o1.1) 18 x1 x2) 19 x1 (x3 - x2)) 15 9))) 15 9 ∧ (np_st (np_st (np_st (np_st o1.2 16 x1 o1.1) 18 x1 x2) 19 x1 (x3 - x2)) 20 x1 ((np_st (np_st (np_st o1.2 16 x1 o1.1) 18 x1 x2) 19 x1 (x3 - x2)) 25 ((np_st (np_st (np_st o1.2 16 x1 o1.1) 18 x1 x2) 19 x1 (x3 - x2)) 15 9))) 15 9 < 30) (np_ck ((0 : Int) ≤ x1 ∧ x1 < 30) ((f_Tree_awaitHoles x1 x2 x3 (np_st (np_st (np_st (np_st (np_st o1.2 16 x1 o1.1) 18 x1 x2) 19 x1 (x3 - x2)) 20 x1 ((np_st (np_st (np_st o1.2 16 x1 o1.1) 18 x1 x2) 19 x1 (x3 - x2)) 25 ((np_st (np_st (np_st o1.2 16 x1 o1.1) 18 x1 x2) 19 x1 (x3 - x2)) 15 9))) 21 x1 ((np_st (np_st (np_st (np_st o1.2 16 x1 o1.1) 18 x1 x2) 19 x1 (x3 - x2)) 20 x1 ((np_st (np_st (np_st o1.2 16 x1 o1.1) 18 x1 x2) 19 x1 (x3 - x2)) 25 ((np_st (np_st (np_st o1.2 16 x1 o1.1) 18 x1 x2) 19 x1 (x3 - x2)) 15 9))) 24 ((np_st (np_st (np_st (np_st o1.2 16 x1 o1.1) 18 x1 x2) 19 x1 (x3 - x2)) 20 x1 ((np_st (np_st (np_st o1.2 16 x1 o1.1) 18 x1 x2) 19 x1 (x3 - x2)) 25 ((np_st (np_st (np_st o1.2 16 x1 o1.1) 18 x1 x2) 19 x1 (x3 - x2)) 15 9))) 15 9)))).bind (fun o2 => np_ck ((0 : Int) ≤ x1 ∧ x1 < 30) (some (0, (np_st o2.2 17 x1 o2.1)))))))))))))
def f_Tree_grow_82  (σ : np_S) : Option np_O := some (0, σ)
def f_Tree_grow_20_b  (k20 : (Int → np_S → Option np_O)) (x2 : Int) (σ : np_S) : Option np_O := np_ck (np_R x2 ∧ np_R 30) (if (30 : Int) ≤ x2 then (f_Tree_grow_82 σ) else (np_ck (np_R (σ 15 9)) (if σ 15 9 ≤ 0 then (f_Tree_grow_82 σ) else (np_ck ((0 : Int) ≤ (np_st σ 15 9 ((σ 15 9) - 1)) 15 9 ∧ (np_st σ 15 9 ((σ 15 9) - 1)) 15 9 < 30) (np_ck ((0 : Int) ≤ (np_st σ 15 9 ((σ 15 9) - 1)) 15 9 ∧ (np_st σ 15 9 ((σ 15 9) - 1)) 15 9 < 30) ((f_Tree_growNode x2 ((np_st σ 15 9 ((σ 15 9) - 1)) 22 ((np_st σ 15 9 ((σ 15 9) - 1)) 15 9)) ((np_st σ 15 9 ((σ 15 9) - 1)) 23 ((np_st σ 15 9 ((σ 15 9) - 1)) 15 9)) (np_st σ 15 9 ((σ 15 9) - 1))).bind (fun o1 => k20 (x2 + 1) (np_st o1.2 15 2 ((o1.2 15 2) + 1)))))))))
def f_Tree_grow_20  : Nat → Int → np_S → Option np_O
  | 0, _, _ => none
  | n + 1, x2, σ => f_Tree_grow_20_b  (fun x2 σ => f_Tree_grow_20  n x2 σ) x2 σ
def f_Tree_grow  (x1 : Int) (σ : np_S) : Option np_O := (f_Tree_await 0 x1 0 ((-1)) (np_st (np_st σ 15 2 0) 15 9 0)).bind (fun o2 => f_Tree_grow_20 6000 0 o2.2)
def f_Spelling_lowBytes_20  (t0 : Int) (σ : np_S) : Option np_O := some (t0, σ)
def f_Spelling_lowBytes  (x0 x2 : Int) (σ : np_S) : Option np_O := np_ck (np_R x2 ∧ np_R 8) (if x2 < 8 then (f_Spelling_lowBytes_20 (np_andl x0 ((np_shll 1 (8 * x2)) - 1)) σ) else (f_Spelling_lowBytes_20 x0 σ))
