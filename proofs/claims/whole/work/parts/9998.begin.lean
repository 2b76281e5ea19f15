/-! the start -/
theorem gu_f1 : ∀ (n : Nat) (j : Int) (σ : np_S), 0 ≤ j → j ≤ 105 → 105 - j < n → f_Arrays_fill3_ng_1_5 n (-1) j 105 σ = some (0, gf_fill 1 j 105 (-1) σ) := by
  intro n
  induction n with
  | zero => intro j σ h0 h1 h2; omega
  | succ n ih =>
    intro j σ h0 h1 h2
    show f_Arrays_fill3_ng_1_5_b _ (-1) j 105 σ = _
    unfold f_Arrays_fill3_ng_1_5_b
    rw [np_ck_i ⟨⟨by omega, by omega⟩, by decide⟩]
    by_cases h : 105 ≤ j
    · rw [if_pos h, gf_fill_0 h]
    · rw [if_neg h, np_ck_i ⟨h0, by omega⟩]
      show f_Arrays_fill3_ng_1_5 n (-1) (j + 1) 105 (np_st σ 1 j (-1)) = _
      rw [ih (j + 1) _ (by omega) (by omega) (by omega), gf_fill_1 (by omega)]
theorem gu_f2 : ∀ (n : Nat) (j : Int) (σ : np_S), 0 ≤ j → j ≤ 105 → 105 - j < n → f_Arrays_fill4_ng_2_6 n (-1) j 105 σ = some (0, gf_fill 2 j 105 (-1) σ) := by
  intro n
  induction n with
  | zero => intro j σ h0 h1 h2; omega
  | succ n ih =>
    intro j σ h0 h1 h2
    show f_Arrays_fill4_ng_2_6_b _ (-1) j 105 σ = _
    unfold f_Arrays_fill4_ng_2_6_b
    rw [np_ck_i ⟨⟨by omega, by omega⟩, by decide⟩]
    by_cases h : 105 ≤ j
    · rw [if_pos h, gf_fill_0 h]
    · rw [if_neg h, np_ck_i ⟨h0, by omega⟩]
      show f_Arrays_fill4_ng_2_6 n (-1) (j + 1) 105 (np_st σ 2 j (-1)) = _
      rw [ih (j + 1) _ (by omega) (by omega) (by omega), gf_fill_1 (by omega)]
def gu_0 : np_S := np_st (fun _ _ => 0) 0 4 2
def gu_G : np_S := np_st (np_st (np_st (np_st (np_st (np_st (np_st (np_st (gf_fill 2 0 105 (-1) (gf_fill 1 0 105 (-1) gu_0)) 2 0 40) 1 1 0) 2 2 41) 4 0 3) 3 0 10) 2 7 0) 4 1 1) 3 1 10
theorem gu_Gib : f_Gib (np_st (fun _ _ => 0) 0 4 2) = some (0, gu_G) := by
  apply np_W_eq.mp
  unfold f_Gib f_Arrays_fill3_ng_1
  rw [gu_f1 20000 0 _ (by decide) (by decide) (by decide)]
  refine np_W_bind (np_W_some ?_)
  dsimp only
  unfold f_Arrays_fill4_ng_2
  rw [gu_f2 20000 0 _ (by decide) (by decide) (by decide)]
  refine np_W_bind (np_W_some ?_)
  dsimp only
  exact np_W_ck (by decide) (np_W_ck (by decide) (np_W_ck (by decide) (np_W_ck (by decide) (np_W_ck (by decide) (np_W_ck (by decide) (np_W_ck (by decide) (np_W_ck (by decide) (np_W_some rfl))))))))
def gu_h (j : Int) : Int := if j = 1 then 0 else if 0 ≤ j ∧ j < 105 then -1 else 0
def gu_w (j : Int) : Int := if j = 7 then 0 else if j = 2 then 41 else if j = 0 then 40 else if 0 ≤ j ∧ j < 105 then -1 else 0
def gu_v (j : Int) : Int := if j = 1 then 10 else if j = 0 then 10 else 0
def gu_l (j : Int) : Int := if j = 1 then 1 else if j = 0 then 3 else 0
theorem gu_c2 : ns_sg (0, gu_G) 2 = gu_h := by
  funext j
  show gu_G 1 j = gu_h j
  unfold gu_G gu_h
  rw [np_st_o _ _ _ (by decide), np_st_o _ _ _ (by decide), np_st_o _ _ _ (by decide), np_st_o _ _ _ (by decide), np_st_o _ _ _ (by decide), np_st_o _ _ _ (by decide), np_st_rd, if_pos rfl, np_st_o _ _ _ (by decide), gf_fill_o _ _ _ _ (by decide)]
  unfold gf_fill
  by_cases h : j = 1
  · rw [if_pos h, if_pos h]
  · rw [if_neg h, if_neg h]
    by_cases h2 : 0 ≤ j ∧ j < 105
    · rw [if_pos ⟨rfl, h2⟩, if_pos h2]
    · rw [if_neg (fun z => h2 z.2), if_neg h2]
      unfold gu_0
      rw [np_st_o _ _ _ (by decide)]
theorem gu_c3 : ns_sg (0, gu_G) 3 = gu_w := by
  funext j
  show gu_G 2 j = gu_w j
  unfold gu_G gu_w
  rw [np_st_o _ _ _ (by decide), np_st_o _ _ _ (by decide), np_st_rd, if_pos rfl, np_st_o _ _ _ (by decide), np_st_o _ _ _ (by decide), np_st_rd, if_pos rfl, np_st_o _ _ _ (by decide), np_st_rd, if_pos rfl]
  by_cases h : j = 7
  · rw [if_pos h, if_pos h]
  · rw [if_neg h, if_neg h]
    by_cases h3 : j = 2
    · rw [if_pos h3, if_pos h3]
    · rw [if_neg h3, if_neg h3]
      by_cases h4 : j = 0
      · rw [if_pos h4, if_pos h4]
      · rw [if_neg h4, if_neg h4]
        unfold gf_fill
        by_cases h2 : 0 ≤ j ∧ j < 105
        · rw [if_pos ⟨rfl, h2⟩, if_pos h2]
        · rw [if_neg (fun z => h2 z.2), if_neg h2, if_neg (fun z => absurd z.1 (by decide))]
          unfold gu_0
          rw [np_st_o _ _ _ (by decide)]
theorem gu_c4 : ns_sg (0, gu_G) 4 = gu_v := by
  funext j
  show gu_G 3 j = gu_v j
  unfold gu_G gu_v
  rw [np_st_rd, if_pos rfl, np_st_o _ _ _ (by decide), np_st_o _ _ _ (by decide), np_st_rd, if_pos rfl, np_st_o _ _ _ (by decide), np_st_o _ _ _ (by decide), np_st_o _ _ _ (by decide), np_st_o _ _ _ (by decide), gf_fill_o _ _ _ _ (by decide), gf_fill_o _ _ _ _ (by decide)]
  unfold gu_0
  rw [np_st_o _ _ _ (by decide)]
theorem gu_c5 : ns_sg (0, gu_G) 5 = gu_l := by
  funext j
  show gu_G 4 j = gu_l j
  unfold gu_G gu_l
  rw [np_st_o _ _ _ (by decide), np_st_rd, if_pos rfl, np_st_o _ _ _ (by decide), np_st_o _ _ _ (by decide), np_st_rd, if_pos rfl, np_st_o _ _ _ (by decide), np_st_o _ _ _ (by decide), np_st_o _ _ _ (by decide), gf_fill_o _ _ _ _ (by decide), gf_fill_o _ _ _ _ (by decide)]
  unfold gu_0
  rw [np_st_o _ _ _ (by decide)]
theorem gu_c1 : ns_sg (0, gu_G) 1 4 = 2 ∧ ns_sg (0, gu_G) 1 5 = 0 := by
  have e : ∀ i, ns_sg (0, gu_G) 1 i = gu_0 0 i := by
    intro i
    show gu_G 0 i = _
    unfold gu_G
    rw [np_st_o _ _ _ (by decide), np_st_o _ _ _ (by decide), np_st_o _ _ _ (by decide), np_st_o _ _ _ (by decide), np_st_o _ _ _ (by decide), np_st_o _ _ _ (by decide), np_st_o _ _ _ (by decide), np_st_o _ _ _ (by decide), gf_fill_o _ _ _ _ (by decide), gf_fill_o _ _ _ _ (by decide)]
  rw [e, e]
  unfold gu_0
  exact ⟨np_st_s _ _ _ _, np_st_n _ _ _ (by decide)⟩
def gu_n (r : Int) : Int := if r < 2 then gu_l r else if r = 2 then 0 else 0
def gu_p (r d : Int) : Prop :=
  (d < gu_n r → (-1 ≤ gu_h (7 * r + d) ∧ gu_h (7 * r + d) ≤ 10) ∧ (gu_h (7 * r + d) = -1 ↔ gu_w (7 * r + d) ≠ -1) ∧ (d + 1 < gu_n r → gu_h (7 * r + d) ≠ -1 → gu_h (7 * r + (d + 1)) = -1) ∧ (2 ≤ r → gu_w (7 * r + d) ≠ 0 ∧ gu_w (7 * r + d) ≠ 40 ∧ gu_w (7 * r + d) ≠ 41)) ∧
  (gu_n r ≤ d → gu_h (7 * r + d) = -1 ∧ gu_w (7 * r + d) = -1) ∧ np_R6 (gu_w (7 * r + d))
theorem gu_parts (r d : Int) (r0 : 0 ≤ r) (r1 : r < 15) (d0 : 0 ≤ d) (d1 : d < 7) : gu_p r d := by
  by_cases h0 : r = 0
  · subst h0
    have hd : d = 0 ∨ d = 1 ∨ d = 2 ∨ d = 3 ∨ d = 4 ∨ d = 5 ∨ d = 6 := by omega
    rcases hd with rfl | rfl | rfl | rfl | rfl | rfl | rfl <;> first | exact ⟨fun z => absurd z (by decide), by decide, by decide⟩ | exact ⟨fun _ => ⟨by decide, by decide, by decide, by decide⟩, by decide, by decide⟩
  · by_cases h1 : r = 1
    · subst h1
      have hd : d = 0 ∨ d = 1 ∨ d = 2 ∨ d = 3 ∨ d = 4 ∨ d = 5 ∨ d = 6 := by omega
      rcases hd with rfl | rfl | rfl | rfl | rfl | rfl | rfl <;> first | exact ⟨fun z => absurd z (by decide), by decide, by decide⟩ | exact ⟨fun _ => ⟨by decide, by decide, by decide, by decide⟩, by decide, by decide⟩
    · have hn : gu_n r = 0 := by
        unfold gu_n
        rw [if_neg (by omega)]
        split <;> rfl
      have e1 : gu_h (7 * r + d) = -1 := by
        unfold gu_h
        rw [if_neg (by omega), if_pos (by omega)]
      have e2 : gu_w (7 * r + d) = -1 := by
        unfold gu_w
        rw [if_neg (by omega), if_neg (by omega), if_neg (by omega), if_pos (by omega)]
      unfold gu_p
      rw [hn, e1, e2]
      exact ⟨fun z => by omega, fun _ => ⟨rfl, rfl⟩, by decide⟩
theorem gu_C : gi_C (ns_sg (0, gu_G)) := by
  obtain ⟨a, b⟩ := gu_c1
  refine ⟨by rw [a]; decide, by rw [b]; decide, fun r d r0 r1 d0 d1 => ?_, fun r r0 rR => ?_, ?_⟩
  · have h := gu_parts r d r0 r1 d0 d1
    unfold gi_part gi_len
    rw [gu_c2, gu_c3, gu_c5, a, b]
    exact h
  · rw [a] at rR
    unfold gi_rule
    rw [gu_c2, gu_c4, gu_c5]
    have : r = 0 ∨ r = 1 := by omega
    rcases this with e | e
    · rw [e]; exact ⟨by decide, by decide, 0, by decide, by decide, by decide⟩
    · rw [e]; exact ⟨by decide, by decide, 0, by decide, by decide, by decide⟩
  · unfold gi_two
    rw [gu_c2, gu_c3, gu_c4, gu_c5]
    decide
theorem gu_I : gi_I (ns_sg (0, gu_G)) := by
  obtain ⟨a, b⟩ := gu_c1
  have e2 : ns_sg (0, gu_G) 29 2 = 0 := rfl
  have e1 : ns_sg (0, gu_G) 29 1 = 0 := rfl
  have e61 : ns_sg (0, gu_G) 6 1 = 0 := rfl
  have e26 : ns_sg (0, gu_G) 26 1 = 0 := rfl
  refine ⟨gu_C, ⟨by rw [a, e2]; decide, by rw [b, e1], fun n p n0 n1 => ?_, fun n n0 n1 => ?_, fun p p0 p1 => ?_⟩, ⟨by rw [e61]; decide, by rw [e61]; decide, rfl, fun k k0 k1 => ?_⟩, ⟨0, rfl, by decide, rfl, fun i hi => by omega, Nat.zero_le _⟩, ⟨rfl, rfl, (by decide : np_R 0), (by decide : np_R (-1))⟩, ⟨by rw [e26]; decide, by rw [e26]; decide, rfl, fun i i0 i1 => ?_⟩, rfl, Or.inl rfl⟩
  · rw [e2] at n1; omega
  · rw [e2] at n1; omega
  · rw [e1] at p1; omega
  · rw [e61] at k1; omega
  · rw [e26] at i1; omega
theorem np_pure : np_pureS := by
  intro xs L hL
  refine ⟨(0, gu_G), ?_⟩
  obtain ⟨o, e, h⟩ := gl_loop xs L hL 600 0 (ns_sg (0, gu_G)) (by omega) (by omega) (by omega) gu_I
  refine ⟨o.2, gu_Gib, ?_⟩
  have e2 : o = (1, o.2) := by
    obtain ⟨v, s⟩ := o
    have h : v = 1 := h
    rw [h]
  rw [← e2]
  exact e
