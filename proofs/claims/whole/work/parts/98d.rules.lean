/-! filling, word and notation -/
def gf_fill (c : Nat) (a b v : Int) (σ : np_S) : np_S := fun k j => if k = c ∧ a ≤ j ∧ j < b then v else σ k j
theorem gf_fill_0 {c : Nat} {a b v : Int} {σ : np_S} (h : b ≤ a) : gf_fill c a b v σ = σ := by
  funext k j
  unfold gf_fill
  rw [if_neg (by omega)]
theorem gf_fill_1 {c : Nat} {a b v : Int} {σ : np_S} (h : a < b) : gf_fill c (a + 1) b v (np_st σ c a v) = gf_fill c a b v σ := by
  funext k j
  unfold gf_fill
  rw [np_st_rd]
  by_cases h1 : k = c
  · by_cases h2 : j = a
    · rw [if_neg (by omega), if_pos h1, if_pos h2, if_pos (by omega)]
    · by_cases h3 : a ≤ j ∧ j < b
      · rw [if_pos (by omega), if_pos (by omega)]
      · rw [if_neg (by omega), if_pos h1, if_neg h2, if_neg (by omega)]
  · rw [if_neg (by omega), if_neg h1, if_neg (by omega)]
theorem gf_fill_o {c k : Nat} (a b v : Int) (σ : np_S) (h : k ≠ c) : gf_fill c a b v σ k = σ k := by
  funext j
  unfold gf_fill
  rw [if_neg (by omega)]

theorem gf_fill_2_l (b v : Int) (hb : b ≤ 105) : ∀ (n : Nat) (j : Int) (σ : np_S), 0 ≤ j → j ≤ b → b - j < n → f_Arrays_fill_2_10 n b v j σ = some (0, gf_fill 2 j b v σ) := by
  intro n
  induction n with
  | zero => intro j σ h0 h1 h2; omega
  | succ n ih =>
    intro j σ h0 h1 h2
    show f_Arrays_fill_2_10_b _ b v j σ = _
    unfold f_Arrays_fill_2_10_b
    rw [np_ck_i ⟨⟨by omega, by omega⟩, ⟨by omega, by omega⟩⟩]
    by_cases h : b ≤ j
    · rw [if_pos h, gf_fill_0 h]
    · rw [if_neg h, np_ck_i ⟨h0, by omega⟩]
      show f_Arrays_fill_2_10 n b v (j + 1) (np_st σ 2 j v) = _
      rw [ih (j + 1) _ (by omega) (by omega) (by omega), gf_fill_1 (by omega)]
theorem gf_fill_2 {a b v : Int} (σ : np_S) (h0 : 0 ≤ a) (h1 : a ≤ b) (hb : b ≤ 105) : f_Arrays_fill_2 a b v σ = some (0, gf_fill 2 a b v σ) := by
  unfold f_Arrays_fill_2 f_Arrays_rangeCheck
  rw [np_ck_i ⟨⟨by omega, by omega⟩, ⟨by omega, by omega⟩⟩, if_pos h1, np_ck_i ⟨by omega, by omega⟩, if_pos h0, np_ck_i ⟨⟨by omega, by omega⟩, by decide⟩, if_pos hb]
  show f_Arrays_fill_2_10 20000 b v a σ = _
  exact gf_fill_2_l b v hb 20000 a σ h0 h1 (by omega)

theorem gf_fill2_3_l (b v : Int) (hb : b ≤ 105) : ∀ (n : Nat) (j : Int) (σ : np_S), 0 ≤ j → j ≤ b → b - j < n → f_Arrays_fill2_3_10 n b v j σ = some (0, gf_fill 3 j b v σ) := by
  intro n
  induction n with
  | zero => intro j σ h0 h1 h2; omega
  | succ n ih =>
    intro j σ h0 h1 h2
    show f_Arrays_fill2_3_10_b _ b v j σ = _
    unfold f_Arrays_fill2_3_10_b
    rw [np_ck_i ⟨⟨by omega, by omega⟩, ⟨by omega, by omega⟩⟩]
    by_cases h : b ≤ j
    · rw [if_pos h, gf_fill_0 h]
    · rw [if_neg h, np_ck_i ⟨h0, by omega⟩]
      show f_Arrays_fill2_3_10 n b v (j + 1) (np_st σ 3 j v) = _
      rw [ih (j + 1) _ (by omega) (by omega) (by omega), gf_fill_1 (by omega)]
theorem gf_fill2_3 {a b v : Int} (σ : np_S) (h0 : 0 ≤ a) (h1 : a ≤ b) (hb : b ≤ 105) : f_Arrays_fill2_3 a b v σ = some (0, gf_fill 3 a b v σ) := by
  unfold f_Arrays_fill2_3 f_Arrays_rangeCheck
  rw [np_ck_i ⟨⟨by omega, by omega⟩, ⟨by omega, by omega⟩⟩, if_pos h1, np_ck_i ⟨by omega, by omega⟩, if_pos h0, np_ck_i ⟨⟨by omega, by omega⟩, by decide⟩, if_pos hb]
  show f_Arrays_fill2_3_10 20000 b v a σ = _
  exact gf_fill2_3_l b v hb 20000 a σ h0 h1 (by omega)

theorem gf_fill_12_l (b v : Int) (hb : b ≤ 3038) : ∀ (n : Nat) (j : Int) (σ : np_S), 0 ≤ j → j ≤ b → b - j < n → f_Arrays_fill_12_10 n b v j σ = some (0, gf_fill 12 j b v σ) := by
  intro n
  induction n with
  | zero => intro j σ h0 h1 h2; omega
  | succ n ih =>
    intro j σ h0 h1 h2
    show f_Arrays_fill_12_10_b _ b v j σ = _
    unfold f_Arrays_fill_12_10_b
    rw [np_ck_i ⟨⟨by omega, by omega⟩, ⟨by omega, by omega⟩⟩]
    by_cases h : b ≤ j
    · rw [if_pos h, gf_fill_0 h]
    · rw [if_neg h, np_ck_i ⟨h0, by omega⟩]
      show f_Arrays_fill_12_10 n b v (j + 1) (np_st σ 12 j v) = _
      rw [ih (j + 1) _ (by omega) (by omega) (by omega), gf_fill_1 (by omega)]
theorem gf_fill_12 {a b v : Int} (σ : np_S) (h0 : 0 ≤ a) (h1 : a ≤ b) (hb : b ≤ 3038) : f_Arrays_fill_12 a b v σ = some (0, gf_fill 12 a b v σ) := by
  unfold f_Arrays_fill_12 f_Arrays_rangeCheck
  rw [np_ck_i ⟨⟨by omega, by omega⟩, ⟨by omega, by omega⟩⟩, if_pos h1, np_ck_i ⟨by omega, by omega⟩, if_pos h0, np_ck_i ⟨⟨by omega, by omega⟩, by decide⟩, if_pos hb]
  show f_Arrays_fill_12_10 20000 b v a σ = _
  exact gf_fill_12_l b v hb 20000 a σ h0 h1 (by omega)

def gc_drop (σ : np_S) : np_S := np_st (gf_fill 3 (σ 1 4 * 7) (σ 1 4 * 7 + 7) (-1) (gf_fill 2 (σ 1 4 * 7) (σ 1 4 * 7 + 7) (-1) σ)) 1 5 0
theorem gc_dropHand {σ : np_S} (hC : gi_C σ) : f_Grammar_dropHand σ = some (0, gc_drop σ) := by
  obtain ⟨⟨h1, h2⟩, ⟨h3, h4⟩, _⟩ := hC
  apply np_W_eq.mp
  unfold f_Grammar_dropHand f_Grammar_usedDots
  refine np_W_bind (np_W_some ?_)
  try dsimp only
  refine np_W_bind (np_W_some ?_)
  dsimp only
  rw [gf_fill_2 σ (by omega) (by omega) (by omega)]
  refine np_W_bind (np_W_some ?_)
  try dsimp only
  refine np_W_bind (np_W_some ?_)
  try dsimp only
  refine np_W_bind (np_W_some ?_)
  dsimp only
  rw [gf_fill_o _ _ _ σ (show 1 ≠ 2 by decide)]
  rw [gf_fill2_3 _ (by omega) (by omega) (by omega)]
  refine np_W_bind (np_W_some ?_)
  try dsimp only
  exact np_W_some rfl
def gc_good (x n : Int) : Prop := gs_wd x n ∧ gs_lo x n ≠ 40 ∧ gs_lo x n ≠ 41
theorem gc_word {σ : np_S} (hC : gi_C σ) {x n : Int} (hx : np_R6 x) (hn : np_R n) : np_W (f_N_word x n σ) (fun o => (¬ gc_good x n ∧ o = (1, 0, σ)) ∨ (gc_good x n ∧ σ 1 5 = 6 ∧ o = (2, 0, σ)) ∨ (gc_good x n ∧ σ 1 5 < 6 ∧ o = (0, σ 1 5 + 1, gc_take (-1) (gs_lo x n) σ))) := by
  have hC2 := hC
  obtain ⟨⟨h1, h2⟩, ⟨h3, h4⟩, _⟩ := hC2
  unfold f_N_word f_N_word_43
  refine np_W_seq (gs_isSpelled x n hn σ) (fun o ho => ?_)
  obtain ⟨v, τ⟩ := o
  obtain ⟨e, hb⟩ := ho
  dsimp only at e hb ⊢
  subst e
  refine np_W_ck (gs_bo_R hb) ?_
  refine np_W_if (fun g => ?_) (fun g => np_W_some (Or.inl ⟨fun q => g ((gs_bo_1 hb).mpr q.1), rfl⟩))
  have hw := (gs_bo_1 hb).mp g
  rw [gs_lowBytes x n hw.1 hw.2.1]
  refine np_W_bind (np_W_some ?_)
  dsimp only
  have hR := gs_lo_R hx hw.1 hw.2.1
  refine np_W_ck ⟨hR, by decide⟩ ?_
  refine np_W_ck (np_cmpR _ _) ?_
  refine np_W_if (fun g1 => np_W_some (Or.inl ⟨fun q => q.2.1 (np_cmp0.mp g1), rfl⟩)) (fun g1 => ?_)
  refine np_W_ck ⟨hR, by decide⟩ ?_
  refine np_W_ck (np_cmpR _ _) ?_
  refine np_W_if (fun g2 => ?_) (fun g2 => np_W_some (Or.inl ⟨fun q => g2 (fun z => q.2.2 (np_cmp0.mp z)), rfl⟩))
  have gd : gc_good x n := ⟨hw, fun q => g1 (np_cmp0.mpr q), fun q => g2 (np_cmp0.mpr q)⟩
  refine np_W_ck ⟨⟨by omega, by omega⟩, by decide⟩ ?_
  refine np_W_if (fun g6 => ?_) (fun g6 => np_W_some (Or.inr (Or.inl ⟨gd, by omega, rfl⟩)))
  rw [gc_takePart hC]
  exact np_W_bind (np_W_some (np_W_some (Or.inr (Or.inr ⟨gd, g6, rfl⟩))))
theorem gm_word {σ : np_S} (h0 : 0 ≤ σ 29 1) (h6 : σ 29 1 ≤ 6) {x n : Int} (hx : np_R6 x) (hn : np_R n) : np_W (f_M_word x n σ) (fun o => (¬ gc_good x n ∧ o = (0, np_st σ 29 0 1)) ∨ (gc_good x n ∧ σ 29 1 = 6 ∧ o = (0, np_st σ 29 0 2)) ∨ (gc_good x n ∧ σ 29 1 < 6 ∧ o = (σ 29 1 + 1, gm_take (-1) (gs_lo x n) (np_st σ 29 0 0)))) := by
  have h37 : ∀ b : Int, gs_bo b (gc_good x n) → np_W (f_M_word_37 x n b σ) (fun o => (¬ gc_good x n ∧ o = (0, np_st σ 29 0 1)) ∨ (gc_good x n ∧ σ 29 1 = 6 ∧ o = (0, np_st σ 29 0 2)) ∨ (gc_good x n ∧ σ 29 1 < 6 ∧ o = (σ 29 1 + 1, gm_take (-1) (gs_lo x n) (np_st σ 29 0 0)))) := by
    intro b hb
    unfold f_M_word_37 f_M_word_63 f_M_word_87
    refine np_W_ck (gs_bo_R hb) ?_
    refine np_W_if (fun g => ?_) (fun g => ?_)
    · have gd := (gs_bo_1 hb).mp g
      refine np_W_ck ⟨⟨by omega, by omega⟩, by decide⟩ ?_
      refine np_W_if (fun g6 => ?_) (fun g6 => ?_)
      · rw [np_st_s]
        refine np_W_ck (by decide) ?_
        refine np_W_if (fun _ => ?_) (fun g => absurd (by decide) g)
        rw [gs_lowest x n gd.1.1 gd.1.2.1]
        refine np_W_bind (np_W_some ?_)
        dsimp only
        have e1 : np_st σ 29 0 0 29 1 = σ 29 1 := np_st_n σ 29 0 (by decide)
        rw [gm_part (by rw [e1]; exact h0) (by rw [e1]; exact h6), e1]
        exact np_W_bind (np_W_some (np_W_some (Or.inr (Or.inr ⟨gd, by omega, rfl⟩))))
      · rw [np_st_s]
        refine np_W_ck (by decide) ?_
        exact np_W_if (fun g => absurd g (by decide)) (fun _ => np_W_some (Or.inr (Or.inl ⟨gd, by omega, rfl⟩)))
    · have gd : ¬ gc_good x n := fun q => g ((gs_bo_1 hb).mpr q)
      rw [np_st_s]
      refine np_W_ck (by decide) ?_
      exact np_W_if (fun g => absurd g (by decide)) (fun _ => np_W_some (Or.inl ⟨gd, rfl⟩))
  unfold f_M_word f_M_word_36
  refine np_W_seq (gs_isWord x n hn σ) (fun o ho => ?_)
  obtain ⟨v, τ⟩ := o
  obtain ⟨e, hb⟩ := ho
  dsimp only at e hb ⊢
  subst e
  refine np_W_ck (gs_bo_R hb) ?_
  refine np_W_if (fun g => h37 0 (Or.inr ⟨rfl, fun q => (gs_bo_1 hb).mpr q.1 g⟩)) (fun g => ?_)
  have hw := (gs_bo_1 hb).mp g
  rw [gs_lowest x n hw.1 hw.2.1]
  refine np_W_bind (np_W_some ?_)
  dsimp only
  have hR := gs_lo_R hx hw.1 hw.2.1
  refine np_W_ck ⟨hR, by decide⟩ ?_
  refine np_W_ck (np_cmpR _ _) ?_
  refine np_W_if (fun g1 => h37 0 (Or.inr ⟨rfl, fun q => q.2.1 (np_cmp0.mp g1)⟩)) (fun g1 => ?_)
  rw [gs_lowest x n hw.1 hw.2.1]
  refine np_W_bind (np_W_some ?_)
  dsimp only
  refine np_W_ck ⟨hR, by decide⟩ ?_
  refine np_W_ck (np_cmpR _ _) ?_
  refine np_W_if (fun g2 => h37 0 (Or.inr ⟨rfl, fun q => q.2.2 (np_cmp0.mp g2)⟩)) (fun g2 => ?_)
  exact h37 1 (Or.inl ⟨rfl, hw, fun q => g1 (np_cmp0.mpr q), fun q => g2 (np_cmp0.mpr q)⟩)
def gc_hasW (σ : np_S) (p : Int) : Prop := ∃ q, p ≤ q ∧ q < σ 1 5 ∧ σ 3 (σ 1 4 * 7 + q) ≠ -1
theorem gc_hhw {σ : np_S} (hC : gi_C σ) : ∀ (n : Nat) (p : Int), 0 ≤ p → p ≤ 6 → 6 - p < n → np_W (f_Grammar_handHasWord_2 n p σ) (fun o => o.2 = σ ∧ gs_bo o.1 (gc_hasW σ p)) := by
  have hC2 := hC
  obtain ⟨⟨h1, h2⟩, ⟨h3, h4⟩, _⟩ := hC2
  intro n
  induction n with
  | zero => intro p _ _ h; omega
  | succ n ih =>
    intro p p0 p6 hn
    show np_W (f_Grammar_handHasWord_2_b _ p σ) _
    unfold f_Grammar_handHasWord_2_b f_Grammar_usedDots
    refine np_W_ck ⟨⟨by omega, by omega⟩, ⟨by omega, by omega⟩⟩ ?_
    refine np_W_if (fun h => np_W_ck (by decide) (np_W_some ⟨rfl, Or.inr ⟨rfl, fun ⟨q, q1, q2, _⟩ => by omega⟩⟩)) (fun h => ?_)
    refine np_W_bind (np_W_some ?_)
    dsimp only
    refine np_W_ck ⟨by omega, by omega⟩ ?_
    refine np_W_ck ⟨(gi_C_R hC (by omega) (by omega)).2, by decide⟩ ?_
    refine np_W_ck (np_cmpR _ _) ?_
    refine np_W_if (fun g => ?_) (fun g => ?_)
    · refine np_W_mono (ih (p + 1) (by omega) (by omega) (by omega)) (fun o ho => ⟨ho.1, gs_bo_iff ho.2 ⟨fun ⟨q, q1, q2, q3⟩ => ⟨q, by omega, q2, q3⟩, fun ⟨q, q1, q2, q3⟩ => ⟨q, ?_, q2, q3⟩⟩⟩)
      by_cases e : q = p
      · rw [e] at q3; exact absurd (np_cmp0.mp g) q3
      · omega
    · exact np_W_ck (by decide) (np_W_some ⟨rfl, Or.inl ⟨rfl, p, by omega, by omega, fun q => g (np_cmp0.mpr q)⟩⟩)
def gc_make (x : Int) (σ : np_S) : np_S := np_st (np_st (np_st (np_st (np_st σ 15 2 0) 4 (σ 1 4) x) 5 (σ 1 4) (σ 1 5)) 1 4 (σ 1 4 + 1)) 1 5 0
theorem gc_notation {σ : np_S} (hC : gi_C σ) {x : Int} (hx : np_R x) : np_W (f_N_notation x σ) (fun o => (¬ (0 ≤ x ∧ x ≤ 9 ∧ gc_hasW σ 0) ∧ o = (1, 0, gc_drop σ)) ∨ ((0 ≤ x ∧ x ≤ 9 ∧ gc_hasW σ 0) ∧ σ 1 4 = 14 ∧ o = (2, 0, σ)) ∨ ((0 ≤ x ∧ x ≤ 9 ∧ gc_hasW σ 0) ∧ σ 1 4 < 14 ∧ o = (0, σ 1 4 - 2, gc_make x σ))) := by
  have hC2 := hC
  obtain ⟨⟨h1, h2⟩, ⟨h3, h4⟩, _⟩ := hC2
  have bad : ¬ (0 ≤ x ∧ x ≤ 9 ∧ gc_hasW σ 0) → np_W (f_N_notation_20 σ) (fun o => (¬ (0 ≤ x ∧ x ≤ 9 ∧ gc_hasW σ 0) ∧ o = (1, 0, gc_drop σ)) ∨ ((0 ≤ x ∧ x ≤ 9 ∧ gc_hasW σ 0) ∧ σ 1 4 = 14 ∧ o = (2, 0, σ)) ∨ ((0 ≤ x ∧ x ≤ 9 ∧ gc_hasW σ 0) ∧ σ 1 4 < 14 ∧ o = (0, σ 1 4 - 2, gc_make x σ))) := by
    intro hb
    unfold f_N_notation_20
    rw [gc_dropHand hC]
    exact np_W_bind (np_W_some (np_W_some (Or.inl ⟨hb, rfl⟩)))
  unfold f_N_notation
  refine np_W_ck hx ?_
  refine np_W_if (fun h => bad (fun q => by have := q.1; omega)) (fun h => ?_)
  refine np_W_ck ⟨hx, by decide⟩ ?_
  refine np_W_if (fun h9 => bad (fun q => by have := q.2.1; omega)) (fun h9 => ?_)
  refine np_W_seq (gc_hhw hC 20000 0 (by decide) (by decide) (by decide)) (fun o ho => ?_)
  obtain ⟨v, τ⟩ := o
  obtain ⟨e, hb⟩ := ho
  dsimp only at e hb ⊢
  subst e
  refine np_W_ck (gs_bo_R hb) ?_
  refine np_W_if (fun g => ?_) (fun g => bad (fun q => g ((gs_bo_1 hb).mpr q.2.2)))
  have gd : 0 ≤ x ∧ x ≤ 9 ∧ gc_hasW τ 0 := ⟨by omega, by omega, (gs_bo_1 hb).mp g⟩
  refine np_W_ck ⟨⟨by omega, by omega⟩, by decide⟩ ?_
  refine np_W_if (fun g14 => ?_) (fun g14 => np_W_some (Or.inr (Or.inl ⟨gd, by omega, rfl⟩)))
  unfold f_Tree_fell f_Grammar_makeRule
  refine np_W_bind (np_W_some ?_)
  dsimp only
  have e1 : np_st τ 15 2 0 1 = τ 1 := np_st_o τ _ _ (by decide)
  refine np_W_bind ?_
  refine np_W_ck (by rw [e1]; exact ⟨by omega, g14⟩) ?_
  refine np_W_ck (by rw [e1]; exact ⟨by omega, g14⟩) ?_
  refine np_W_some (np_W_some (Or.inr (Or.inr ⟨gd, g14, ?_⟩)))
  unfold gc_make
  rw [np_st_o _ _ _ (show 1 ≠ 5 by decide), np_st_o _ _ _ (show 1 ≠ 4 by decide), e1]
def gm_hasW (σ : np_S) (p : Int) : Prop := ∃ q, 0 ≤ q ∧ q < p ∧ σ 30 (84 + q) = -1
/-- what the reference's notation leaves when it takes one -/
def gm_made (x : Int) (σ τ : np_S) : Prop := (∀ k j, k ≠ 29 → k ≠ 30 → k ≠ 31 → k ≠ 32 → k ≠ 33 → τ k j = σ k j) ∧ τ 29 0 = 0 ∧ τ 29 1 = 0 ∧ τ 29 2 = σ 29 2 + 1 ∧ τ 29 18 = 0 ∧ (∀ j, j ≠ 0 → j ≠ 1 → j ≠ 2 → j ≠ 18 → τ 29 j = σ 29 j) ∧
  (∀ j, τ 30 j = if 7 * σ 29 2 ≤ j ∧ j < 7 * σ 29 2 + σ 29 1 then σ 30 (84 + (j - 7 * σ 29 2)) else σ 30 j) ∧ (∀ j, τ 31 j = if 7 * σ 29 2 ≤ j ∧ j < 7 * σ 29 2 + σ 29 1 then σ 31 (84 + (j - 7 * σ 29 2)) else σ 31 j) ∧
  (∀ j, τ 32 j = if j = σ 29 2 then σ 29 1 else σ 32 j) ∧ (∀ j, τ 33 j = if j = σ 29 2 then x else σ 33 j)
/-- the copying, begun -/
def gm_cp (p : Int) (σ τ : np_S) : Prop := (∀ k j, k ≠ 30 → k ≠ 31 → τ k j = σ k j) ∧
  (∀ j, τ 30 j = if 7 * σ 29 2 ≤ j ∧ j < 7 * σ 29 2 + p then σ 30 (84 + (j - 7 * σ 29 2)) else σ 30 j) ∧ (∀ j, τ 31 j = if 7 * σ 29 2 ≤ j ∧ j < 7 * σ 29 2 + p then σ 31 (84 + (j - 7 * σ 29 2)) else σ 31 j)
theorem gm_101 {σ : np_S} (h0 : 0 ≤ σ 29 1) (h6 : σ 29 1 ≤ 6) (h20 : 0 ≤ σ 29 2) (h212 : σ 29 2 < 12) (ht : σ 29 0 = 0) (x : Int) : ∀ (n : Nat) (p : Int) (τ : np_S), 0 ≤ p → p ≤ σ 29 1 → σ 29 1 - p < n → gm_cp p σ τ → np_W (f_M_notation_101 n x p τ) (fun o => o.1 = σ 29 2 ∧ gm_made x σ o.2) := by
  intro n
  induction n with
  | zero => intro p τ _ _ h; omega
  | succ n ih =>
    intro p τ p0 p6 hn hc
    show np_W (f_M_notation_101_b _ x p τ) _
    unfold f_M_notation_101_b
    have e1 : τ 29 1 = σ 29 1 := hc.1 29 1 (by decide) (by decide)
    have e2 : τ 29 2 = σ 29 2 := hc.1 29 2 (by decide) (by decide)
    rw [e1, e2]
    refine np_W_ck ⟨⟨by omega, by omega⟩, ⟨by omega, by omega⟩⟩ ?_
    refine np_W_if (fun h => ?_) (fun h => ?_)
    · refine np_W_ck ⟨by omega, by omega⟩ ?_
      have e3 : np_st τ 32 (σ 29 2) (σ 29 1) 29 2 = σ 29 2 := by rw [np_st_o _ _ _ (by decide)]; exact e2
      rw [e3]
      refine np_W_ck ⟨by omega, by omega⟩ ?_
      have ep : p = σ 29 1 := by omega
      subst ep
      refine np_W_some ⟨?_, ?_⟩
      · show np_st (np_st (np_st (np_st (np_st τ 32 (σ 29 2) (σ 29 1)) 33 (σ 29 2) x) 29 2 _) 29 1 0) 29 18 0 29 2 - 1 = σ 29 2
        rw [np_st_n _ _ _ (by decide), np_st_n _ _ _ (by decide), np_st_s, np_st_o _ _ _ (by decide), np_st_o _ _ _ (by decide), e2]; omega
      · refine ⟨?_, ?_, ?_, ?_, ?_, ?_, ?_, ?_, ?_, ?_⟩
        · intro k j k1 k2 k3 k4 k5
          dsimp only
          rw [np_st_o _ _ _ k1, np_st_o _ _ _ k1, np_st_o _ _ _ k1, np_st_o _ _ _ k5, np_st_o _ _ _ k4]
          exact hc.1 k j k2 k3
        · dsimp only
          rw [np_st_n _ _ _ (by decide), np_st_n _ _ _ (by decide), np_st_n _ _ _ (by decide), np_st_o _ _ _ (by decide), np_st_o _ _ _ (by decide)]
          rw [hc.1 29 0 (by decide) (by decide)]; exact ht
        · dsimp only
          rw [np_st_n _ _ _ (by decide), np_st_s]
        · dsimp only
          rw [np_st_n _ _ _ (by decide), np_st_n _ _ _ (by decide), np_st_s, np_st_o _ _ _ (by decide), np_st_o _ _ _ (by decide), e2]
        · dsimp only
          rw [np_st_s]
        · intro j j0 j1 j2 j18
          dsimp only
          rw [np_st_n _ _ _ j18, np_st_n _ _ _ j1, np_st_n _ _ _ j2, np_st_o _ _ _ (by decide), np_st_o _ _ _ (by decide)]
          exact hc.1 29 j (by decide) (by decide)
        · intro j
          dsimp only
          rw [np_st_o _ _ _ (by decide), np_st_o _ _ _ (by decide), np_st_o _ _ _ (by decide), np_st_o _ _ _ (by decide), np_st_o _ _ _ (by decide)]
          exact hc.2.1 j
        · intro j
          dsimp only
          rw [np_st_o _ _ _ (by decide), np_st_o _ _ _ (by decide), np_st_o _ _ _ (by decide), np_st_o _ _ _ (by decide), np_st_o _ _ _ (by decide)]
          exact hc.2.2 j
        · intro j
          dsimp only
          rw [np_st_o _ _ _ (by decide), np_st_o _ _ _ (by decide), np_st_o _ _ _ (by decide), np_st_o _ _ _ (by decide), np_st_rd, if_pos rfl]
          rw [hc.1 32 j (by decide) (by decide)]
        · intro j
          dsimp only
          rw [np_st_o _ _ _ (by decide), np_st_o _ _ _ (by decide), np_st_o _ _ _ (by decide), np_st_rd, if_pos rfl, np_st_o _ _ _ (by decide)]
          rw [hc.1 33 j (by decide) (by decide)]
    · refine np_W_ck ⟨by omega, by omega⟩ ?_
      refine np_W_ck ⟨by omega, by omega⟩ ?_
      refine np_W_ck ⟨by omega, by omega⟩ ?_
      have e3 : np_st τ 30 (7 * σ 29 2 + p) (τ 30 (84 + p)) 29 2 = σ 29 2 := by rw [np_st_o _ _ _ (by decide)]; exact e2
      rw [e3]
      refine np_W_ck ⟨by omega, by omega⟩ ?_
      refine ih (p + 1) _ (by omega) (by omega) (by omega) ⟨?_, ?_, ?_⟩
      · intro k j k1 k2
        rw [np_st_o _ _ _ k2, np_st_o _ _ _ k1]
        exact hc.1 k j k1 k2
      · intro j
        rw [np_st_o _ _ _ (by decide), np_st_rd, if_pos rfl, hc.2.1 j, hc.2.1 (84 + p)]
        by_cases ej : j = 7 * σ 29 2 + p
        · rw [if_pos ej, if_neg (by omega), if_pos (by omega), ej]; congr 1; omega
        · rw [if_neg ej]
          by_cases hj : 7 * σ 29 2 ≤ j ∧ j < 7 * σ 29 2 + p
          · rw [if_pos hj, if_pos (by omega)]
          · rw [if_neg hj, if_neg (by omega)]
      · intro j
        rw [np_st_rd, if_pos rfl, np_st_o _ _ _ (by decide), hc.2.2 j, hc.2.2 (84 + p)]
        by_cases ej : j = 7 * σ 29 2 + p
        · rw [if_pos ej, if_neg (by omega), if_pos (by omega), ej]; congr 1; omega
        · rw [if_neg ej]
          by_cases hj : 7 * σ 29 2 ≤ j ∧ j < 7 * σ 29 2 + p
          · rw [if_pos hj, if_pos (by omega)]
          · rw [if_neg hj, if_neg (by omega)]
def gm_nQ (x : Int) (σ : np_S) (o : np_O) : Prop := (¬ (0 ≤ x ∧ x ≤ 9 ∧ gm_hasW σ (σ 29 1)) ∧ o = (0, np_st (np_st σ 29 0 1) 29 1 0)) ∨ ((0 ≤ x ∧ x ≤ 9 ∧ gm_hasW σ (σ 29 1)) ∧ σ 29 2 = 12 ∧ o = (0, np_st σ 29 0 2)) ∨ ((0 ≤ x ∧ x ≤ 9 ∧ gm_hasW σ (σ 29 1)) ∧ σ 29 2 < 12 ∧ o.1 = σ 29 2 ∧ gm_made x σ o.2)
theorem gm_notation {σ : np_S} (h0 : 0 ≤ σ 29 1) (h6 : σ 29 1 ≤ 6) (h20 : 0 ≤ σ 29 2) (h212 : σ 29 2 ≤ 12) (hp : ∀ p : Int, 0 ≤ p → p < σ 29 1 → np_R (σ 30 (84 + p))) {x : Int} (hx : np_R x) : ∀ (n : Nat) (b p : Int), 0 ≤ p → p ≤ σ 29 1 → σ 29 1 - p < n → gs_bo b (gm_hasW σ p) → np_W (f_M_notation_4 n x b p σ) (gm_nQ x σ) := by
  have bad : ¬ (0 ≤ x ∧ x ≤ 9 ∧ gm_hasW σ (σ 29 1)) → np_W (f_M_notation_56 x σ) (gm_nQ x σ) := by
    intro hb
    unfold f_M_notation_56 f_M_notation_74 f_M_notation_90
    rw [np_st_s]
    refine np_W_ck (by decide) ?_
    refine np_W_if (fun g => absurd rfl g) (fun _ => ?_)
    rw [np_st_n _ _ _ (by decide), np_st_s]
    refine np_W_ck (by decide) ?_
    exact np_W_if (fun g => absurd g (by decide)) (fun _ => np_W_some (Or.inl ⟨hb, rfl⟩))
  intro n
  induction n with
  | zero => intro b p _ _ h; omega
  | succ n ih =>
    intro b p p0 p6 hn hb
    show np_W (f_M_notation_4_b _ x b p σ) _
    unfold f_M_notation_4_b
    refine np_W_ck ⟨⟨by omega, by omega⟩, ⟨by omega, by omega⟩⟩ ?_
    refine np_W_if (fun h => ?_) (fun h => ?_)
    · have ep : p = σ 29 1 := by omega
      rw [ep] at hb
      refine np_W_ck hx ?_
      refine np_W_if (fun h => bad (fun q => by have := q.1; omega)) (fun h => ?_)
      refine np_W_ck ⟨hx, by decide⟩ ?_
      refine np_W_if (fun h9 => bad (fun q => by have := q.2.1; omega)) (fun h9 => ?_)
      refine np_W_ck (gs_bo_R hb) ?_
      refine np_W_if (fun g => ?_) (fun g => bad (fun q => g ((gs_bo_1 hb).mpr q.2.2)))
      have gd : 0 ≤ x ∧ x ≤ 9 ∧ gm_hasW σ (σ 29 1) := ⟨by omega, by omega, (gs_bo_1 hb).mp g⟩
      refine np_W_ck ⟨⟨by omega, by omega⟩, by decide⟩ ?_
      unfold f_M_notation_74 f_M_notation_90
      refine np_W_if (fun g12 => ?_) (fun g12 => ?_)
      · rw [np_st_s]
        refine np_W_ck (by decide) ?_
        refine np_W_if (fun _ => ?_) (fun g => absurd (by decide) g)
        refine np_W_ck (by decide) ?_
        refine np_W_if (fun _ => ?_) (fun g => absurd (by decide) g)
        have e1 : np_st σ 29 0 0 29 1 = σ 29 1 := np_st_n σ 29 0 (by decide)
        have e2 : np_st σ 29 0 0 29 2 = σ 29 2 := np_st_n σ 29 0 (by decide)
        refine np_W_mono (gm_101 (σ := np_st σ 29 0 0) (by rw [e1]; exact h0) (by rw [e1]; exact h6) (by rw [e2]; exact h20) (by rw [e2]; omega) (np_st_s _ _ _ _) x 20000 0 _ (by decide) (by rw [e1]; exact h0) (by rw [e1]; omega) ⟨fun k j _ _ => rfl, fun j => by rw [if_neg (by omega)], fun j => by rw [if_neg (by omega)]⟩) (fun o ho => Or.inr (Or.inr ⟨gd, by omega, ?_, ?_⟩))
        · rw [ho.1, e2]
        · obtain ⟨a1, a2, a3, a4, a5, a6, a7, a8, a9, a10⟩ := ho.2
          rw [e2] at a4
          simp only [e1, e2, np_st_o σ 0 0 (show 30 ≠ 29 by decide)] at a7
          simp only [e1, e2, np_st_o σ 0 0 (show 31 ≠ 29 by decide)] at a8
          simp only [e1, e2, np_st_o σ 0 0 (show 32 ≠ 29 by decide)] at a9
          simp only [e2, np_st_o σ 0 0 (show 33 ≠ 29 by decide)] at a10
          refine ⟨fun k j k1 k2 k3 k4 k5 => ?_, a2, a3, a4, a5, fun j j0 j1 j2 j18 => ?_, a7, a8, a9, a10⟩
          · rw [a1 k j k1 k2 k3 k4 k5, np_st_o σ _ _ k1]
          · rw [a6 j j0 j1 j2 j18, np_st_n σ _ _ j0]
      · rw [np_st_s]
        refine np_W_ck (by decide) ?_
        refine np_W_if (fun _ => ?_) (fun g => absurd (by decide) g)
        refine np_W_ck (by decide) ?_
        exact np_W_if (fun g => absurd g (by decide)) (fun _ => np_W_some (Or.inr (Or.inl ⟨gd, by omega, rfl⟩)))
    · have next : ∀ b2 : Int, gs_bo b2 (gm_hasW σ (p + 1)) → np_W (f_M_notation_4 n x b2 (p + 1) σ) (gm_nQ x σ) := fun b2 h2 => ih b2 (p + 1) (by omega) (by omega) (by omega) h2
      unfold f_M_notation_29 f_M_notation_34
      refine np_W_ck (gs_bo_R hb) ?_
      refine np_W_if (fun g => next 1 (Or.inl ⟨rfl, ?_⟩)) (fun g => ?_)
      · obtain ⟨q, q1, q2, q3⟩ := (gs_bo_1 hb).mp g
        exact ⟨q, q1, by omega, q3⟩
      · refine np_W_ck ⟨by omega, by omega⟩ ?_
        refine np_W_ck ⟨hp p p0 (by omega), by decide⟩ ?_
        refine np_W_if (fun g1 => next 0 (Or.inr ⟨rfl, ?_⟩)) (fun g1 => next 1 (Or.inl ⟨rfl, p, p0, by omega, Classical.not_not.mp g1⟩))
        rintro ⟨q, q1, q2, q3⟩
        by_cases e : q = p
        · rw [e] at q3; exact g1 q3
        · exact g ((gs_bo_1 hb).mpr ⟨q, q1, by omega, q3⟩)
