/-! the grammar on both sides, and the calls that change it -/
def gi_len (σ : np_S) (r : Int) : Int := if r < σ 1 4 then σ 5 r else if r = σ 1 4 then σ 1 5 else 0
def gi_part (σ : np_S) (r d : Int) : Prop :=
  (d < gi_len σ r → (-1 ≤ σ 2 (7 * r + d) ∧ σ 2 (7 * r + d) ≤ 10) ∧ (σ 2 (7 * r + d) = -1 ↔ σ 3 (7 * r + d) ≠ -1) ∧ (d + 1 < gi_len σ r → σ 2 (7 * r + d) ≠ -1 → σ 2 (7 * r + (d + 1)) = -1) ∧ (2 ≤ r → σ 3 (7 * r + d) ≠ 0 ∧ σ 3 (7 * r + d) ≠ 40 ∧ σ 3 (7 * r + d) ≠ 41)) ∧
  (gi_len σ r ≤ d → σ 2 (7 * r + d) = -1 ∧ σ 3 (7 * r + d) = -1) ∧ np_R6 (σ 3 (7 * r + d))
def gi_rule (σ : np_S) (r : Int) : Prop := (1 ≤ σ 5 r ∧ σ 5 r ≤ 6) ∧ (0 ≤ σ 4 r ∧ σ 4 r ≤ 10) ∧ ∃ d, 0 ≤ d ∧ d < σ 5 r ∧ σ 2 (7 * r + d) = -1
def gi_two (σ : np_S) : Prop := (σ 5 0 = 3 ∧ σ 4 0 = 10 ∧ σ 3 0 = 40 ∧ σ 2 1 = 0 ∧ σ 3 2 = 41 ∧ σ 2 0 = -1 ∧ σ 2 2 = -1) ∧ (σ 5 1 = 1 ∧ σ 4 1 = 10 ∧ σ 2 7 = -1 ∧ σ 3 7 = 0)
def gi_C (σ : np_S) : Prop := (2 ≤ σ 1 4 ∧ σ 1 4 ≤ 14) ∧ (0 ≤ σ 1 5 ∧ σ 1 5 ≤ 6) ∧ (∀ r d : Int, 0 ≤ r → r < 15 → 0 ≤ d → d < 7 → gi_part σ r d) ∧ (∀ r : Int, 0 ≤ r → r < σ 1 4 → gi_rule σ r) ∧ gi_two σ
def gi_M (σ : np_S) : Prop := σ 29 2 = σ 1 4 - 2 ∧ σ 29 1 = σ 1 5 ∧
  (∀ n p : Int, 0 ≤ n → n < σ 29 2 → 0 ≤ p → p < σ 5 (n + 2) → σ 30 (7 * n + p) = σ 2 (7 * (n + 2) + p) ∧ (σ 2 (7 * (n + 2) + p) = -1 → σ 31 (7 * n + p) = σ 3 (7 * (n + 2) + p))) ∧
  (∀ n : Int, 0 ≤ n → n < σ 29 2 → σ 32 n = σ 5 (n + 2) ∧ σ 33 n = σ 4 (n + 2)) ∧
  (∀ p : Int, 0 ≤ p → p < σ 29 1 → σ 30 (84 + p) = σ 2 (7 * σ 1 4 + p) ∧ (σ 2 (7 * σ 1 4 + p) = -1 → σ 31 (84 + p) = σ 3 (7 * σ 1 4 + p)))
theorem gi_C_eq {σ τ : np_S} (h : gi_C σ) (e1 : τ 1 = σ 1) (e2 : τ 2 = σ 2) (e3 : τ 3 = σ 3) (e4 : τ 4 = σ 4) (e5 : τ 5 = σ 5) : gi_C τ := by
  unfold gi_C gi_part gi_rule gi_two gi_len at *
  simp only [e1, e2, e3, e4, e5]
  exact h
theorem gi_M_eq {σ τ : np_S} (h : gi_M σ) (e1 : τ 1 = σ 1) (e2 : τ 2 = σ 2) (e3 : τ 3 = σ 3) (e4 : τ 4 = σ 4) (e5 : τ 5 = σ 5) (e6 : τ 29 1 = σ 29 1) (e7 : τ 29 2 = σ 29 2) (e30 : τ 30 = σ 30) (e31 : τ 31 = σ 31) (e32 : τ 32 = σ 32) (e33 : τ 33 = σ 33) : gi_M τ := by
  unfold gi_M at *
  simp only [e1, e2, e3, e4, e5, e6, e7, e30, e31, e32, e33]
  exact h
def gc_take (a b : Int) (σ : np_S) : np_S := np_st (np_st (np_st σ 2 (σ 1 4 * 7 + σ 1 5) a) 3 (σ 1 4 * 7 + σ 1 5) b) 1 5 (σ 1 5 + 1)
theorem gc_takePart {σ : np_S} (hC : gi_C σ) (a b : Int) : f_Grammar_takePart a b σ = some (σ 1 5 + 1, gc_take a b σ) := by
  obtain ⟨⟨h1, h2⟩, ⟨h3, h4⟩, _⟩ := hC
  apply np_W_eq.mp
  unfold f_Grammar_takePart f_Grammar_usedDots
  refine np_W_bind (np_W_some ?_)
  dsimp only
  refine np_W_ck ⟨by omega, by omega⟩ ?_
  refine np_W_bind (np_W_some ?_)
  dsimp only
  have e1 : np_st σ 2 (σ 1 4 * 7 + σ 1 5) a 1 = σ 1 := np_st_o σ _ _ (by decide)
  refine np_W_ck (by rw [e1]; omega) ?_
  refine np_W_some ?_
  rw [np_st_s, np_st_o _ _ _ (show 1 ≠ 3 by decide), e1]
  rfl
def gc_beside (σ : np_S) : Prop := 0 < σ 1 5 ∧ σ 2 (σ 1 4 * 7 + σ 1 5 - 1) ≠ -1
theorem gi_C_R {σ : np_S} (hC : gi_C σ) {j : Int} (h0 : 0 ≤ j) (h1 : j < 105) : (-1 ≤ σ 2 j ∧ σ 2 j ≤ 10) ∧ np_R6 (σ 3 j) := by
  have h := hC.2.2.1 (j / 7) (j % 7) (by omega) (by omega) (by omega) (by omega)
  have e : 7 * (j / 7) + j % 7 = j := by omega
  unfold gi_part at h
  rw [e] at h
  refine ⟨?_, h.2.2⟩
  by_cases g : j % 7 < gi_len σ (j / 7)
  · exact (h.1 g).1
  · have := (h.2.1 (by omega)).1
    omega
theorem gc_ends {σ : np_S} (hC : gi_C σ) : np_W (f_Grammar_handEndsInHole σ) (fun o => o.2 = σ ∧ gs_bo o.1 (gc_beside σ)) := by
  have hC2 := hC
  obtain ⟨⟨h1, h2⟩, ⟨h3, h4⟩, _⟩ := hC2
  unfold f_Grammar_handEndsInHole f_Grammar_usedDots f_Grammar_handEndsInHole_31 f_Grammar_handEndsInHole_32
  refine np_W_ck ⟨by omega, by omega⟩ ?_
  refine np_W_if (fun h => np_W_ck (by decide) (np_W_some ⟨rfl, Or.inr ⟨rfl, fun q => by have := q.1; omega⟩⟩)) (fun h => ?_)
  refine np_W_bind (np_W_some ?_)
  dsimp only
  refine np_W_ck ⟨by omega, by omega⟩ ?_
  have hr := (gi_C_R hC (j := σ 1 4 * 7 + σ 1 5 - 1) (by omega) (by omega)).1
  refine np_W_ck ⟨⟨by omega, by omega⟩, by decide⟩ ?_
  refine np_W_if (fun g => np_W_ck (by decide) (np_W_some ⟨rfl, Or.inr ⟨rfl, fun q => q.2 g⟩⟩)) (fun g => ?_)
  exact np_W_ck (by decide) (np_W_some ⟨rfl, Or.inl ⟨rfl, by omega, g⟩⟩)
theorem gc_hole {σ : np_S} (hC : gi_C σ) {x : Int} (hx : np_R x) : np_W (f_N_hole x σ) (fun o => ((x < 0 ∨ 10 < x ∨ gc_beside σ) ∧ o = (1, 0, σ)) ∨ (¬ (x < 0 ∨ 10 < x ∨ gc_beside σ) ∧ σ 1 5 = 6 ∧ o = (2, 0, σ)) ∨ (¬ (x < 0 ∨ 10 < x ∨ gc_beside σ) ∧ σ 1 5 < 6 ∧ o = (0, σ 1 5 + 1, gc_take x (-1) σ))) := by
  have hC2 := hC
  obtain ⟨⟨h1, h2⟩, ⟨h3, h4⟩, _⟩ := hC2
  unfold f_N_hole f_N_hole_10
  refine np_W_ck hx ?_
  refine np_W_if (fun h => np_W_some (Or.inl ⟨Or.inl h, rfl⟩)) (fun h => ?_)
  refine np_W_ck ⟨hx, by decide⟩ ?_
  refine np_W_if (fun h10 => ?_) (fun h10 => np_W_some (Or.inl ⟨Or.inr (Or.inl (by omega)), rfl⟩))
  refine np_W_seq (gc_ends hC) (fun o ho => ?_)
  obtain ⟨v, τ⟩ := o
  obtain ⟨e, hb⟩ := ho
  dsimp only at e hb ⊢
  subst e
  refine np_W_ck (gs_bo_R hb) ?_
  refine np_W_if (fun g => ?_) (fun g => ?_)
  · have nb : ¬ gc_beside τ := fun q => (gs_bo_1 hb).mpr q g
    refine np_W_ck ⟨⟨by omega, by omega⟩, by decide⟩ ?_
    refine np_W_if (fun g6 => ?_) (fun g6 => ?_)
    · rw [gc_takePart hC]
      refine np_W_bind (np_W_some (np_W_some (Or.inr (Or.inr ⟨?_, g6, rfl⟩))))
      rintro (a | a | a)
      · omega
      · omega
      · exact nb a
    · refine np_W_some (Or.inr (Or.inl ⟨?_, by omega, rfl⟩))
      rintro (a | a | a)
      · omega
      · omega
      · exact nb a
  · exact np_W_some (Or.inl ⟨Or.inr (Or.inr ((gs_bo_1 hb).mp g)), rfl⟩)
def gm_take (a b : Int) (σ : np_S) : np_S := np_st (np_st (np_st σ 30 (84 + σ 29 1) a) 31 (84 + σ 29 1) b) 29 1 (σ 29 1 + 1)
theorem gm_part {σ : np_S} (h0 : 0 ≤ σ 29 1) (h6 : σ 29 1 ≤ 6) (a b : Int) : f_M_part a b σ = some (σ 29 1 + 1, gm_take a b σ) := by
  apply np_W_eq.mp
  unfold f_M_part
  refine np_W_ck ⟨by omega, by omega⟩ ?_
  have e1 : np_st σ 30 (84 + σ 29 1) a 29 = σ 29 := np_st_o σ _ _ (by decide)
  refine np_W_ck (by rw [e1]; omega) ?_
  refine np_W_some ?_
  rw [np_st_s, np_st_o _ _ _ (show 29 ≠ 31 by decide), e1]
  rfl
def gm_beside (σ : np_S) : Prop := 0 < σ 29 1 ∧ σ 30 (84 + σ 29 1 - 1) ≠ -1
theorem gm_hole {σ : np_S} (h0 : 0 ≤ σ 29 1) (h6 : σ 29 1 ≤ 6) (hp : ∀ p : Int, 0 ≤ p → p < σ 29 1 → np_R (σ 30 (84 + p))) {x : Int} (hx : np_R x) : np_W (f_M_hole x σ) (fun o => ((x < 0 ∨ 10 < x ∨ gm_beside σ) ∧ o = (0, np_st σ 29 0 1)) ∨ (¬ (x < 0 ∨ 10 < x ∨ gm_beside σ) ∧ σ 29 1 = 6 ∧ o = (0, np_st σ 29 0 2)) ∨ (¬ (x < 0 ∨ 10 < x ∨ gm_beside σ) ∧ σ 29 1 < 6 ∧ o = (σ 29 1 + 1, gm_take x 0 (np_st σ 29 0 0)))) := by
  have h30 : ∀ b : Int, gs_bo b (gm_beside σ) → np_W (f_M_hole_30 x b σ) (fun o => ((x < 0 ∨ 10 < x ∨ gm_beside σ) ∧ o = (0, np_st σ 29 0 1)) ∨ (¬ (x < 0 ∨ 10 < x ∨ gm_beside σ) ∧ σ 29 1 = 6 ∧ o = (0, np_st σ 29 0 2)) ∨ (¬ (x < 0 ∨ 10 < x ∨ gm_beside σ) ∧ σ 29 1 < 6 ∧ o = (σ 29 1 + 1, gm_take x 0 (np_st σ 29 0 0)))) := by
    intro b hb
    have bad : (x < 0 ∨ 10 < x ∨ gm_beside σ) → np_W (f_M_hole_46 x σ) (fun o => ((x < 0 ∨ 10 < x ∨ gm_beside σ) ∧ o = (0, np_st σ 29 0 1)) ∨ (¬ (x < 0 ∨ 10 < x ∨ gm_beside σ) ∧ σ 29 1 = 6 ∧ o = (0, np_st σ 29 0 2)) ∨ (¬ (x < 0 ∨ 10 < x ∨ gm_beside σ) ∧ σ 29 1 < 6 ∧ o = (σ 29 1 + 1, gm_take x 0 (np_st σ 29 0 0)))) := by
      intro hbad
      unfold f_M_hole_46 f_M_hole_64 f_M_hole_84
      rw [np_st_s]
      refine np_W_ck (by decide) ?_
      exact np_W_if (fun g => absurd g (by decide)) (fun _ => np_W_some (Or.inl ⟨hbad, rfl⟩))
    unfold f_M_hole_30
    refine np_W_ck hx ?_
    refine np_W_if (fun h => bad (Or.inl h)) (fun h => ?_)
    refine np_W_ck ⟨hx, by decide⟩ ?_
    refine np_W_if (fun h10 => bad (Or.inr (Or.inl h10))) (fun h10 => ?_)
    refine np_W_ck (gs_bo_R hb) ?_
    refine np_W_if (fun g => ?_) (fun g => bad (Or.inr (Or.inr ((gs_bo_1 hb).mp g))))
    have nb : ¬ (x < 0 ∨ 10 < x ∨ gm_beside σ) := by
      rintro (a | a | a)
      · exact h a
      · exact h10 a
      · exact (gs_bo_1 hb).mpr a g
    refine np_W_ck ⟨⟨by omega, by omega⟩, by decide⟩ ?_
    refine np_W_if (fun g6 => ?_) (fun g6 => ?_)
    · unfold f_M_hole_64 f_M_hole_84
      rw [np_st_s]
      refine np_W_ck (by decide) ?_
      refine np_W_if (fun _ => ?_) (fun g => absurd (by decide) g)
      have e1 : np_st σ 29 0 0 29 1 = σ 29 1 := np_st_n σ 29 0 (by decide)
      rw [gm_part (by rw [e1]; exact h0) (by rw [e1]; exact h6), e1]
      exact np_W_bind (np_W_some (np_W_some (Or.inr (Or.inr ⟨nb, by omega, rfl⟩))))
    · unfold f_M_hole_64 f_M_hole_84
      rw [np_st_s]
      refine np_W_ck (by decide) ?_
      exact np_W_if (fun g => absurd g (by decide)) (fun _ => np_W_some (Or.inr (Or.inl ⟨nb, by omega, rfl⟩)))
  unfold f_M_hole f_M_hole_29
  refine np_W_ck ⟨by omega, by omega⟩ ?_
  refine np_W_if (fun h => h30 0 (Or.inr ⟨rfl, fun q => by have := q.1; omega⟩)) (fun h => ?_)
  refine np_W_ck ⟨by omega, by omega⟩ ?_
  refine np_W_ck ⟨?_, by decide⟩ ?_
  · have := hp (σ 29 1 - 1) (by omega) (by omega)
    rw [show 84 + (σ 29 1 - 1) = 84 + σ 29 1 - 1 by omega] at this
    exact this
  refine np_W_if (fun g => h30 0 (Or.inr ⟨rfl, fun q => q.2 g⟩)) (fun g => h30 1 (Or.inl ⟨rfl, by omega, g⟩))
