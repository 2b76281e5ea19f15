/-! notation on both sides; keys -/
theorem gi_C_drop {σ τ : np_S} (hC : gi_C σ) (e14 : τ 1 4 = σ 1 4) (e15 : τ 1 5 = 0) (e2 : ∀ j, τ 2 j = if σ 1 4 * 7 ≤ j ∧ j < σ 1 4 * 7 + 7 then -1 else σ 2 j) (e3 : ∀ j, τ 3 j = if σ 1 4 * 7 ≤ j ∧ j < σ 1 4 * 7 + 7 then -1 else σ 3 j) (e4 : τ 4 = σ 4) (e5 : τ 5 = σ 5) : gi_C τ := by
  obtain ⟨⟨R1, R2⟩, ⟨H1, H2⟩, hp, hr, h2⟩ := id hC
  refine ⟨by rw [e14]; exact ⟨R1, R2⟩, by rw [e15]; omega, fun r d r0 r15 d0 d7 => ?_, fun r r0 rR => ?_, ?_⟩
  · have hq := hp r d r0 r15 d0 d7
    unfold gi_part at hq ⊢
    by_cases hR : r = σ 1 4
    · subst hR
      have el : gi_len τ (σ 1 4) = 0 := by unfold gi_len; rw [e14, if_neg (by omega), if_pos rfl, e15]
      rw [el]
      simp only [e2, e3]
      rw [if_pos (show σ 1 4 * 7 ≤ 7 * σ 1 4 + d ∧ 7 * σ 1 4 + d < σ 1 4 * 7 + 7 by omega), if_pos (show σ 1 4 * 7 ≤ 7 * σ 1 4 + d ∧ 7 * σ 1 4 + d < σ 1 4 * 7 + 7 by omega)]
      exact ⟨fun g => by omega, fun _ => ⟨rfl, rfl⟩, by decide⟩
    · have el : gi_len τ r = gi_len σ r := by
        unfold gi_len
        rw [e14, e5]
        by_cases g : r < σ 1 4
        · rw [if_pos g, if_pos g]
        · rw [if_neg g, if_neg g, if_neg hR, if_neg hR]
      have l6 := gi_len_le hC r0
      rw [el]
      simp only [e2, e3]
      rw [if_neg (show ¬ (σ 1 4 * 7 ≤ 7 * r + d ∧ 7 * r + d < σ 1 4 * 7 + 7) by omega), if_neg (show ¬ (σ 1 4 * 7 ≤ 7 * r + d ∧ 7 * r + d < σ 1 4 * 7 + 7) by omega)]
      refine ⟨fun g => ?_, hq.2.1, hq.2.2⟩
      have hq1 := hq.1 g
      refine ⟨hq1.1, hq1.2.1, fun g1 g2 => ?_, hq1.2.2.2⟩
      rw [if_neg (by omega)]
      exact hq1.2.2.1 g1 g2
  · rw [e14] at rR
    obtain ⟨a1, a2, d, d0, d1, d2⟩ := hr r r0 rR
    unfold gi_rule
    rw [e4, e5]
    exact ⟨a1, a2, d, d0, d1, by rw [e2, if_neg (by omega)]; exact d2⟩
  · unfold gi_two at h2 ⊢
    simp only [e2, e3, e4, e5]
    rw [if_neg (by omega), if_neg (by omega), if_neg (by omega), if_neg (by omega), if_neg (by omega), if_neg (by omega), if_neg (by omega)]
    exact h2
theorem gi_M_drop {σ ρ : np_S} (hC : gi_C σ) (hM : gi_M σ) (e14 : ρ 1 4 = σ 1 4) (e15 : ρ 1 5 = 0) (e2 : ∀ j, ρ 2 j = if σ 1 4 * 7 ≤ j ∧ j < σ 1 4 * 7 + 7 then -1 else σ 2 j) (e3 : ∀ j, ρ 3 j = if σ 1 4 * 7 ≤ j ∧ j < σ 1 4 * 7 + 7 then -1 else σ 3 j) (e4 : ρ 4 = σ 4) (e5 : ρ 5 = σ 5)
    (e291 : ρ 29 1 = 0) (e292 : ρ 29 2 = σ 29 2) (e30 : ρ 30 = σ 30) (e31 : ρ 31 = σ 31) (e32 : ρ 32 = σ 32) (e33 : ρ 33 = σ 33) : gi_M ρ := by
  obtain ⟨⟨R1, R2⟩, ⟨H1, H2⟩, hp, hr, h2⟩ := id hC
  obtain ⟨m1, m2, m3, m4, m5⟩ := hM
  refine ⟨by rw [e292, e14]; exact m1, by rw [e291, e15], ?_, ?_, ?_⟩
  · intro n p n0 nR p0 pl
    rw [e292] at nR
    rw [e5] at pl
    have l := (hr (n + 2) (by omega) (by omega)).1
    have := m3 n p n0 nR p0 pl
    rw [e2, e3, e30, e31, if_neg (by omega), if_neg (by omega)]
    exact this
  · intro n n0 nR
    rw [e292] at nR
    rw [e32, e33, e4, e5]
    exact m4 n n0 nR
  · intro p p0 pl
    rw [e291] at pl
    omega
theorem gi_C_make {σ τ : np_S} (hC : gi_C σ) {x : Int} (hx : 0 ≤ x ∧ x ≤ 9) (hw : gc_hasW σ 0) (h14 : σ 1 4 < 14) (e14 : τ 1 4 = σ 1 4 + 1) (e15 : τ 1 5 = 0) (e2 : τ 2 = σ 2) (e3 : τ 3 = σ 3) (e4 : ∀ j, τ 4 j = if j = σ 1 4 then x else σ 4 j) (e5 : ∀ j, τ 5 j = if j = σ 1 4 then σ 1 5 else σ 5 j) : gi_C τ := by
  obtain ⟨⟨R1, R2⟩, ⟨H1, H2⟩, hp, hr, h2⟩ := id hC
  refine ⟨by rw [e14]; omega, by rw [e15]; omega, fun r d r0 r15 d0 d7 => ?_, fun r r0 rR => ?_, ?_⟩
  · have hq := hp r d r0 r15 d0 d7
    have el : gi_len τ r = gi_len σ r := by
      unfold gi_len
      rw [e14, e15, e5]
      by_cases g : r < σ 1 4
      · rw [if_pos (by omega), if_pos g, if_neg (by omega)]
      · by_cases g2 : r = σ 1 4
        · rw [if_pos (by omega), if_pos g2, if_neg g, if_pos g2]
        · rw [if_neg (by omega), if_neg g, if_neg g2]
          split <;> rfl
    unfold gi_part at hq ⊢
    rw [el, e2, e3]
    exact hq
  · rw [e14] at rR
    unfold gi_rule
    rw [e2, e4, e5]
    by_cases g : r = σ 1 4
    · rw [if_pos g, if_pos g]
      obtain ⟨q, q0, q1, q2⟩ := hw
      refine ⟨by omega, by omega, q, q0, q1, ?_⟩
      have hq := hp (σ 1 4) q (by omega) (by omega) q0 (by omega)
      unfold gi_part gi_len at hq
      rw [if_neg (by omega), if_pos rfl] at hq
      rw [g]
      refine (hq.1 q1).2.1.mpr ?_
      rw [show 7 * σ 1 4 + q = σ 1 4 * 7 + q by omega]; exact q2
    · rw [if_neg g, if_neg g]
      exact hr r r0 (by omega)
  · unfold gi_two at h2 ⊢
    simp only [e2, e3, e4, e5]
    rw [if_neg (by omega), if_neg (by omega), if_neg (by omega), if_neg (by omega)]
    exact h2
theorem gi_M_made {σ τ ρ : np_S} (hC : gi_C σ) (hM : gi_M σ) {x : Int} (h14 : σ 1 4 < 14) (hτ : gl_28 τ (gc_make x σ)) (h : gm_made x τ ρ) : ρ 1 4 = σ 1 4 + 1 ∧ ρ 1 5 = 0 ∧ ρ 2 = σ 2 ∧ ρ 3 = σ 3 ∧ (∀ j, ρ 4 j = if j = σ 1 4 then x else σ 4 j) ∧ (∀ j, ρ 5 j = if j = σ 1 4 then σ 1 5 else σ 5 j) ∧ gi_M ρ := by
  obtain ⟨⟨R1, R2⟩, ⟨H1, H2⟩, hp, hr, h2⟩ := id hC
  obtain ⟨m1, m2, m3, m4, m5⟩ := hM
  obtain ⟨a1, a2, a3, a4, a5, a6, a7, a8, a9, a10⟩ := h
  have f14 : ρ 1 4 = σ 1 4 + 1 := by
    rw [a1 1 4 (by decide) (by decide) (by decide) (by decide) (by decide), hτ 1 (by decide)]; unfold gc_make
    rw [np_st_n _ _ _ (by decide), np_st_s]
  have f15 : ρ 1 5 = 0 := by
    rw [a1 1 5 (by decide) (by decide) (by decide) (by decide) (by decide), hτ 1 (by decide)]; unfold gc_make
    rw [np_st_s]
  have f2 : ρ 2 = σ 2 := by
    funext j
    rw [a1 2 j (by decide) (by decide) (by decide) (by decide) (by decide), hτ 2 (by decide)]; unfold gc_make
    rw [np_st_o _ _ _ (by decide), np_st_o _ _ _ (by decide), np_st_o _ _ _ (by decide), np_st_o _ _ _ (by decide), np_st_o _ _ _ (by decide)]
  have f3 : ρ 3 = σ 3 := by
    funext j
    rw [a1 3 j (by decide) (by decide) (by decide) (by decide) (by decide), hτ 3 (by decide)]; unfold gc_make
    rw [np_st_o _ _ _ (by decide), np_st_o _ _ _ (by decide), np_st_o _ _ _ (by decide), np_st_o _ _ _ (by decide), np_st_o _ _ _ (by decide)]
  have f4 : ∀ j, ρ 4 j = if j = σ 1 4 then x else σ 4 j := by
    intro j
    rw [a1 4 j (by decide) (by decide) (by decide) (by decide) (by decide), hτ 4 (by decide)]; unfold gc_make
    rw [np_st_o _ _ _ (by decide), np_st_o _ _ _ (by decide), np_st_o _ _ _ (by decide), np_st_rd, if_pos rfl, np_st_o _ _ _ (by decide)]
  have f5 : ∀ j, ρ 5 j = if j = σ 1 4 then σ 1 5 else σ 5 j := by
    intro j
    rw [a1 5 j (by decide) (by decide) (by decide) (by decide) (by decide), hτ 5 (by decide)]; unfold gc_make
    rw [np_st_o _ _ _ (by decide), np_st_o _ _ _ (by decide), np_st_rd, if_pos rfl, np_st_o _ _ _ (by decide), np_st_o _ _ _ (by decide)]
  have t : ∀ k, k ≠ 1 → k ≠ 4 → k ≠ 5 → k ≠ 15 → k ≠ 28 → τ k = σ k := by
    intro k k1 k2 k3 k4 k5
    rw [hτ k k5]; unfold gc_make
    rw [np_st_o _ _ _ k1, np_st_o _ _ _ k1, np_st_o _ _ _ k3, np_st_o _ _ _ k2, np_st_o _ _ _ k4]
  have t29 := t 29 (by decide) (by decide) (by decide) (by decide) (by decide)
  have t30 := t 30 (by decide) (by decide) (by decide) (by decide) (by decide)
  have t31 := t 31 (by decide) (by decide) (by decide) (by decide) (by decide)
  have t32 := t 32 (by decide) (by decide) (by decide) (by decide) (by decide)
  have t33 := t 33 (by decide) (by decide) (by decide) (by decide) (by decide)
  rw [t29] at a4
  simp only [t29, t30] at a7
  simp only [t29, t31] at a8
  simp only [t29, t32] at a9
  simp only [t29, t33] at a10
  refine ⟨f14, f15, f2, f3, f4, f5, by rw [a4, f14]; omega, by rw [a3, f15], ?_, ?_, ?_⟩
  · intro n p n0 nR p0 pl
    rw [a4] at nR
    rw [f5] at pl
    rw [a7, a8, f2, f3]
    by_cases g : n = σ 29 2
    · rw [if_pos (by omega)] at pl
      rw [if_pos (by omega), if_pos (by omega)]
      have := m5 p p0 (by omega)
      rw [show 84 + (7 * n + p - 7 * σ 29 2) = 84 + p by omega, show 7 * (n + 2) + p = 7 * σ 1 4 + p by omega]
      exact this
    · rw [if_neg (by omega)] at pl
      have l := (hr (n + 2) (by omega) (by omega)).1
      rw [if_neg (by omega), if_neg (by omega)]
      exact m3 n p n0 (by omega) p0 pl
  · intro n n0 nR
    rw [a4] at nR
    rw [a9, a10, f4, f5]
    by_cases g : n = σ 29 2
    · rw [if_pos g, if_pos g, if_pos (by omega), if_pos (by omega)]
      exact ⟨m2, rfl⟩
    · rw [if_neg g, if_neg g, if_neg (by omega), if_neg (by omega)]
      exact m4 n n0 (by omega)
  · intro p p0 pl
    rw [a3] at pl
    omega
theorem gi_hasW {σ τ : np_S} (hC : gi_C σ) (hM : gi_M σ) (h29 : τ 29 = σ 29) (h30 : τ 30 = σ 30) : gm_hasW τ (τ 29 1) ↔ gc_hasW σ 0 := by
  obtain ⟨⟨R1, R2⟩, ⟨H1, H2⟩, hp, hr, h2⟩ := id hC
  unfold gm_hasW gc_hasW
  rw [h29, h30, hM.2.1]
  have key : ∀ q, 0 ≤ q → q < σ 1 5 → (σ 30 (84 + q) = -1 ↔ σ 3 (σ 1 4 * 7 + q) ≠ -1) := by
    intro q q0 q1
    rw [(hM.2.2.2.2 q q0 (by rw [hM.2.1]; exact q1)).1]
    have hq := hp (σ 1 4) q (by omega) (by omega) q0 (by omega)
    unfold gi_part gi_len at hq
    rw [if_neg (by omega), if_pos rfl] at hq
    rw [show σ 1 4 * 7 + q = 7 * σ 1 4 + q by omega]
    exact (hq.1 q1).2.1
  constructor
  · rintro ⟨q, q0, q1, q2⟩
    exact ⟨q, q0, q1, (key q q0 q1).mp q2⟩
  · rintro ⟨q, q0, q1, q2⟩
    exact ⟨q, q0, q1, (key q q0 q1).mpr q2⟩
/-- what a notation that is taken leaves as it was -/
def gl_nf (σ ρ : np_S) : Prop := (∀ k, k ∉ [1, 4, 5, 15, 28, 29, 30, 31, 32, 33] → ρ k = σ k) ∧ (∀ j, j ≠ 0 → j ≠ 1 → j ≠ 2 → j ≠ 18 → ρ 29 j = σ 29 j) ∧ ρ 29 18 = 0 ∧ ρ 15 2 = 0
theorem gl_notation {σ : np_S} (hC : gi_C σ) (hM : gi_M σ) {x : Int} (hx : np_R x) : np_W (f_N_notation x σ) (fun o => (o.1 = 0 ∨ o.1 = 1 ∨ o.1 = 2) ∧ np_R o.2.1 ∧ ∀ τ, gl_28 τ o.2.2 → np_W (f_M_notation x τ) (fun q => gl_T o.1 o.2.1 q ∧ gi_C q.2 ∧ gi_M q.2 ∧ (gl_fr σ q.2 ∨ gl_nf σ q.2) ∧ q.2 28 = τ 28)) := by
  obtain ⟨⟨R1, R2⟩, ⟨H1, H2⟩, _⟩ := id hC
  refine np_W_mono (gc_notation hC hx) (fun o ho => ?_)
  have hr := gi_handR hC hM
  have m1 := hM.1
  have m2 := hM.2.1
  have run : ∀ τ : np_S, τ 29 = σ 29 → τ 30 = σ 30 → np_W (f_M_notation x τ) (gm_nQ x τ) := by
    intro τ t29 t30
    exact gm_notation (σ := τ) (by rw [t29]; omega) (by rw [t29]; omega) (by rw [t29]; omega) (by rw [t29]; omega) (by rw [t29, t30]; exact hr) hx 20000 0 0 (by decide) (by rw [t29]; omega) (by rw [t29]; omega) (Or.inr ⟨rfl, fun ⟨q, q0, q1, _⟩ => by omega⟩)
  rcases ho with ⟨g, rfl⟩ | ⟨g, g6, rfl⟩ | ⟨g, g6, rfl⟩
  · refine ⟨Or.inr (Or.inl rfl), by dsimp only; decide, fun τ hτ => ?_⟩
    dsimp only at hτ
    have tk : ∀ k, k ≠ 1 → k ≠ 2 → k ≠ 3 → k ≠ 28 → τ k = σ k := by
      intro k k1 k2 k3 k4
      rw [hτ k k4]; unfold gc_drop
      rw [np_st_o _ _ _ k1, gf_fill_o _ _ _ _ k3, gf_fill_o _ _ _ _ k2]
    have t29 := tk 29 (by decide) (by decide) (by decide) (by decide)
    have t30 := tk 30 (by decide) (by decide) (by decide) (by decide)
    refine np_W_mono (run τ t29 t30) (fun q hq => ?_)
    unfold gm_nQ at hq
    rw [gi_hasW hC hM t29 t30] at hq
    rcases hq with ⟨k, rfl⟩ | ⟨k, _⟩ | ⟨k, _⟩
    · have r1 : ∀ k, k ≠ 29 → np_st (np_st τ 29 0 1) 29 1 0 k = τ k := fun k k1 => by rw [np_st_o _ _ _ k1, np_st_o _ _ _ k1]
      have e14 : np_st (np_st τ 29 0 1) 29 1 0 1 4 = σ 1 4 := by
        rw [r1 1 (by decide), hτ 1 (by decide)]; unfold gc_drop
        rw [np_st_n _ _ _ (by decide), gf_fill_o _ _ _ _ (by decide), gf_fill_o _ _ _ _ (by decide)]
      have e15 : np_st (np_st τ 29 0 1) 29 1 0 1 5 = 0 := by
        rw [r1 1 (by decide), hτ 1 (by decide)]; unfold gc_drop
        rw [np_st_s]
      have e2 : ∀ j, np_st (np_st τ 29 0 1) 29 1 0 2 j = if σ 1 4 * 7 ≤ j ∧ j < σ 1 4 * 7 + 7 then -1 else σ 2 j := by
        intro j
        rw [r1 2 (by decide), hτ 2 (by decide)]; unfold gc_drop
        rw [np_st_o _ _ _ (by decide), gf_fill_o _ _ _ _ (by decide)]
        unfold gf_fill
        by_cases z : σ 1 4 * 7 ≤ j ∧ j < σ 1 4 * 7 + 7
        · rw [if_pos z, if_pos ⟨rfl, z⟩]
        · rw [if_neg z, if_neg (fun q => z q.2)]
      have e3 : ∀ j, np_st (np_st τ 29 0 1) 29 1 0 3 j = if σ 1 4 * 7 ≤ j ∧ j < σ 1 4 * 7 + 7 then -1 else σ 3 j := by
        intro j
        rw [r1 3 (by decide), hτ 3 (by decide)]; unfold gc_drop
        rw [np_st_o _ _ _ (by decide)]
        unfold gf_fill
        by_cases z : σ 1 4 * 7 ≤ j ∧ j < σ 1 4 * 7 + 7
        · rw [if_pos z, if_pos ⟨rfl, z⟩]
        · rw [if_neg z, if_neg (fun q => z q.2), if_neg (by omega)]
      have ek : ∀ k, k ≠ 1 → k ≠ 2 → k ≠ 3 → k ≠ 28 → k ≠ 29 → np_st (np_st τ 29 0 1) 29 1 0 k = σ k := fun k k1 k2 k3 k4 k5 => by rw [r1 k k5, tk k k1 k2 k3 k4]
      refine ⟨⟨by dsimp only; decide, by dsimp only; rw [np_st_n _ _ _ (by decide), np_st_s]; rfl, fun z => absurd z (by dsimp only; decide)⟩, gi_C_drop hC e14 e15 e2 e3 (ek 4 (by decide) (by decide) (by decide) (by decide) (by decide)) (ek 5 (by decide) (by decide) (by decide) (by decide) (by decide)), gi_M_drop hC hM e14 e15 e2 e3 (ek 4 (by decide) (by decide) (by decide) (by decide) (by decide)) (ek 5 (by decide) (by decide) (by decide) (by decide) (by decide)) (by dsimp only; rw [np_st_s]) (by dsimp only; rw [np_st_n _ _ _ (by decide), np_st_n _ _ _ (by decide), t29]) (ek 30 (by decide) (by decide) (by decide) (by decide) (by decide)) (ek 31 (by decide) (by decide) (by decide) (by decide) (by decide)) (ek 32 (by decide) (by decide) (by decide) (by decide) (by decide)) (ek 33 (by decide) (by decide) (by decide) (by decide) (by decide)), Or.inl ⟨?_, ?_, e14, ?_⟩, r1 28 (by decide)⟩
      · intro k hk
        simp only [List.mem_cons, List.not_mem_nil, or_false, not_or] at hk
        exact ek k hk.1 hk.2.1 hk.2.2.1 hk.2.2.2.1 hk.2.2.2.2.1
      · intro j j0 j1
        dsimp only
        rw [np_st_n _ _ _ j1, np_st_n _ _ _ j0, t29]
      · intro j hj
        dsimp only
        rw [e2, e3, if_neg (by omega), if_neg (by omega)]
        exact ⟨rfl, rfl⟩
    · exact absurd k g
    · exact absurd k g
  · refine ⟨Or.inr (Or.inr rfl), by dsimp only; decide, fun τ hτ => ?_⟩
    dsimp only at hτ
    have t29 : τ 29 = σ 29 := hτ 29 (by decide)
    have t30 : τ 30 = σ 30 := hτ 30 (by decide)
    refine np_W_mono (run τ t29 t30) (fun q hq => ?_)
    unfold gm_nQ at hq
    rw [gi_hasW hC hM t29 t30] at hq
    rcases hq with ⟨k, rfl⟩ | ⟨k, k6, rfl⟩ | ⟨k, k6, _⟩
    · exact absurd g k
    · obtain ⟨z1, z2, z3⟩ := gl_no hC hM hτ 2
      exact ⟨⟨by dsimp only; decide, by dsimp only; rw [np_st_s]; rfl, fun z => absurd z (by dsimp only; decide)⟩, z1, z2, Or.inl z3, by dsimp only; rw [np_st_o _ _ _ (show 28 ≠ 29 by decide)]⟩
    · rw [t29] at k6; omega
  · refine ⟨Or.inl rfl, ⟨by dsimp only; omega, by dsimp only; omega⟩, fun τ hτ => ?_⟩
    dsimp only at hτ
    have tk : ∀ k, k ≠ 1 → k ≠ 4 → k ≠ 5 → k ≠ 15 → k ≠ 28 → τ k = σ k := by
      intro k k1 k2 k3 k4 k5
      rw [hτ k k5]; unfold gc_make
      rw [np_st_o _ _ _ k1, np_st_o _ _ _ k1, np_st_o _ _ _ k3, np_st_o _ _ _ k2, np_st_o _ _ _ k4]
    have t29 := tk 29 (by decide) (by decide) (by decide) (by decide) (by decide)
    have t30 := tk 30 (by decide) (by decide) (by decide) (by decide) (by decide)
    refine np_W_mono (run τ t29 t30) (fun q hq => ?_)
    unfold gm_nQ at hq
    rw [gi_hasW hC hM t29 t30] at hq
    rcases hq with ⟨k, rfl⟩ | ⟨k, k6, rfl⟩ | ⟨k, k6, k7, k8⟩
    · exact absurd g k
    · rw [t29] at k6; omega
    · obtain ⟨f14, f15, f2, f3, f4, f5, fM⟩ := gi_M_made hC hM g6 hτ k8
      rw [t29] at k7
      refine ⟨⟨by rw [k7]; exact ⟨by omega, by omega⟩, k8.2.1, fun _ => by dsimp only; rw [k7]; omega⟩, gi_C_make hC ⟨g.1, g.2.1⟩ g.2.2 g6 f14 f15 f2 f3 f4 f5, fM, Or.inr ⟨?_, ?_, k8.2.2.2.2.1, ?_⟩, funext (fun j => k8.1 28 j (by decide) (by decide) (by decide) (by decide) (by decide))⟩
      · intro k hk
        simp only [List.mem_cons, List.not_mem_nil, or_false, not_or] at hk
        funext j
        rw [k8.1 k j hk.2.2.2.2.2.1 hk.2.2.2.2.2.2.1 hk.2.2.2.2.2.2.2.1 hk.2.2.2.2.2.2.2.2.1 hk.2.2.2.2.2.2.2.2.2, tk k hk.1 hk.2.1 hk.2.2.1 hk.2.2.2.1 hk.2.2.2.2.1]
      · intro j j0 j1 j2 j18
        rw [k8.2.2.2.2.2.1 j j0 j1 j2 j18, t29]
      · rw [k8.1 15 2 (by decide) (by decide) (by decide) (by decide) (by decide), hτ 15 (by decide)]; unfold gc_make
        rw [np_st_o _ _ _ (by decide), np_st_o _ _ _ (by decide), np_st_o _ _ _ (by decide), np_st_o _ _ _ (by decide), np_st_s]
/-- w is a word of a notation -/
def gk_key (σ : np_S) (w : Int) : Prop := ∃ r d : Int, 2 ≤ r ∧ r < σ 1 4 ∧ 0 ≤ d ∧ d < σ 5 r ∧ σ 2 (7 * r + d) = -1 ∧ σ 3 (7 * r + d) = w
theorem gk_hasKey {σ : np_S} (hC : gi_C σ) {w : Int} (hw : np_R6 w) : ∀ (n : Nat) (j : Int), 14 ≤ j → j ≤ 7 * σ 1 4 → 7 * σ 1 4 - j < n → np_W (f_Grammar_hasKey_3 n w j σ) (fun o => o.2 = σ ∧ gs_bo o.1 (∃ i, j ≤ i ∧ i < 7 * σ 1 4 ∧ σ 3 i = w)) := by
  obtain ⟨⟨R1, R2⟩, ⟨H1, H2⟩, _⟩ := id hC
  intro n
  induction n with
  | zero => intro j _ _ h; omega
  | succ n ih =>
    intro j j0 j1 hn
    show np_W (f_Grammar_hasKey_3_b _ w j σ) _
    unfold f_Grammar_hasKey_3_b f_Grammar_usedDots
    refine np_W_bind (np_W_some ?_)
    dsimp only
    refine np_W_ck ⟨⟨by omega, by omega⟩, ⟨by omega, by omega⟩⟩ ?_
    refine np_W_if (fun h => np_W_ck (by decide) (np_W_some ⟨rfl, Or.inr ⟨rfl, fun ⟨q, q1, q2, _⟩ => by omega⟩⟩)) (fun h => ?_)
    refine np_W_ck ⟨by omega, by omega⟩ ?_
    refine np_W_ck ⟨(gi_C_R hC (by omega) (by omega)).2, hw⟩ ?_
    refine np_W_ck (np_cmpR _ _) ?_
    refine np_W_if (fun g => ?_) (fun g => ?_)
    · refine np_W_mono (ih (j + 1) (by omega) (by omega) (by omega)) (fun o ho => ⟨ho.1, gs_bo_iff ho.2 ⟨fun ⟨q, q1, q2, q3⟩ => ⟨q, by omega, q2, q3⟩, fun ⟨q, q1, q2, q3⟩ => ⟨q, ?_, q2, q3⟩⟩⟩)
      by_cases e : q = j
      · rw [e] at q3; exact absurd (np_cmp0.mpr q3) g
      · omega
    · exact np_W_ck (by decide) (np_W_some ⟨rfl, Or.inl ⟨rfl, j, by omega, by omega, np_cmp0.mp (Classical.not_not.mp g)⟩⟩)
theorem gk_hk {σ : np_S} (hC : gi_C σ) {w : Int} (hw : np_R6 w) (hw1 : w ≠ -1) : np_W (f_Grammar_hasKey w σ) (fun o => o.2 = σ ∧ gs_bo o.1 (gk_key σ w)) := by
  obtain ⟨⟨R1, R2⟩, ⟨H1, H2⟩, hp, hr, _⟩ := id hC
  refine np_W_mono (gk_hasKey hC hw 20000 14 (by decide) (by omega) (by omega)) (fun o ho => ⟨ho.1, gs_bo_iff ho.2 ⟨?_, ?_⟩⟩)
  · rintro ⟨i, i0, i1, i2⟩
    have hq := hp (i / 7) (i % 7) (by omega) (by omega) (by omega) (by omega)
    unfold gi_part gi_len at hq
    rw [if_pos (by omega), show 7 * (i / 7) + i % 7 = i by omega] at hq
    have hlt : i % 7 < σ 5 (i / 7) := by
      refine Classical.byContradiction (fun z => ?_)
      have := (hq.2.1 (by omega)).2
      exact hw1 (by rw [← i2]; exact this)
    refine ⟨i / 7, i % 7, by omega, by omega, by omega, hlt, ?_, ?_⟩
    · rw [show 7 * (i / 7) + i % 7 = i by omega]
      exact (hq.1 hlt).2.1.mpr (by rw [i2]; exact hw1)
    · rw [show 7 * (i / 7) + i % 7 = i by omega]; exact i2
  · rintro ⟨r, d, r2, rR, d0, dl, _, hd⟩
    have := (hr r (by omega) rR).1
    exact ⟨7 * r + d, by omega, by omega, hd⟩
theorem gk_17 {σ : np_S} (hC : gi_C σ) (hM : gi_M σ) {w : Int} (hw : np_R6 w) {k5 : Int → Int → Int → np_S → Option np_O} {Q : np_O → Prop} {P : Prop} {n : Int} (n0 : 0 ≤ n) (n1 : n < σ 29 2) (hk : ∀ b, gs_bo b (P ∨ ∃ p, 0 ≤ p ∧ p < σ 5 (n + 2) ∧ σ 2 (7 * (n + 2) + p) = -1 ∧ σ 3 (7 * (n + 2) + p) = w) → np_W (k5 w b (n + 1) σ) Q) : ∀ (f : Nat) (b p : Int), 0 ≤ p → p ≤ σ 5 (n + 2) → σ 5 (n + 2) - p < f → gs_bo b (P ∨ ∃ q, 0 ≤ q ∧ q < p ∧ σ 2 (7 * (n + 2) + q) = -1 ∧ σ 3 (7 * (n + 2) + q) = w) → np_W (f_M_isKeyWord_17 k5 f w b n p σ) Q := by
  obtain ⟨⟨R1, R2⟩, ⟨H1, H2⟩, hp, hr, _⟩ := id hC
  obtain ⟨m1, m2, m3, m4, m5⟩ := hM
  have hl := (hr (n + 2) (by omega) (by omega)).1
  intro f
  induction f with
  | zero => intro b p _ _ h; omega
  | succ f ih =>
    intro b p p0 p1 hf hb
    show np_W (f_M_isKeyWord_17_b k5 _ w b n p σ) _
    unfold f_M_isKeyWord_17_b f_M_isKeyWord_68 f_M_isKeyWord_72 f_M_isKeyWord_73
    have e32 := (m4 n n0 n1).1
    refine np_W_ck ⟨by omega, by omega⟩ ?_
    refine np_W_ck ⟨⟨by omega, by omega⟩, ⟨by omega, by omega⟩⟩ ?_
    refine np_W_if (fun h => ?_) (fun h => ?_)
    · have ep : p = σ 5 (n + 2) := by omega
      rw [ep] at hb
      exact hk b hb
    · have next : ∀ b2 : Int, gs_bo b2 (P ∨ ∃ q, 0 ≤ q ∧ q < p + 1 ∧ σ 2 (7 * (n + 2) + q) = -1 ∧ σ 3 (7 * (n + 2) + q) = w) → np_W (f_M_isKeyWord_17 k5 f w b2 n (p + 1) σ) Q := fun b2 h2 => ih b2 (p + 1) (by omega) (by omega) (by omega) h2
      refine np_W_ck (gs_bo_R hb) ?_
      refine np_W_if (fun g => next 1 (Or.inl ⟨rfl, ?_⟩)) (fun g => ?_)
      · rcases (gs_bo_1 hb).mp g with z | ⟨q, q0, q1, q2⟩
        · exact Or.inl z
        · exact Or.inr ⟨q, q0, by omega, q2⟩
      · have nb : ¬ (P ∨ ∃ q, 0 ≤ q ∧ q < p ∧ σ 2 (7 * (n + 2) + q) = -1 ∧ σ 3 (7 * (n + 2) + q) = w) := fun z => (gs_bo_1 hb).mpr z (Classical.not_not.mp g)
        have no : ¬ (σ 2 (7 * (n + 2) + p) = -1 ∧ σ 3 (7 * (n + 2) + p) = w) → gs_bo 0 (P ∨ ∃ q, 0 ≤ q ∧ q < p + 1 ∧ σ 2 (7 * (n + 2) + q) = -1 ∧ σ 3 (7 * (n + 2) + q) = w) := by
          intro z
          refine Or.inr ⟨rfl, fun y => ?_⟩
          rcases y with y | ⟨q, q0, q1, q2⟩
          · exact nb (Or.inl y)
          · by_cases e : q = p
            · rw [e] at q2; exact z q2
            · exact nb (Or.inr ⟨q, q0, by omega, q2⟩)
        obtain ⟨e30, e31⟩ := m3 n p n0 n1 p0 (by omega)
        have hr2 := (gi_C_R hC (j := 7 * (n + 2) + p) (by omega) (by omega))
        refine np_W_ck ⟨by omega, by omega⟩ ?_
        refine np_W_ck ⟨by rw [e30]; exact ⟨by omega, by omega⟩, by decide⟩ ?_
        refine np_W_if (fun g1 => next 0 (no (fun z => g1 (by rw [e30]; exact z.1)))) (fun g1 => ?_)
        have g1 : σ 2 (7 * (n + 2) + p) = -1 := by rw [← e30]; exact Classical.not_not.mp g1
        refine np_W_ck ⟨by omega, by omega⟩ ?_
        refine np_W_ck ⟨by rw [e31 g1]; exact hr2.2, hw⟩ ?_
        refine np_W_ck (np_cmpR _ _) ?_
        refine np_W_if (fun g2 => next 0 (no (fun z => g2 (by rw [e31 g1]; exact np_cmp0.mpr z.2)))) (fun g2 => next 1 (Or.inl ⟨rfl, Or.inr ⟨p, p0, by omega, g1, ?_⟩⟩))
        rw [← e31 g1]; exact np_cmp0.mp (Classical.not_not.mp g2)
theorem gk_isKey {σ : np_S} (hC : gi_C σ) (hM : gi_M σ) {w : Int} (hw : np_R6 w) : np_W (f_M_isKeyWord w σ) (fun o => o.2 = σ ∧ gs_bo o.1 (gk_key σ w)) := by
  obtain ⟨⟨R1, R2⟩, ⟨H1, H2⟩, hp, hr, _⟩ := id hC
  have m1 := hM.1
  have loop : ∀ (f : Nat) (b n : Int), 0 ≤ n → n ≤ σ 29 2 → σ 29 2 - n < f → gs_bo b (∃ r d : Int, 2 ≤ r ∧ r < n + 2 ∧ 0 ≤ d ∧ d < σ 5 r ∧ σ 2 (7 * r + d) = -1 ∧ σ 3 (7 * r + d) = w) → np_W (f_M_isKeyWord_5 f w b n σ) (fun o => o.2 = σ ∧ gs_bo o.1 (gk_key σ w)) := by
    intro f
    induction f with
    | zero => intro b n _ _ h; omega
    | succ f ih =>
      intro b n n0 n1 hf hb
      show np_W (f_M_isKeyWord_5_b _ w b n σ) _
      unfold f_M_isKeyWord_5_b
      refine np_W_ck ⟨⟨by omega, by omega⟩, ⟨by omega, by omega⟩⟩ ?_
      refine np_W_if (fun h => np_W_ck (gs_bo_01 hb) (np_W_some ⟨rfl, ?_⟩)) (fun h => ?_)
      · have en : n + 2 = σ 1 4 := by omega
        rw [en] at hb
        exact hb
      · have hl := (hr (n + 2) (by omega) (by omega)).1
        refine gk_17 hC hM hw n0 (by omega) (P := ∃ r d : Int, 2 ≤ r ∧ r < n + 2 ∧ 0 ≤ d ∧ d < σ 5 r ∧ σ 2 (7 * r + d) = -1 ∧ σ 3 (7 * r + d) = w) (fun b2 h2 => ih b2 (n + 1) (by omega) (by omega) (by omega) (gs_bo_iff h2 ⟨?_, ?_⟩)) 20000 b 0 (by decide) (by omega) (by omega) (gs_bo_iff hb ⟨Or.inl, fun z => ?_⟩)
        · rintro (⟨r, d, a1, a2, a3⟩ | ⟨p, p0, p1, p2⟩)
          · exact ⟨r, d, a1, by omega, a3⟩
          · exact ⟨n + 2, p, by omega, by omega, p0, p1, p2⟩
        · rintro ⟨r, d, a1, a2, a3, a4⟩
          by_cases e : r = n + 2
          · rw [e] at a4; exact Or.inr ⟨d, a3, a4⟩
          · exact Or.inl ⟨r, d, a1, by omega, a3, a4⟩
        · rcases z with z | ⟨p, p0, p1, _⟩
          · exact z
          · omega
  refine loop 20000 0 0 (by decide) (by omega) (by omega) (Or.inr ⟨rfl, ?_⟩)
  rintro ⟨r, d, a1, a2, _⟩
  omega
