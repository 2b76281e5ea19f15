/-! hole, word, notation: both sides together -/
def gl_28 (τ σ : np_S) : Prop := ∀ k, k ≠ 28 → τ k = σ k
theorem gi_len_le {σ : np_S} (hC : gi_C σ) {r : Int} (h0 : 0 ≤ r) : gi_len σ r ≤ 6 := by
  unfold gi_len
  split
  · exact (hC.2.2.2.1 r h0 (by assumption)).1.2
  · split
    · exact hC.2.1.2
    · decide
theorem gi_C_take {σ τ : np_S} (hC : gi_C σ) {a b : Int} (h6 : σ 1 5 < 6) (ha : -1 ≤ a ∧ a ≤ 10) (hab : a = -1 ↔ b ≠ -1) (hb : np_R6 b) (hb2 : b ≠ 0 ∧ b ≠ 40 ∧ b ≠ 41) (hbes : a ≠ -1 → ¬ gc_beside σ)
    (e14 : τ 1 4 = σ 1 4) (e15 : τ 1 5 = σ 1 5 + 1) (e2 : ∀ j, τ 2 j = if j = σ 1 4 * 7 + σ 1 5 then a else σ 2 j) (e3 : ∀ j, τ 3 j = if j = σ 1 4 * 7 + σ 1 5 then b else σ 3 j) (e4 : τ 4 = σ 4) (e5 : τ 5 = σ 5) : gi_C τ := by
  obtain ⟨⟨R1, R2⟩, ⟨H1, H2⟩, hp, hr, h2⟩ := id hC
  refine ⟨by rw [e14]; exact ⟨R1, R2⟩, by rw [e15]; omega, fun r d r0 r15 d0 d7 => ?_, fun r r0 rR => ?_, ?_⟩
  · have hq := hp r d r0 r15 d0 d7
    unfold gi_part at hq ⊢
    by_cases hR : r = σ 1 4
    · subst hR
      have el : gi_len τ (σ 1 4) = σ 1 5 + 1 := by unfold gi_len; rw [e14, if_neg (by omega), if_pos rfl, e15]
      have el0 : gi_len σ (σ 1 4) = σ 1 5 := by unfold gi_len; rw [if_neg (by omega), if_pos rfl]
      rw [el]
      rw [el0] at hq
      simp only [e2, e3]
      by_cases hd : d = σ 1 5
      · rw [if_pos (show 7 * σ 1 4 + d = σ 1 4 * 7 + σ 1 5 by omega), if_pos (show 7 * σ 1 4 + d = σ 1 4 * 7 + σ 1 5 by omega)]
        exact ⟨fun _ => ⟨ha, hab, fun g => by omega, fun _ => hb2⟩, fun g => by omega, hb⟩
      · rw [if_neg (show ¬ (7 * σ 1 4 + d = σ 1 4 * 7 + σ 1 5) by omega), if_neg (show ¬ (7 * σ 1 4 + d = σ 1 4 * 7 + σ 1 5) by omega)]
        refine ⟨fun g => ?_, fun g => hq.2.1 (by omega), hq.2.2⟩
        have hq1 := hq.1 (by omega)
        refine ⟨hq1.1, hq1.2.1, fun g1 g2 => ?_, hq1.2.2.2⟩
        by_cases hd1 : d + 1 = σ 1 5
        · rw [if_pos (by omega)]
          refine Classical.byContradiction (fun na => hbes na ⟨by omega, ?_⟩)
          rw [show σ 1 4 * 7 + σ 1 5 - 1 = 7 * σ 1 4 + d by omega]; exact g2
        · rw [if_neg (by omega)]
          exact hq1.2.2.1 (by omega) g2
    · have el : gi_len τ r = gi_len σ r := by
        unfold gi_len
        rw [e14, e5]
        by_cases g : r < σ 1 4
        · rw [if_pos g, if_pos g]
        · rw [if_neg g, if_neg g, if_neg hR, if_neg hR]
      have l6 := gi_len_le hC r0
      rw [el]
      simp only [e2, e3]
      rw [if_neg (show ¬ (7 * r + d = σ 1 4 * 7 + σ 1 5) by omega), if_neg (show ¬ (7 * r + d = σ 1 4 * 7 + σ 1 5) by omega)]
      refine ⟨fun g => ?_, hq.2.1, hq.2.2⟩
      have hq1 := hq.1 g
      refine ⟨hq1.1, hq1.2.1, fun g1 g2 => ?_, hq1.2.2.2⟩
      rw [if_neg (by omega)]
      exact hq1.2.2.1 g1 g2
  · rw [e14] at rR
    obtain ⟨a1, a2, d, d0, d1, d2⟩ := hr r r0 rR
    unfold gi_rule
    rw [e4, e5]
    exact ⟨a1, a2, d, d0, d1, by rw [e2, if_neg (by omega)]; exact d2⟩
  · unfold gi_two at h2 ⊢
    simp only [e2, e3, e4, e5]
    rw [if_neg (by omega), if_neg (by omega), if_neg (by omega), if_neg (by omega), if_neg (by omega), if_neg (by omega), if_neg (by omega)]
    exact h2
theorem gi_M_take {σ ρ : np_S} (hC : gi_C σ) (hM : gi_M σ) {a b c : Int} (h6 : σ 1 5 < 6) (hbc : a = -1 → c = b)
    (e14 : ρ 1 4 = σ 1 4) (e15 : ρ 1 5 = σ 1 5 + 1) (e2 : ∀ j, ρ 2 j = if j = σ 1 4 * 7 + σ 1 5 then a else σ 2 j) (e3 : ∀ j, ρ 3 j = if j = σ 1 4 * 7 + σ 1 5 then b else σ 3 j) (e4 : ρ 4 = σ 4) (e5 : ρ 5 = σ 5)
    (e291 : ρ 29 1 = σ 29 1 + 1) (e292 : ρ 29 2 = σ 29 2) (e30 : ∀ j, ρ 30 j = if j = 84 + σ 29 1 then a else σ 30 j) (e31 : ∀ j, ρ 31 j = if j = 84 + σ 29 1 then c else σ 31 j) (e32 : ρ 32 = σ 32) (e33 : ρ 33 = σ 33) : gi_M ρ := by
  obtain ⟨⟨R1, R2⟩, ⟨H1, H2⟩, hp, hr, h2⟩ := id hC
  obtain ⟨m1, m2, m3, m4, m5⟩ := hM
  refine ⟨by rw [e292, e14]; exact m1, by rw [e291, e15, m2], ?_, ?_, ?_⟩
  · intro n p n0 nR p0 pl
    rw [e292] at nR
    rw [e5] at pl
    have l := (hr (n + 2) (by omega) (by omega)).1
    have := m3 n p n0 nR p0 pl
    rw [e2, e3, e30, e31, if_neg (by omega), if_neg (by omega), if_neg (by omega), if_neg (by omega)]
    exact this
  · intro n n0 nR
    rw [e292] at nR
    rw [e32, e33, e4, e5]
    exact m4 n n0 nR
  · intro p p0 pl
    rw [e291] at pl
    rw [e14, e2, e3, e30, e31]
    by_cases hd : p = σ 29 1
    · rw [if_pos (by omega), if_pos (by omega), if_pos (by omega), if_pos (by omega)]
      exact ⟨rfl, hbc⟩
    · rw [if_neg (by omega), if_neg (by omega), if_neg (by omega), if_neg (by omega)]
      exact m5 p p0 (by omega)
/-- what hole, word and a refused notation leave as it was -/
def gl_fr (σ ρ : np_S) : Prop := (∀ k, k ∉ [1, 2, 3, 28, 29, 30, 31] → ρ k = σ k) ∧ (∀ j, j ≠ 0 → j ≠ 1 → ρ 29 j = σ 29 j) ∧ ρ 1 4 = σ 1 4 ∧ ∀ j, j < 7 * σ 1 4 → ρ 2 j = σ 2 j ∧ ρ 3 j = σ 3 j
/-- after a call that may throw: k what the class's wrapper answers, v its number -/
def gl_T (k v : Int) (q : np_O) : Prop := np_R q.1 ∧ q.2 29 0 = k ∧ (k = 0 → q.1 = v)
theorem gl_tk {σ : np_S} (hC : gi_C σ) (hM : gi_M σ) {a b c : Int} (h6 : σ 1 5 < 6) (ha : -1 ≤ a ∧ a ≤ 10) (hab : a = -1 ↔ b ≠ -1) (hb : np_R6 b) (hb2 : b ≠ 0 ∧ b ≠ 40 ∧ b ≠ 41) (hbes : a ≠ -1 → ¬ gc_beside σ) (hbc : a = -1 → c = b) {τ : np_S} (hτ : gl_28 τ (gc_take a b σ)) : gi_C (gm_take a c (np_st τ 29 0 0)) ∧ gi_M (gm_take a c (np_st τ 29 0 0)) ∧ gl_fr σ (gm_take a c (np_st τ 29 0 0)) ∧ gm_take a c (np_st τ 29 0 0) 29 0 = 0 := by
  obtain ⟨⟨R1, R2⟩, ⟨H1, H2⟩, hp, hr, h2⟩ := id hC
  have q1 : τ 1 = gc_take a b σ 1 := hτ 1 (by decide)
  have q29 : τ 29 = σ 29 := by rw [hτ 29 (by decide)]; unfold gc_take; rw [np_st_o _ _ _ (by decide), np_st_o _ _ _ (by decide), np_st_o _ _ _ (by decide)]
  have r29 : np_st τ 29 0 0 29 1 = σ 29 1 := by rw [np_st_n _ _ _ (by decide), q29]
  have eo : ∀ k, k ≠ 29 → k ≠ 30 → k ≠ 31 → gm_take a c (np_st τ 29 0 0) k = τ k := by
    intro k k1 k2 k3
    unfold gm_take
    rw [np_st_o _ _ _ k1, np_st_o _ _ _ k3, np_st_o _ _ _ k2, np_st_o _ _ _ k1]
  have e14 : gm_take a c (np_st τ 29 0 0) 1 4 = σ 1 4 := by
    rw [eo 1 (by decide) (by decide) (by decide), q1]; unfold gc_take
    rw [np_st_n _ _ _ (by decide), np_st_o _ _ _ (by decide), np_st_o _ _ _ (by decide)]
  have e15 : gm_take a c (np_st τ 29 0 0) 1 5 = σ 1 5 + 1 := by
    rw [eo 1 (by decide) (by decide) (by decide), q1]; unfold gc_take
    rw [np_st_s]
  have e2 : ∀ j, gm_take a c (np_st τ 29 0 0) 2 j = if j = σ 1 4 * 7 + σ 1 5 then a else σ 2 j := by
    intro j
    rw [eo 2 (by decide) (by decide) (by decide), hτ 2 (by decide)]; unfold gc_take
    rw [np_st_o _ _ _ (by decide), np_st_o _ _ _ (by decide), np_st_rd, if_pos rfl]
  have e3 : ∀ j, gm_take a c (np_st τ 29 0 0) 3 j = if j = σ 1 4 * 7 + σ 1 5 then b else σ 3 j := by
    intro j
    rw [eo 3 (by decide) (by decide) (by decide), hτ 3 (by decide)]; unfold gc_take
    rw [np_st_o _ _ _ (by decide), np_st_rd, if_pos rfl, np_st_o _ _ _ (by decide)]
  have ek : ∀ k, k ∉ [1, 2, 3, 28, 29, 30, 31] → gm_take a c (np_st τ 29 0 0) k = σ k := by
    intro k hk
    simp only [List.mem_cons, List.not_mem_nil, or_false, not_or] at hk
    rw [eo k hk.2.2.2.2.1 hk.2.2.2.2.2.1 hk.2.2.2.2.2.2, hτ k hk.2.2.2.1]; unfold gc_take
    rw [np_st_o _ _ _ hk.1, np_st_o _ _ _ hk.2.2.1, np_st_o _ _ _ hk.2.1]
  have e29 : ∀ j, gm_take a c (np_st τ 29 0 0) 29 j = if j = 1 then σ 29 1 + 1 else if j = 0 then 0 else σ 29 j := by
    intro j
    unfold gm_take
    rw [r29, np_st_rd, if_pos rfl]
    rw [np_st_o _ _ _ (show 29 ≠ 31 by decide), np_st_o _ _ _ (show 29 ≠ 30 by decide), np_st_rd, if_pos rfl, q29]
  have e30 : ∀ j, gm_take a c (np_st τ 29 0 0) 30 j = if j = 84 + σ 29 1 then a else σ 30 j := by
    intro j
    unfold gm_take
    rw [r29, np_st_o _ _ _ (show 30 ≠ 29 by decide), np_st_o _ _ _ (show 30 ≠ 31 by decide), np_st_rd, if_pos rfl, np_st_o _ _ _ (show 30 ≠ 29 by decide), hτ 30 (by decide)]
    unfold gc_take
    rw [np_st_o _ _ _ (by decide), np_st_o _ _ _ (by decide), np_st_o _ _ _ (by decide)]
  have e31 : ∀ j, gm_take a c (np_st τ 29 0 0) 31 j = if j = 84 + σ 29 1 then c else σ 31 j := by
    intro j
    unfold gm_take
    rw [r29, np_st_o _ _ _ (show 31 ≠ 29 by decide), np_st_rd, if_pos rfl, np_st_o _ _ _ (show 31 ≠ 30 by decide), np_st_o _ _ _ (show 31 ≠ 29 by decide), hτ 31 (by decide)]
    unfold gc_take
    rw [np_st_o _ _ _ (by decide), np_st_o _ _ _ (by decide), np_st_o _ _ _ (by decide)]
  refine ⟨gi_C_take hC h6 ha hab hb hb2 hbes e14 e15 e2 e3 (ek 4 (by decide)) (ek 5 (by decide)), gi_M_take hC hM h6 hbc e14 e15 e2 e3 (ek 4 (by decide)) (ek 5 (by decide)) (by rw [e29, if_pos rfl]) (by rw [e29, if_neg (by decide), if_neg (by decide)]) e30 e31 (ek 32 (by decide)) (ek 33 (by decide)), ⟨ek, ?_, e14, ?_⟩, by rw [e29, if_neg (by decide), if_pos rfl]⟩
  · intro j j0 j1
    rw [e29, if_neg j1, if_neg j0]
  · intro j hj
    rw [e2, e3, if_neg (by omega), if_neg (by omega)]
    exact ⟨rfl, rfl⟩
theorem gl_st0 {σ τ : np_S} (hτ : gl_28 τ σ) (v : Int) : (∀ k, k ≠ 28 → k ≠ 29 → np_st τ 29 0 v k = σ k) ∧ (∀ j, j ≠ 0 → np_st τ 29 0 v 29 j = σ 29 j) ∧ np_st τ 29 0 v 29 0 = v := by
  refine ⟨fun k k1 k2 => ?_, fun j j0 => ?_, np_st_s _ _ _ _⟩
  · rw [np_st_o _ _ _ k2, hτ k k1]
  · rw [np_st_n _ _ _ j0, hτ 29 (by decide)]
theorem gl_no {σ τ : np_S} (hC : gi_C σ) (hM : gi_M σ) (hτ : gl_28 τ σ) (v : Int) : gi_C (np_st τ 29 0 v) ∧ gi_M (np_st τ 29 0 v) ∧ gl_fr σ (np_st τ 29 0 v) := by
  obtain ⟨a, b, c⟩ := gl_st0 hτ v
  refine ⟨gi_C_eq hC (a 1 (by decide) (by decide)) (a 2 (by decide) (by decide)) (a 3 (by decide) (by decide)) (a 4 (by decide) (by decide)) (a 5 (by decide) (by decide)), gi_M_eq hM (a 1 (by decide) (by decide)) (a 2 (by decide) (by decide)) (a 3 (by decide) (by decide)) (a 4 (by decide) (by decide)) (a 5 (by decide) (by decide)) (b 1 (by decide)) (b 2 (by decide)) (a 30 (by decide) (by decide)) (a 31 (by decide) (by decide)) (a 32 (by decide) (by decide)) (a 33 (by decide) (by decide)), ?_, ?_, ?_, ?_⟩
  · intro k hk
    simp only [List.mem_cons, List.not_mem_nil, or_false, not_or] at hk
    exact a k hk.2.2.2.1 hk.2.2.2.2.1
  · intro j j0 j1
    exact b j j0
  · rw [a 1 (by decide) (by decide)]
  · intro j _
    rw [a 2 (by decide) (by decide), a 3 (by decide) (by decide)]
    exact ⟨rfl, rfl⟩
theorem gi_bes {σ τ : np_S} (hC : gi_C σ) (hM : gi_M σ) (h29 : τ 29 1 = σ 29 1) (h30 : τ 30 = σ 30) : gm_beside τ ↔ gc_beside σ := by
  unfold gm_beside gc_beside
  rw [h29, h30, hM.2.1]
  constructor
  · rintro ⟨a, b⟩
    have := (hM.2.2.2.2 (σ 1 5 - 1) (by omega) (by rw [hM.2.1]; omega)).1
    rw [show 84 + σ 1 5 - 1 = 84 + (σ 1 5 - 1) by omega, this] at b
    rw [show σ 1 4 * 7 + σ 1 5 - 1 = 7 * σ 1 4 + (σ 1 5 - 1) by omega]
    exact ⟨a, b⟩
  · rintro ⟨a, b⟩
    have := (hM.2.2.2.2 (σ 1 5 - 1) (by omega) (by rw [hM.2.1]; omega)).1
    rw [show σ 1 4 * 7 + σ 1 5 - 1 = 7 * σ 1 4 + (σ 1 5 - 1) by omega] at b
    rw [show 84 + σ 1 5 - 1 = 84 + (σ 1 5 - 1) by omega, this]
    exact ⟨a, b⟩
theorem gi_handR {σ : np_S} (hC : gi_C σ) (hM : gi_M σ) : ∀ p : Int, 0 ≤ p → p < σ 29 1 → np_R (σ 30 (84 + p)) := by
  intro p p0 pl
  have := (hM.2.2.2.2 p p0 pl).1
  obtain ⟨⟨R1, R2⟩, ⟨H1, H2⟩, _⟩ := id hC
  have h2 := hM.2.1
  have hr := (gi_C_R hC (j := 7 * σ 1 4 + p) (by omega) (by omega)).1
  rw [this]
  exact ⟨by omega, by omega⟩
theorem gl_hole {σ : np_S} (hC : gi_C σ) (hM : gi_M σ) {x : Int} (hx : np_R x) : np_W (f_N_hole x σ) (fun o => (o.1 = 0 ∨ o.1 = 1 ∨ o.1 = 2) ∧ np_R o.2.1 ∧ ∀ τ, gl_28 τ o.2.2 → np_W (f_M_hole x τ) (fun q => gl_T o.1 o.2.1 q ∧ gi_C q.2 ∧ gi_M q.2 ∧ gl_fr σ q.2 ∧ q.2 28 = τ 28)) := by
  obtain ⟨⟨R1, R2⟩, ⟨H1, H2⟩, _⟩ := id hC
  refine np_W_mono (gc_hole hC hx) (fun o ho => ?_)
  have hr := gi_handR hC hM
  have m2 := hM.2.1
  rcases ho with ⟨g, rfl⟩ | ⟨g, g6, rfl⟩ | ⟨g, g6, rfl⟩
  · refine ⟨Or.inr (Or.inl rfl), by dsimp only; decide, fun τ hτ => ?_⟩
    dsimp only at hτ
    have t29 : τ 29 = σ 29 := hτ 29 (by decide)
    have t30 : τ 30 = σ 30 := hτ 30 (by decide)
    refine np_W_mono (gm_hole (σ := τ) (by rw [t29]; omega) (by rw [t29]; omega) (by rw [t29, t30]; exact hr) hx) (fun q hq => ?_)
    rw [gi_bes hC hM (by rw [t29]) t30] at hq
    rcases hq with ⟨k, rfl⟩ | ⟨k, _⟩ | ⟨k, _⟩
    · obtain ⟨y1, y2, y3⟩ := gl_no hC hM hτ 1
      exact ⟨⟨by dsimp only; decide, by dsimp only; rw [np_st_s]; rfl, fun z => absurd z (by dsimp only; decide)⟩, y1, y2, y3, by dsimp only; rw [np_st_o _ _ _ (show 28 ≠ 29 by decide)]⟩
    · exact absurd g k
    · exact absurd g k
  · refine ⟨Or.inr (Or.inr rfl), by dsimp only; decide, fun τ hτ => ?_⟩
    dsimp only at hτ
    have t29 : τ 29 = σ 29 := hτ 29 (by decide)
    have t30 : τ 30 = σ 30 := hτ 30 (by decide)
    refine np_W_mono (gm_hole (σ := τ) (by rw [t29]; omega) (by rw [t29]; omega) (by rw [t29, t30]; exact hr) hx) (fun q hq => ?_)
    rw [gi_bes hC hM (by rw [t29]) t30] at hq
    rcases hq with ⟨k, rfl⟩ | ⟨k, k6, rfl⟩ | ⟨k, k6, _⟩
    · exact absurd k g
    · obtain ⟨y1, y2, y3⟩ := gl_no hC hM hτ 2
      exact ⟨⟨by dsimp only; decide, by dsimp only; rw [np_st_s]; rfl, fun z => absurd z (by dsimp only; decide)⟩, y1, y2, y3, by dsimp only; rw [np_st_o _ _ _ (show 28 ≠ 29 by decide)]⟩
    · rw [t29] at k6; omega
  · refine ⟨Or.inl rfl, ⟨by dsimp only; omega, by dsimp only; omega⟩, fun τ hτ => ?_⟩
    dsimp only at hτ
    have t29 : τ 29 = σ 29 := by rw [hτ 29 (by decide)]; unfold gc_take; rw [np_st_o _ _ _ (by decide), np_st_o _ _ _ (by decide), np_st_o _ _ _ (by decide)]
    have t30 : τ 30 = σ 30 := by rw [hτ 30 (by decide)]; unfold gc_take; rw [np_st_o _ _ _ (by decide), np_st_o _ _ _ (by decide), np_st_o _ _ _ (by decide)]
    refine np_W_mono (gm_hole (σ := τ) (by rw [t29]; omega) (by rw [t29]; omega) (by rw [t29, t30]; exact hr) hx) (fun q hq => ?_)
    rw [gi_bes hC hM (by rw [t29]) t30] at hq
    rcases hq with ⟨k, rfl⟩ | ⟨k, k6, rfl⟩ | ⟨k, k6, rfl⟩
    · exact absurd k g
    · rw [t29] at k6; omega
    · have x0 : 0 ≤ x := by omega
      have x10 : x ≤ 10 := by omega
      obtain ⟨z1, z2, z3, z4⟩ := gl_tk hC hM (a := x) (b := -1) (c := 0) g6 ⟨by omega, x10⟩ ⟨fun q => by omega, fun q => absurd rfl q⟩ (by decide) (by decide) (fun _ q => g (Or.inr (Or.inr q))) (fun q => by omega) hτ
      refine ⟨⟨⟨by dsimp only; rw [t29]; omega, by dsimp only; rw [t29]; omega⟩, z4, fun _ => ?_⟩, z1, z2, z3, ?_⟩
      · dsimp only
        rw [t29, m2]
      · dsimp only
        unfold gm_take
        rw [np_st_o _ _ _ (by decide), np_st_o _ _ _ (by decide), np_st_o _ _ _ (by decide), np_st_o _ _ _ (by decide)]
theorem gl_word {σ : np_S} (hC : gi_C σ) (hM : gi_M σ) {x n : Int} (hx : np_R6 x) (hn : np_R n) : np_W (f_N_word x n σ) (fun o => (o.1 = 0 ∨ o.1 = 1 ∨ o.1 = 2) ∧ np_R o.2.1 ∧ ∀ τ, gl_28 τ o.2.2 → np_W (f_M_word x n τ) (fun q => gl_T o.1 o.2.1 q ∧ gi_C q.2 ∧ gi_M q.2 ∧ gl_fr σ q.2 ∧ q.2 28 = τ 28)) := by
  obtain ⟨⟨R1, R2⟩, ⟨H1, H2⟩, _⟩ := id hC
  refine np_W_mono (gc_word hC hx hn) (fun o ho => ?_)
  have m2 := hM.2.1
  rcases ho with ⟨g, rfl⟩ | ⟨g, g6, rfl⟩ | ⟨g, g6, rfl⟩
  · refine ⟨Or.inr (Or.inl rfl), by dsimp only; decide, fun τ hτ => ?_⟩
    dsimp only at hτ
    have t29 : τ 29 = σ 29 := hτ 29 (by decide)
    refine np_W_mono (gm_word (σ := τ) (by rw [t29]; omega) (by rw [t29]; omega) hx hn) (fun q hq => ?_)
    rcases hq with ⟨k, rfl⟩ | ⟨k, _⟩ | ⟨k, _⟩
    · obtain ⟨y1, y2, y3⟩ := gl_no hC hM hτ 1
      exact ⟨⟨by dsimp only; decide, by dsimp only; rw [np_st_s]; rfl, fun z => absurd z (by dsimp only; decide)⟩, y1, y2, y3, by dsimp only; rw [np_st_o _ _ _ (show 28 ≠ 29 by decide)]⟩
    · exact absurd k g
    · exact absurd k g
  · refine ⟨Or.inr (Or.inr rfl), by dsimp only; decide, fun τ hτ => ?_⟩
    dsimp only at hτ
    have t29 : τ 29 = σ 29 := hτ 29 (by decide)
    refine np_W_mono (gm_word (σ := τ) (by rw [t29]; omega) (by rw [t29]; omega) hx hn) (fun q hq => ?_)
    rcases hq with ⟨k, rfl⟩ | ⟨k, k6, rfl⟩ | ⟨k, k6, _⟩
    · exact absurd g k
    · obtain ⟨y1, y2, y3⟩ := gl_no hC hM hτ 2
      exact ⟨⟨by dsimp only; decide, by dsimp only; rw [np_st_s]; rfl, fun z => absurd z (by dsimp only; decide)⟩, y1, y2, y3, by dsimp only; rw [np_st_o _ _ _ (show 28 ≠ 29 by decide)]⟩
    · rw [t29] at k6; omega
  · refine ⟨Or.inl rfl, ⟨by dsimp only; omega, by dsimp only; omega⟩, fun τ hτ => ?_⟩
    dsimp only at hτ
    have t29 : τ 29 = σ 29 := by rw [hτ 29 (by decide)]; unfold gc_take; rw [np_st_o _ _ _ (by decide), np_st_o _ _ _ (by decide), np_st_o _ _ _ (by decide)]
    refine np_W_mono (gm_word (σ := τ) (by rw [t29]; omega) (by rw [t29]; omega) hx hn) (fun q hq => ?_)
    rcases hq with ⟨k, rfl⟩ | ⟨k, k6, rfl⟩ | ⟨k, k6, rfl⟩
    · exact absurd g k
    · rw [t29] at k6; omega
    · have hlo := gs_wd_lo g.1
      obtain ⟨z1, z2, z3, z4⟩ := gl_tk hC hM (a := -1) (b := gs_lo x n) (c := gs_lo x n) g6 (by decide) ⟨fun _ => hlo.2, fun _ => rfl⟩ (gs_lo_R hx g.1.1 g.1.2.1) ⟨hlo.1, g.2.1, g.2.2⟩ (fun q => absurd rfl q) (fun _ => rfl) hτ
      refine ⟨⟨⟨by dsimp only; rw [t29]; omega, by dsimp only; rw [t29]; omega⟩, z4, fun _ => ?_⟩, z1, z2, z3, ?_⟩
      · dsimp only
        rw [t29, m2]
      · dsimp only
        unfold gm_take
        rw [np_st_o _ _ _ (by decide), np_st_o _ _ _ (by decide), np_st_o _ _ _ (by decide), np_st_o _ _ _ (by decide)]
