/-! the store's grammar and words as the grammar of the counts -/
def gi_g (σ : np_S) : ga_G := ((σ 1 4).toNat, fun r => (σ 5 (r : Int)).toNat, fun r d => σ 2 (7 * (r : Int) + (d : Int)), fun r d => σ 3 (7 * (r : Int) + (d : Int)), fun r => σ 4 (r : Int), fun i => σ 9 (i : Int))
theorem gi_gR {σ : np_S} (hC : gi_C σ) : σ 1 4 = (ga_R (gi_g σ) : Int) := by
  show σ 1 4 = ((σ 1 4).toNat : Int)
  have := hC.1.1
  omega
theorem gi_gl {σ : np_S} (hC : gi_C σ) {r : Nat} (hr : r < ga_R (gi_g σ)) : σ 5 (r : Int) = (ga_l (gi_g σ) r : Int) ∧ gi_rule σ r := by
  have hR := gi_gR hC
  have h := hC.2.2.2.1 (r : Int) (by omega) (by omega)
  refine ⟨?_, h⟩
  show σ 5 (r : Int) = ((σ 5 (r : Int)).toNat : Int)
  have := h.1.1
  omega
theorem gi_gp {σ : np_S} (hC : gi_C σ) : gx_p (gi_g σ) := by
  have hR := gi_gR hC
  obtain ⟨⟨R1, R2⟩, ⟨H1, H2⟩, hp, hr, ⟨t1, t2, t3, t4, t5, t6, t7⟩, u1, u2, u3, u4⟩ := id hC
  have part : ∀ (r d : Nat), r < ga_R (gi_g σ) → d < ga_l (gi_g σ) r → (-1 ≤ ga_h (gi_g σ) r d ∧ ga_h (gi_g σ) r d ≤ 10) ∧ (ga_h (gi_g σ) r d = -1 ↔ ga_w (gi_g σ) r d ≠ -1) ∧ (d + 1 < ga_l (gi_g σ) r → ga_h (gi_g σ) r d ≠ -1 → ga_h (gi_g σ) r (d + 1) = -1) ∧ (2 ≤ r → ga_w (gi_g σ) r d ≠ 0 ∧ ga_w (gi_g σ) r d ≠ 40 ∧ ga_w (gi_g σ) r d ≠ 41) := by
    intro r d hr1 hd
    obtain ⟨e5, l1, _⟩ := gi_gl hC hr1
    have hq := hp (r : Int) (d : Int) (by omega) (by omega) (by omega) (by omega)
    unfold gi_part gi_len at hq
    rw [if_pos (by omega)] at hq
    obtain ⟨q1, q2, q3, q4⟩ := hq.1 (by omega)
    refine ⟨q1, q2, fun a b => ?_, fun a => q4 (by omega)⟩
    have := q3 (by omega) b
    show σ 2 (7 * (r : Int) + ((d + 1 : Nat) : Int)) = -1
    rw [show ((d + 1 : Nat) : Int) = (d : Int) + 1 by omega]
    exact this
  refine ⟨fun r hr1 => ?_, by omega, by omega, ⟨?_, t2, t6, t4, t7, t3, t5⟩, ⟨?_, u2, u3, u4⟩, fun r d r2 hr1 hd hw => (part r d hr1 hd).2.2.2 r2⟩
  · obtain ⟨e5, l1, l2, d, d0, d1, d2⟩ := gi_gl hC hr1
    refine ⟨by omega, l2, fun d hd => (part r d hr1 hd).1, fun d hd => (part r d hr1 (by omega)).2.2.1 hd, d.toNat, by omega, ?_⟩
    show σ 2 (7 * (r : Int) + ((d.toNat : Nat) : Int)) = -1
    rw [Int.toNat_of_nonneg d0]; exact d2
  · show (σ 5 ((0 : Nat) : Int)).toNat = 3
    rw [show ((0 : Nat) : Int) = 0 from rfl, t1]; rfl
  · show (σ 5 ((1 : Nat) : Int)).toNat = 1
    rw [show ((1 : Nat) : Int) = 1 from rfl, u1]; rfl
theorem gi_gx {σ : np_S} (hC : gi_C σ) {n : Nat} (hn : n ≤ 30) (ht : ∀ i : Nat, i < n → σ 9 (i : Int) ≠ -1 ∧ np_R6 (σ 9 (i : Int))) : gx_C (gi_g σ) n σ := by
  have hR := gi_gR hC
  have hgp := gi_gp hC
  obtain ⟨⟨R1, R2⟩, ⟨H1, H2⟩, hp, hr, _⟩ := id hC
  refine ⟨hgp, hn, hR, fun r hr1 => ?_, fun i hi => ⟨rfl, ht i hi⟩⟩
  obtain ⟨e5, l1, _⟩ := gi_gl hC hr1
  refine ⟨e5, rfl, fun d hd => ?_⟩
  have hq := hp (r : Int) (d : Int) (by omega) (by omega) (by omega) (by omega)
  unfold gi_part gi_len at hq
  rw [if_pos (by omega)] at hq
  refine ⟨hq.2.2, ?_⟩
  by_cases hdl : d < ga_l (gi_g σ) r
  · obtain ⟨q1, q2, q3, q4⟩ := hq.1 (by omega)
    refine Or.inl ⟨hdl, rfl, ?_⟩
    by_cases hw : σ 2 (7 * (r : Int) + (d : Int)) = -1
    · exact Or.inl ⟨hw, rfl⟩
    · exact Or.inr ⟨hw, Classical.byContradiction (fun z => hw (q2.mpr z))⟩
  · exact Or.inr ⟨by omega, hq.2.1 (by omega)⟩
theorem gi_g_eq {σ τ : np_S} (e1 : τ 1 4 = σ 1 4) (e2 : τ 2 = σ 2) (e3 : τ 3 = σ 3) (e4 : τ 4 = σ 4) (e5 : τ 5 = σ 5) (e9 : τ 9 = σ 9) : gi_g τ = gi_g σ := by
  unfold gi_g
  rw [e1, e2, e3, e4, e5, e9]
theorem gs_kd_lt {x : Int} (h : 2 ≤ gs_kd x) : 0 < x ∧ x < 128 := by
  unfold gs_kd at h
  split at h
  · omega
  · split at h
    · omega
    · split at h
      · omega
      · split at h
        · rename_i hm
          have : ∀ d, d ∈ gs_sg → 0 < d ∧ d < 128 := by decide
          exact this x hm
        · split at h
          · rename_i hm
            have : ∀ d, d ∈ gs_ln → 0 < d ∧ d < 128 := by decide
            exact this x hm
          · omega
theorem gq_bk_0 {c : Int} {j : Nat} (h : ∀ k, j ≤ k → k < 8 → gb_by c k = 0) : ∀ k, k ≤ 8 → (gq_bk c k).length ≤ j := by
  intro k
  induction k with
  | zero => intro _; exact Nat.zero_le _
  | succ k ih =>
    intro hk
    show ((if gb_by c k = 0 then [] else [gb_by c k]) ++ gq_bk c k).length ≤ j
    by_cases e : j ≤ k
    · rw [if_pos (h k e (by omega)), List.nil_append]; exact ih (by omega)
    · have := gq_bk_le c (k + 1)
      have e2 : ((if gb_by c k = 0 then [] else [gb_by c k]) ++ gq_bk c k).length ≤ k + 1 := this
      omega
section
variable {b : Nat → Int} {N W : Nat} {pl en : Nat → Nat}
theorem gw_word (hb : ∀ k, k < N → 0 ≤ b k ∧ b k < 256) (h : gw_pre b N W pl en) {i : Nat} (hi : i < W) : (∀ k, k < 8 → gb_by (gw_cd b (pl i) (en i - pl i)) k < 128) ∧ (gq_bk (gw_cd b (pl i) (en i - pl i)) 8).length ≤ en i - pl i ∧ gw_cd b (pl i) (en i - pl i) ≠ -1 ∧ gw_cd b (pl i) (en i - pl i) ≠ 0 ∧ gs_kd (gb_by (gw_cd b (pl i) (en i - pl i)) 0) = gs_kd (b (pl i)) := by
  obtain ⟨h1, h2, h3, h4, h5⟩ := h.2 i hi
  obtain ⟨m1, m2, m3, _⟩ := id h3
  have hby := gw_cd_by hb (pl i) (en i - pl i) h5 (by omega)
  obtain ⟨n1, n2⟩ := gw_cd_ne hb h3 h4 h5
  refine ⟨fun k hk => ?_, gq_bk_0 (fun k k1 k2 => by rw [hby k k2, if_neg (by omega)]) 8 (Nat.le_refl _), n1, fun z => ?_, n2⟩
  · rw [hby k hk]
    split
    · have := m3 (pl i + (en i - pl i - 1 - k)) (by omega) (by omega)
      exact (gs_kd_lt (by rw [this]; exact h4)).2
    · decide
  · rw [z] at n2
    have : gs_kd (gb_by 0 0) = 0 := by decide
    omega
theorem gw_sum (h : gw_pre b N W pl en) : ∀ k, k ≤ W → ga_sum k (fun i => en i - pl i) ≤ gw_last en k ∧ gw_last en k ≤ N := by
  intro k
  induction k with
  | zero => intro _; exact ⟨Nat.le_refl _, Nat.zero_le _⟩
  | succ k ih =>
    intro hk
    obtain ⟨i1, i2⟩ := ih (by omega)
    obtain ⟨h1, h2, h3, h4, h5⟩ := h.2 k (by omega)
    have e : gw_last en (k + 1) = en k := by
      unfold gw_last
      rw [if_neg (by omega), Nat.add_sub_cancel]
    rw [e]
    have hs : ga_sum (k + 1) (fun i => en i - pl i) = ga_sum k (fun i => en i - pl i) + (en k - pl k) := rfl
    have := h3.1
    exact ⟨by omega, h3.2.1⟩
theorem gw_len (hb : ∀ k, k < N → 0 ≤ b k ∧ b k < 256) (hN : N ≤ 200) (h : gw_pre b N W pl en) : ga_sum W (fun i => (gq_bk (gw_cd b (pl i) (en i - pl i)) 8).length + 1) ≤ 230 := by
  have key : ∀ k, k ≤ W → ga_sum k (fun i => (gq_bk (gw_cd b (pl i) (en i - pl i)) 8).length + 1) ≤ ga_sum k (fun i => en i - pl i) + k := by
    intro k
    induction k with
    | zero => intro _; exact Nat.le_refl _
    | succ k ih =>
      intro hk
      have := ih (by omega)
      have h2 := (gw_word hb h (i := k) (by omega)).2.1
      show ga_sum k _ + ((gq_bk (gw_cd b (pl k) (en k - pl k)) 8).length + 1) ≤ ga_sum k _ + (en k - pl k) + (k + 1)
      omega
  have := key W (Nat.le_refl _)
  have h2 := gw_sum h W (Nat.le_refl _)
  have := h.1
  omega
end
/-- tokens and codes of the words -/
def gv_w (σ τ : np_S) (i : Nat) : Prop := gw_tk σ (gs_kd (gb_by (τ 8 (i : Int)) 0)) (τ 8 (i : Int)) (τ 9 (i : Int)) ∧ 2 ≤ gs_kd (gb_by (τ 8 (i : Int)) 0) ∧ τ 8 (i : Int) ≠ -1 ∧ τ 8 (i : Int) ≠ 0 ∧ np_R6 (τ 8 (i : Int))
theorem gv_tok {σ τ : np_S} {i : Nat} (h : gv_w σ τ i) : τ 9 (i : Int) ≠ -1 ∧ np_R6 (τ 9 (i : Int)) ∧ (τ 9 (i : Int) = 0 ∨ τ 9 (i : Int) = τ 8 (i : Int)) := by
  obtain ⟨⟨h1, h2⟩, h3, h4, h5, h6⟩ := h
  by_cases z : (gs_kd (gb_by (τ 8 (i : Int)) 0) = 2 ∨ gs_kd (gb_by (τ 8 (i : Int)) 0) = 3) ∧ ¬ gk_key σ (τ 8 (i : Int))
  · rw [h1 z]; exact ⟨by decide, by decide, Or.inl rfl⟩
  · rw [h2 z]; exact ⟨h4, h6, Or.inr rfl⟩
theorem gv_40 {σ τ : np_S} {i : Nat} (h : gv_w σ τ i) : (τ 8 (i : Int) = 40 ↔ τ 9 (i : Int) = 40) ∧ (τ 8 (i : Int) = 41 ↔ τ 9 (i : Int) = 41) := by
  have ht := gv_tok h
  obtain ⟨⟨h1, h2⟩, h3, h4, h5, h6⟩ := h
  have k40 : gs_kd (gb_by 40 0) = 5 := by decide
  have k41 : gs_kd (gb_by 41 0) = 5 := by decide
  refine ⟨⟨fun e => ?_, fun e => ?_⟩, ⟨fun e => ?_, fun e => ?_⟩⟩
  · rw [h2 (fun z => by rw [e] at z; have := z.1; omega)]; exact e
  · rcases ht.2.2 with q | q <;> omega
  · rw [h2 (fun z => by rw [e] at z; have := z.1; omega)]; exact e
  · rcases ht.2.2 with q | q <;> omega
theorem gv_0 {σ τ : np_S} {i : Nat} (h : gv_w σ τ i) : ((gs_kd (gb_by (τ 8 (i : Int)) 0) = 2 ∨ gs_kd (gb_by (τ 8 (i : Int)) 0) = 3) ∧ ¬ gk_key σ (τ 8 (i : Int))) ↔ τ 9 (i : Int) = 0 := by
  obtain ⟨⟨h1, h2⟩, h3, h4, h5, h6⟩ := h
  refine ⟨h1, fun e => Classical.byContradiction (fun z => ?_)⟩
  have := h2 z
  omega
/-- the reference's words are these -/
theorem gi_gy {σ : np_S} (hC : gi_C σ) (hM : gi_M σ) {n : Nat} (hn : n ≤ 30) (h11 : σ 29 11 = (n : Nat)) (hw : ∀ i : Nat, i < n → gv_w σ σ i ∧ σ 35 (i : Int) = σ 8 (i : Int)) : gy_M (gi_g σ) n σ := by
  have hR := gi_gR hC
  have hgp := gi_gp hC
  obtain ⟨m1, m2, m3, m4, m5⟩ := id hM
  have hR2 := hgp.2.1
  have hR14 := hgp.2.2.1
  refine ⟨hgp, hn, hC, hM, by omega, h11, fun k hk => ?_, fun i hi => ?_⟩
  · obtain ⟨e5, _⟩ := gi_gl hC hk
    have a := m4 (k : Int) (by omega) (by omega)
    have e2 : (k : Int) + 2 = ((k + 2 : Nat) : Int) := by omega
    rw [e2] at a
    refine ⟨by rw [a.1]; exact e5, a.2, fun p hp => ?_⟩
    have c := m3 (k : Int) (p : Int) (by omega) (by omega) (by omega) (by rw [e2]; omega)
    rw [e2] at c
    have e3 : 7 * (k : Int) + (p : Int) = ((7 * k + p : Nat) : Int) := by omega
    rw [e3] at c
    have hl := (hgp.1 (k + 2) hk).1
    exact ⟨c.1, fun hz => ⟨c.2 hz, (gi_C_R hC (j := 7 * ((k + 2 : Nat) : Int) + (p : Int)) (by omega) (by omega)).2⟩⟩
  · obtain ⟨hv, e35⟩ := hw i hi
    have ht := gv_tok hv
    have h40 := gv_40 hv
    have h0 := gv_0 hv
    rw [e35]
    refine ⟨hv.2.2.2.2, h40.1, h40.2, fun r p r2 hr hp hz => ⟨fun e => ?_, fun e => ?_⟩, hv.2.1, h0⟩
    · show σ 9 (i : Int) = ga_w (gi_g σ) r p
      rw [hv.1.2 (fun z => z.2 ⟨(r : Int), (p : Int), by omega, by omega, by omega, by have := (gi_gl hC hr).1; omega, hz, e.symm⟩)]
      exact e
    · have hne := (hgp.2.2.2.2.2 r p r2 hr hp hz).1
      have e : σ 9 (i : Int) = ga_w (gi_g σ) r p := e
      rcases ht.2.2 with q | q
      · rw [q] at e; exact absurd e.symm hne
      · rw [← q]; exact e
