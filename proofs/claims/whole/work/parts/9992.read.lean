/-! read, on both sides -/
/-- how a reading ends: k the fault, p its place, v the number of trees -/
def gr_out (g : ga_G) (W : Nat) (wr sz : Int) (pl : Nat → Int) (k p v : Int) : Prop :=
  (∃ m : Nat, m < W ∧ (∀ i, i < m → ga_VB g (i + 1) 0 0) ∧ ¬ ga_VB g (m + 1) 0 0 ∧ k = 1 ∧ p = pl m) ∨
  ((∀ i, i < W → ga_VB g (i + 1) 0 0) ∧ wr ≠ -1 ∧ k = 2 ∧ p = wr) ∨
  ((∀ i, i < W → ga_VB g (i + 1) 0 0) ∧ wr = -1 ∧ ga_C g 0 0 W = 0 ∧ k = 1 ∧ p = sz) ∨
  ((∀ i, i < W → ga_VB g (i + 1) 0 0) ∧ wr = -1 ∧ 0 < ga_C g 0 0 W ∧ k = 0 ∧ p = -1 ∧ v = ga_sat (ga_C g 0 0 W))
theorem gr_uni {g : ga_G} {W : Nat} {wr sz : Int} {pl : Nat → Int} {k p v k2 p2 v2 : Int} (h : gr_out g W wr sz pl k p v) (h2 : gr_out g W wr sz pl k2 p2 v2) : k = k2 ∧ p = p2 ∧ (k = 0 → v = v2) := by
  rcases h with ⟨m, a1, a2, a3, a4, a5⟩ | ⟨a1, a2, a3, a4⟩ | ⟨a1, a2, a3, a4, a5⟩ | ⟨a1, a2, a3, a4, a5, a6⟩ <;> rcases h2 with ⟨m2, b1, b2, b3, b4, b5⟩ | ⟨b1, b2, b3, b4⟩ | ⟨b1, b2, b3, b4, b5⟩ | ⟨b1, b2, b3, b4, b5, b6⟩
  · have : m = m2 := by
      rcases Nat.lt_trichotomy m m2 with z | z | z
      · exact absurd (b2 m z) a3
      · exact z
      · exact absurd (a2 m2 z) b3
    subst this
    exact ⟨by rw [a4, b4], by rw [a5, b5], fun z => by omega⟩
  · exact absurd (b1 m a1) a3
  · exact absurd (b1 m a1) a3
  · exact absurd (b1 m a1) a3
  · exact absurd (a1 m2 b1) b3
  · exact ⟨by rw [a3, b3], by rw [a4, b4], fun z => by omega⟩
  · exact absurd b2 a2
  · exact absurd b2 a2
  · exact absurd (a1 m2 b1) b3
  · exact absurd a2 b2
  · exact ⟨by rw [a4, b4], by rw [a5, b5], fun z => by omega⟩
  · omega
  · exact absurd (a1 m2 b1) b3
  · exact absurd a2 b2
  · omega
  · exact ⟨by rw [a4, b4], by rw [a5, b5], fun _ => by rw [a6, b6]⟩
/-- the words of the latest text, as the class keeps them -/
def gr_W (b : Nat → Int) (N W : Nat) (pl en : Nat → Nat) (τ : np_S) : Prop := τ 6 5 = (W : Nat) ∧ gw_pre b N W pl en ∧ gw_stop b N W en (τ 6 6) ∧ ∀ i : Nat, i < W → τ 8 (i : Int) = gw_cd b (pl i) (en i - pl i) ∧ τ 10 (i : Int) = (pl i : Nat) ∧ gv_w τ τ i
theorem gr_W_eq {b : Nat → Int} {N W : Nat} {pl en : Nat → Nat} {σ τ : np_S} (h : gr_W b N W pl en σ) (e1 : τ 1 = σ 1) (e2 : τ 2 = σ 2) (e3 : τ 3 = σ 3) (e5 : τ 5 = σ 5) (e6 : τ 6 = σ 6) (e8 : τ 8 = σ 8) (e9 : τ 9 = σ 9) (e10 : τ 10 = σ 10) : gr_W b N W pl en τ := by
  have hk : ∀ c, gk_key τ c ↔ gk_key σ c := by
    intro c
    unfold gk_key
    rw [e1, e2, e3, e5]
  unfold gr_W gv_w gw_tk at *
  rw [e6, e8, e9, e10]
  simp only [hk]
  exact h
theorem gr_cut {σ : np_S} (hC : gi_C σ) (hT : gi_T σ) : ∃ (b : Nat → Int) (N : Nat), σ 6 1 = (N : Nat) ∧ N ≤ 200 ∧ (∀ k, k < N → 0 ≤ b k ∧ b k < 256) ∧ (∀ k : Nat, k < N → σ 7 (k : Int) % 256 = b k ∧ σ 34 (k : Int) = b k) ∧ np_W (f_Text_cut σ) (fun o => gx_fr [6, 8, 9, 10] σ o.2 ∧ (∀ j, j ≠ 5 → j ≠ 6 → o.2 6 j = σ 6 j) ∧ ∃ (W : Nat) (pl en : Nat → Nat), gr_W b N W pl en o.2) := by
  obtain ⟨t0, t1, t2, t3⟩ := hT
  have hs : σ 6 1 = ((σ 6 1).toNat : Nat) := by omega
  have hb : ∀ k, k < (σ 6 1).toNat → 0 ≤ (fun k : Nat => σ 7 (k : Int) % 256) k ∧ (fun k : Nat => σ 7 (k : Int) % 256) k < 256 := fun k _ => by dsimp only; omega
  refine ⟨fun k => σ 7 (k : Int) % 256, (σ 6 1).toNat, hs, by omega, hb, fun k hk => ⟨rfl, t3 (k : Int) (by omega) (by omega)⟩, ?_⟩
  refine np_W_mono (gw_cut (b := fun k => σ 7 (k : Int) % 256) hC hb (fun k _ => rfl) (by omega) hs) (fun o ho => ?_)
  obtain ⟨W, pl, en, ⟨i1, i2, i3, i4, i5⟩, i6⟩ := ho
  refine ⟨i1, i2, W, pl, en, i3, i4, i6, fun i hi => ?_⟩
  obtain ⟨c1, c2, c3⟩ := i5 i hi
  obtain ⟨w1, w2, w3, w4, w5⟩ := gw_word hb i4 hi
  refine ⟨c1, c3, ?_⟩
  unfold gv_w
  rw [c1] at c2 ⊢
  rw [w5]
  exact ⟨gw_tk_eq (σ := o.2) (τ := σ) (i1 1 (by decide)).symm (i1 2 (by decide)).symm (i1 3 (by decide)).symm (i1 5 (by decide)).symm c2, (i4.2 i hi).2.2.2.1, w3, w4, gw_cd_R _ _⟩
/-- the class's reading -/
theorem gr_class {σ : np_S} (hC : gi_C σ) (hT : gi_T σ) : ∃ (b : Nat → Int) (N : Nat), σ 6 1 = (N : Nat) ∧ N ≤ 200 ∧ (∀ k, k < N → 0 ≤ b k ∧ b k < 256) ∧ (∀ k : Nat, k < N → σ 34 (k : Int) = b k) ∧ np_W (f_N_read σ) (fun o => gx_fr [0, 6, 8, 9, 10, 12, 13, 14, 15, 16, 17, 18, 19, 20, 21, 22, 23, 24, 25] σ o.2.2 ∧ (∀ j, j ≠ 5 → j ≠ 6 → o.2.2 6 j = σ 6 j) ∧ ∃ (W : Nat) (pl en : Nat → Nat), gr_W b N W pl en o.2.2 ∧ gr_out (gi_g o.2.2) W (o.2.2 6 6) (σ 6 1) (fun m => (pl m : Int)) (o.2.2 0 5) (o.2.2 0 6) o.2.1 ∧ (o.2.2 0 5 = 0 → o.1 = 0 ∧ 1 ≤ W) ∧ (o.2.2 0 5 ≠ 0 → o.1 = 1 ∧ o.2.1 = 0) ∧ ((o.2.2 0 5 = 0 ∧ ga_C (gi_g o.2.2) 0 0 W = 1 → ∃ T, gn_end (gi_g o.2.2) W T ∧ o.2.2 15 2 = (T : Nat) ∧ ∀ u, u < T → gn_rd (gi_g o.2.2) (gn_hd (gi_g o.2.2) W u) u o.2.2) ∧ (¬ (o.2.2 0 5 = 0 ∧ ga_C (gi_g o.2.2) 0 0 W = 1) → o.2.2 15 2 = 0))) := by
  have fr1 := gx_fr_st σ 15 2 0
  have hC1 : gi_C (np_st σ 15 2 0) := gi_C_eq hC (fr1 1 (by decide)) (fr1 2 (by decide)) (fr1 3 (by decide)) (fr1 4 (by decide)) (fr1 5 (by decide))
  have hT1 : gi_T (np_st σ 15 2 0) := by
    unfold gi_T
    rw [fr1 6 (by decide), fr1 7 (by decide), fr1 29 (by decide), fr1 34 (by decide)]
    exact hT
  obtain ⟨b, N, hN, hN200, hb, h7, hcut⟩ := gr_cut hC1 hT1
  rw [fr1 6 (by decide)] at hN
  refine ⟨b, N, hN, hN200, hb, fun k hk => by have := (h7 k hk).2; rw [fr1 34 (by decide)] at this; exact this, ?_⟩
  unfold f_N_read f_Tree_fell
  refine np_W_bind (np_W_some ?_)
  dsimp only
  refine np_W_seq hcut (fun o ho => ?_)
  obtain ⟨v, σ2⟩ := o
  obtain ⟨a1, a2, W, pl, en, hW⟩ := ho
  dsimp only at a1 a2 hW ⊢
  have fr2 : gx_fr [6, 8, 9, 10, 15] σ σ2 := gx_fr_trans (gx_fr_mono fr1 (by simp)) (gx_fr_mono a1 (by simp))
  have hC2 : gi_C σ2 := gi_C_eq hC (fr2 1 (by decide)) (fr2 2 (by decide)) (fr2 3 (by decide)) (fr2 4 (by decide)) (fr2 5 (by decide))
  have h152 : σ2 15 2 = 0 := by rw [a1 15 (by decide), np_st_s]
  have j6 : ∀ j, j ≠ 5 → j ≠ 6 → σ2 6 j = σ 6 j := fun j j1 j2 => by rw [a2 j j1 j2, fr1 6 (by decide)]
  obtain ⟨w1, w2, w3, w4⟩ := id hW
  have W30 := w2.1
  have hg2 : gx_C (gi_g σ2) W σ2 := gi_gx hC2 W30 (fun i hi => ⟨(gv_tok (w4 i hi).2.2).1, (gv_tok (w4 i hi).2.2).2.1⟩)
  unfold f_N_findFault f_N_noteFault f_N_findFault_114
  rw [w1]
  refine np_W_bind ?_
  refine np_W_seq (gx_follow hg2) (fun o ho => ?_)
  obtain ⟨gd, σ3⟩ := o
  obtain ⟨f1, m, em, mW, mV, mN, mE⟩ := ho
  dsimp only at f1 em mE ⊢
  subst em
  have fr3 : gx_fr [6, 8, 9, 10, 12, 15] σ σ3 := gx_fr_trans (gx_fr_mono fr2 (by simp)) (gx_fr_mono f1 (by simp))
  have w1' : σ3 6 5 = (W : Nat) := by rw [f1 6 (by decide)]; exact w1
  -- any store that differs from σ3 in cell 0 alone, with a fault
  have faulty : ∀ (k p : Int), k ≠ 0 → np_R k → gr_out (gi_g σ2) W (σ2 6 6) (σ 6 1) (fun m => (pl m : Int)) k p 0 → np_W (np_ck (np_R ((np_st (np_st σ3 0 5 k) 0 6 p) 0 5)) (if (np_st (np_st σ3 0 5 k) 0 6 p) 0 5 = 0 then ((f_Chart_countTrees ((np_st (np_st σ3 0 5 k) 0 6 p) 6 5) (np_st (np_st σ3 0 5 k) 0 6 p)).bind (fun o4 => np_ck (np_R o4.1 ∧ np_R 1) (if o4.1 ≠ 1 then (f_N_read_73 o4.1 o4.2) else ((f_Tree_grow (o4.2 6 5) o4.2).bind (fun o5 => f_N_read_73 o4.1 o5.2))))) else (some (1, 0, (np_st (np_st σ3 0 5 k) 0 6 p))))) (fun o => gx_fr [0, 6, 8, 9, 10, 12, 13, 14, 15, 16, 17, 18, 19, 20, 21, 22, 23, 24, 25] σ o.2.2 ∧ (∀ j, j ≠ 5 → j ≠ 6 → o.2.2 6 j = σ 6 j) ∧ ∃ (W : Nat) (pl en : Nat → Nat), gr_W b N W pl en o.2.2 ∧ gr_out (gi_g o.2.2) W (o.2.2 6 6) (σ 6 1) (fun m => (pl m : Int)) (o.2.2 0 5) (o.2.2 0 6) o.2.1 ∧ (o.2.2 0 5 = 0 → o.1 = 0 ∧ 1 ≤ W) ∧ (o.2.2 0 5 ≠ 0 → o.1 = 1 ∧ o.2.1 = 0) ∧ ((o.2.2 0 5 = 0 ∧ ga_C (gi_g o.2.2) 0 0 W = 1 → ∃ T, gn_end (gi_g o.2.2) W T ∧ o.2.2 15 2 = (T : Nat) ∧ ∀ u, u < T → gn_rd (gi_g o.2.2) (gn_hd (gi_g o.2.2) W u) u o.2.2) ∧ (¬ (o.2.2 0 5 = 0 ∧ ga_C (gi_g o.2.2) 0 0 W = 1) → o.2.2 15 2 = 0))) := by
    intro k p hk0 hkR hout
    have e05 : (np_st (np_st σ3 0 5 k) 0 6 p) 0 5 = k := by rw [np_st_n _ _ _ (by decide), np_st_s]
    have e06 : (np_st (np_st σ3 0 5 k) 0 6 p) 0 6 = p := np_st_s _ _ _ _
    have fr4 : gx_fr [0] σ3 (np_st (np_st σ3 0 5 k) 0 6 p) := gx_fr_trans (gx_fr_st _ _ _ _) (gx_fr_st _ _ _ _)
    have fr24 : gx_fr [0, 12] σ2 (np_st (np_st σ3 0 5 k) 0 6 p) := gx_fr_trans (gx_fr_mono f1 (by simp)) (gx_fr_mono fr4 (by simp))
    have eg : gi_g (np_st (np_st σ3 0 5 k) 0 6 p) = gi_g σ2 := gi_g_eq (by rw [fr24 1 (by decide)]) (fr24 2 (by decide)) (fr24 3 (by decide)) (fr24 4 (by decide)) (fr24 5 (by decide)) (fr24 9 (by decide))
    refine np_W_ck (by rw [e05]; exact hkR) ?_
    refine np_W_if (fun z => absurd (by rw [← e05]; exact z) hk0) (fun _ => np_W_some ⟨gx_fr_trans (gx_fr_mono fr3 (by simp)) (gx_fr_mono fr4 (by simp)), fun j j1 j2 => ?_, W, pl, en, gr_W_eq hW (fr24 1 (by decide)) (fr24 2 (by decide)) (fr24 3 (by decide)) (fr24 5 (by decide)) (fr24 6 (by decide)) (fr24 8 (by decide)) (fr24 9 (by decide)) (fr24 10 (by decide)), ?_, fun z => ?_, fun _ => ⟨rfl, rfl⟩, fun z => ?_, fun _ => ?_⟩)
    · dsimp only
      rw [fr24 6 (by decide)]; exact j6 j j1 j2
    · dsimp only
      rw [eg, e05, e06, fr24 6 (by decide)]; exact hout
    · dsimp only at z
      rw [e05] at z; exact absurd z hk0
    · dsimp only at z
      rw [e05] at z; exact absurd z.1 hk0
    · dsimp only
      rw [fr24 15 (by decide)]; exact h152
  have hpl : ∀ i : Nat, i < W → σ3 10 (i : Int) = (pl i : Nat) := fun i hi => by rw [f1 10 (by decide)]; exact (w4 i hi).2.1
  refine np_W_ck ⟨⟨by omega, by omega⟩, by rw [w1']; exact ⟨by omega, by omega⟩⟩ ?_
  refine np_W_if (fun z => ?_) (fun z => ?_) <;> rw [w1'] at z
  · have emW : m = W := by omega
    obtain ⟨L, hch⟩ := mE emW
    have e66 : σ3 6 6 = σ2 6 6 := by rw [f1 6 (by decide)]
    have hall : ∀ i, i < W → ga_VB (gi_g σ2) (i + 1) 0 0 := fun i hi => mV i (by omega)
    have h66R : np_R (σ2 6 6) := by
      rcases w3 with ⟨q, _⟩ | ⟨p, q, q2, _⟩
      · rw [q]; decide
      · rw [q]; exact ⟨by omega, by omega⟩
    refine np_W_ck ⟨by rw [e66]; exact h66R, by decide⟩ ?_
    refine np_W_if (fun z2 => ?_) (fun z2 => ?_)
    · rw [e66] at z2
      have hg3 := gx_C_fr hg2 (gx_fr_mono f1 (by simp))
      rw [w1']
      refine np_W_seq (gx_whole hg3 hch) (fun o ho => ?_)
      obtain ⟨v, σ4⟩ := o
      obtain ⟨e, hbo⟩ := ho
      dsimp only at e hbo ⊢
      subst e
      refine np_W_ck (gs_bo_R hbo) ?_
      refine np_W_if (fun z3 => ?_) (fun z3 => ?_)
      · refine np_W_bind (np_W_some ?_)
        dsimp only
        refine np_W_some ?_
        dsimp only
        have hpos := (gs_bo_1 hbo).mp z3
        have hW1 : 1 ≤ W := by
          have := ga_C_lt hg2.1.1 hpos
          omega
        have e05 : (np_st (np_st σ4 0 5 0) 0 6 (-1)) 0 5 = 0 := by rw [np_st_n _ _ _ (by decide), np_st_s]
        have e06 : (np_st (np_st σ4 0 5 0) 0 6 (-1)) 0 6 = -1 := np_st_s _ _ _ _
        have fr4 : gx_fr [0] σ4 (np_st (np_st σ4 0 5 0) 0 6 (-1)) := gx_fr_trans (gx_fr_st _ _ _ _) (gx_fr_st _ _ _ _)
        have fr24 : gx_fr [0, 12] σ2 (np_st (np_st σ4 0 5 0) 0 6 (-1)) := gx_fr_trans (gx_fr_mono f1 (by simp)) (gx_fr_mono fr4 (by simp))
        generalize hS : np_st (np_st σ4 0 5 0) 0 6 (-1) = S at *
        have hgS := gx_C_eq hg3 (fr4 1 (by decide)) (fr4 2 (by decide)) (fr4 3 (by decide)) (fr4 4 (by decide)) (fr4 5 (by decide)) (fr4 9 (by decide))
        have hchS := gx_ch_fr hch (fr4 12 (by decide))
        have S65 : S 6 5 = (W : Nat) := by rw [fr24 6 (by decide)]; exact w1
        refine np_W_ck (by rw [e05]; decide) ?_
        refine np_W_if (fun _ => ?_) (fun y => absurd e05 y)
        rw [S65]
        refine np_W_seq (gx_count hgS hchS) (fun o ho => ?_)
        obtain ⟨nt, ρ⟩ := o
        obtain ⟨c1, c2, c3⟩ := ho
        dsimp only at c1 c2 c3 ⊢
        have c3 := c3 hW1
        have bs := ga_sat_le (ga_C (gi_g σ2) 0 0 W)
        have fr2r : gx_fr [0, 12, 13, 14] σ2 ρ := gx_fr_trans (gx_fr_mono fr24 (by simp)) (gx_fr_mono c1 (by simp))
        have r05 : ρ 0 5 = 0 := by rw [c1 0 (by decide)]; exact e05
        have r06 : ρ 0 6 = -1 := by rw [c1 0 (by decide)]; exact e06
        have hout : gr_out (gi_g σ2) W (σ2 6 6) (σ 6 1) (fun m => (pl m : Int)) 0 (-1) nt := Or.inr (Or.inr (Or.inr ⟨hall, z2, hpos, rfl, rfl, c3⟩))
        -- the end, from a store that has the tree
        have fin : ∀ ρ2 : np_S, gx_fr [15, 16, 17, 18, 19, 20, 21, 22, 23, 24, 25] ρ ρ2 → (ga_C (gi_g σ2) 0 0 W = 1 → ∃ T, gn_end (gi_g σ2) W T ∧ ρ2 15 2 = (T : Nat) ∧ ∀ u, u < T → gn_rd (gi_g σ2) (gn_hd (gi_g σ2) W u) u ρ2) → (ga_C (gi_g σ2) 0 0 W ≠ 1 → ρ2 15 2 = 0) → np_W (f_N_read_73 nt ρ2) (fun o => gx_fr [0, 6, 8, 9, 10, 12, 13, 14, 15, 16, 17, 18, 19, 20, 21, 22, 23, 24, 25] σ o.2.2 ∧ (∀ j, j ≠ 5 → j ≠ 6 → o.2.2 6 j = σ 6 j) ∧ ∃ (W : Nat) (pl en : Nat → Nat), gr_W b N W pl en o.2.2 ∧ gr_out (gi_g o.2.2) W (o.2.2 6 6) (σ 6 1) (fun m => (pl m : Int)) (o.2.2 0 5) (o.2.2 0 6) o.2.1 ∧ (o.2.2 0 5 = 0 → o.1 = 0 ∧ 1 ≤ W) ∧ (o.2.2 0 5 ≠ 0 → o.1 = 1 ∧ o.2.1 = 0) ∧ ((o.2.2 0 5 = 0 ∧ ga_C (gi_g o.2.2) 0 0 W = 1 → ∃ T, gn_end (gi_g o.2.2) W T ∧ o.2.2 15 2 = (T : Nat) ∧ ∀ u, u < T → gn_rd (gi_g o.2.2) (gn_hd (gi_g o.2.2) W u) u o.2.2) ∧ (¬ (o.2.2 0 5 = 0 ∧ ga_C (gi_g o.2.2) 0 0 W = 1) → o.2.2 15 2 = 0))) := by
          intro ρ2 g1 g2 g3
          have frA : gx_fr [0, 12, 13, 14, 15, 16, 17, 18, 19, 20, 21, 22, 23, 24, 25] σ2 ρ2 := gx_fr_trans (gx_fr_mono fr2r (by simp)) (gx_fr_mono g1 (by simp))
          have eg : gi_g ρ2 = gi_g σ2 := gi_g_eq (by rw [frA 1 (by decide)]) (frA 2 (by decide)) (frA 3 (by decide)) (frA 4 (by decide)) (frA 5 (by decide)) (frA 9 (by decide))
          have s05 : ρ2 0 5 = 0 := by rw [g1 0 (by decide)]; exact r05
          have s06 : ρ2 0 6 = -1 := by rw [g1 0 (by decide)]; exact r06
          unfold f_N_read_73
          refine np_W_some ⟨gx_fr_trans (gx_fr_mono fr2 (by simp)) (gx_fr_mono frA (by simp)), fun j j1 j2 => ?_, W, pl, en, gr_W_eq hW (frA 1 (by decide)) (frA 2 (by decide)) (frA 3 (by decide)) (frA 5 (by decide)) (frA 6 (by decide)) (frA 8 (by decide)) (frA 9 (by decide)) (frA 10 (by decide)), ?_, fun _ => ⟨rfl, hW1⟩, fun y => absurd s05 y, ?_, ?_⟩
          · dsimp only
            rw [frA 6 (by decide)]; exact j6 j j1 j2
          · dsimp only
            rw [eg, s05, s06, frA 6 (by decide)]; exact hout
          · dsimp only
            rw [eg]
            exact fun y => g2 y.2
          · dsimp only
            rw [eg]
            exact fun y => g3 (fun q => y ⟨s05, q⟩)
        refine np_W_ck ⟨by rw [c3]; exact ⟨by omega, by omega⟩, by decide⟩ ?_
        refine np_W_if (fun y => ?_) (fun y => ?_)
        · refine fin ρ (gx_fr_refl _ _) (fun q => ?_) (fun _ => by rw [fr2r 15 (by decide)]; exact h152)
          rw [c3, q] at y
          exact absurd rfl y
        · have y := Classical.not_not.mp y
          rw [c3] at y
          have h1 : ga_C (gi_g σ2) 0 0 W = 1 := ga_sat_one.mp (by omega)
          have hgr := gx_C_eq hgS (c1 1 (by decide)) (c1 2 (by decide)) (c1 3 (by decide)) (c1 4 (by decide)) (c1 5 (by decide)) (c1 9 (by decide))
          have r65 : ρ 6 5 = (W : Nat) := by rw [fr2r 6 (by decide)]; exact w1
          rw [r65]
          refine np_W_seq (gn_cgrow hW1 ⟨hgr, gx_ch_fr hchS (c1 12 (by decide)), c2⟩ h1) (fun o ho => ?_)
          exact fin o.2 ho.1 (fun _ => ho.2) (fun q => absurd h1 q)
      · refine np_W_bind (np_W_some ?_)
        dsimp only
        refine np_W_some ?_
        dsimp only
        have hz : ga_C (gi_g σ2) 0 0 W = 0 := by
          refine Classical.byContradiction (fun q => z3 ((gs_bo_1 hbo).mpr (by omega)))
        have e61 : σ4 6 1 = σ 6 1 := by rw [f1 6 (by decide)]; exact j6 1 (by decide) (by decide)
        rw [e61]
        exact faulty 1 (σ 6 1) (by decide) (by decide) (Or.inr (Or.inr (Or.inl ⟨hall, z2, hz, rfl, rfl⟩)))
    · refine np_W_bind (np_W_some ?_)
      dsimp only
      refine np_W_some ?_
      dsimp only
      rw [e66] at z2 ⊢
      exact faulty 2 (σ2 6 6) (by decide) (by decide) (Or.inr (Or.inl ⟨hall, z2, rfl, rfl⟩))
  · have hmW : m < W := by omega
    refine np_W_ck ⟨by omega, by omega⟩ ?_
    refine np_W_bind (np_W_some ?_)
    dsimp only
    refine np_W_some ?_
    dsimp only
    rw [hpl m hmW]
    exact faulty 1 _ (by decide) (by decide) (Or.inl ⟨m, hmW, mV, mN hmW, rfl, rfl⟩)
