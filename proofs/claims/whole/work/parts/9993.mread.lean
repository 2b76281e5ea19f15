/-! read: the reference -/
section
variable {g : ga_G} {W : Nat}
def gr_Q (g : ga_G) (W : Nat) (wr sz : Int) (pl : Nat → Int) (σ : np_S) (q : np_O) : Prop := gx_fr [29, 39, 40, 41, 42, 43, 44, 45, 46, 47, 48] σ q.2 ∧ (∀ j, j ≠ 0 → j ≠ 9 → j ≠ 10 → j ≠ 18 → j ≠ 27 → q.2 29 j = σ 29 j) ∧ gr_out g W wr sz pl (q.2 29 9) (q.2 29 10) q.1 ∧ (q.2 29 9 = 0 → q.2 29 0 = 0) ∧ (q.2 29 9 ≠ 0 → q.2 29 0 = 1 ∧ q.1 = 0) ∧ (q.2 29 9 = 0 ∧ ga_C g 0 0 W = 1 → ∀ T, gn_end g W T → q.2 29 18 = (T : Nat) ∧ ∀ u, u < T → gn_rm g (gn_hd g W u) u q.2) ∧ (¬ (q.2 29 9 = 0 ∧ ga_C g 0 0 W = 1) → q.2 29 18 = 0)
/-- before the answer: nothing noted yet -/
def gr_nil (σ : np_S) : Prop := σ 29 0 = 0 ∧ σ 29 9 = 0 ∧ σ 29 10 = -1 ∧ σ 29 18 = 0
theorem gr_faulty {wr sz : Int} {pl : Nat → Int} {σ : np_S} (h0 : gr_nil σ) {k p : Int} (hk : k ≠ 0) (hout : gr_out g W wr sz pl k p 0) : np_W ((f_M_faulty k p σ).bind (fun o => f_M_read_117 o.2)) (gr_Q g W wr sz pl σ) := by
  unfold f_M_faulty f_M_read_117
  refine np_W_bind (np_W_some ?_)
  dsimp only
  have fr : gx_fr [29] σ (np_st (np_st (np_st σ 29 9 k) 29 10 p) 29 0 1) := gx_fr_trans (gx_fr_st _ _ _ _) (gx_fr_trans (gx_fr_st _ _ _ _) (gx_fr_st _ _ _ _))
  have e0 : np_st (np_st (np_st σ 29 9 k) 29 10 p) 29 0 1 29 0 = 1 := np_st_s _ _ _ _
  have e9 : np_st (np_st (np_st σ 29 9 k) 29 10 p) 29 0 1 29 9 = k := by rw [np_st_n _ _ _ (by decide), np_st_n _ _ _ (by decide), np_st_s]
  have e10 : np_st (np_st (np_st σ 29 9 k) 29 10 p) 29 0 1 29 10 = p := by rw [np_st_n _ _ _ (by decide), np_st_s]
  have ej : ∀ j, j ≠ 0 → j ≠ 9 → j ≠ 10 → np_st (np_st (np_st σ 29 9 k) 29 10 p) 29 0 1 29 j = σ 29 j := fun j a b c => by rw [np_st_n _ _ _ a, np_st_n _ _ _ c, np_st_n _ _ _ b]
  generalize np_st (np_st (np_st σ 29 9 k) 29 10 p) 29 0 1 = S at *
  refine np_W_ck (by rw [e0]; decide) ?_
  refine np_W_if (fun z => absurd z (by rw [e0]; decide)) (fun _ => np_W_some ⟨gx_fr_mono fr (by simp), fun j a b c _ _ => ej j a b c, ?_, fun z => ?_, fun _ => ⟨e0, rfl⟩, fun z => ?_, fun _ => ?_⟩)
  · dsimp only; rw [e9, e10]; exact hout
  · dsimp only at z; rw [e9] at z; exact absurd z hk
  · dsimp only at z; rw [e9] at z; exact absurd z.1 hk
  · dsimp only; rw [ej 18 (by decide) (by decide) (by decide)]; exact h0.2.2.2
theorem gr_53 {wr sz : Int} {pl : Nat → Int} {σ : np_S} (hM : gy_M g W σ) (hd : gy_done g W σ) (h0 : gr_nil σ) (hwr : np_R wr) (hsz : σ 29 8 = sz) (hpl : ∀ i : Nat, i < W → σ 36 (i : Int) = pl i) {m : Nat} (hm1 : 1 ≤ m) (hm2 : m ≤ W + 1) (hv : ∀ i, i + 1 < m → ga_VB g (i + 1) 0 0) (hn : m ≤ W → ¬ ga_VB g m 0 0) : np_W (f_M_read_53 wr m σ) (gr_Q g W wr sz pl σ) := by
  obtain ⟨hgp, n30, hC, hMM, e2, e11, hrow, hwd⟩ := id hM
  have hcell : f_M_cell 0 0 (W : Int) σ = some (((gy_ix 0 0 W : Nat) : Int), σ) := gy_cell 0 0 W σ
  have b37 : gy_ix 0 0 W < 10571 := by unfold gy_ix; omega
  have ht := (hd.1 0 0 W (by omega) (by omega) (by omega)).1 ⟨by omega, Nat.le_refl _⟩
  unfold gy_tm at ht
  have ht : σ 37 ((gy_ix 0 0 W : Nat) : Int) = ga_sat (ga_C g 0 0 W) := ht
  have bs := ga_sat_le (ga_C g 0 0 W)
  unfold f_M_read_53
  refine np_W_ck ⟨⟨by omega, by omega⟩, by rw [e11]; exact ⟨by omega, by omega⟩⟩ ?_
  refine np_W_if (fun z => ?_) (fun z => ?_) <;> rw [e11] at z
  · have hall : ∀ i, i < W → ga_VB g (i + 1) 0 0 := fun i hi => hv i (by omega)
    refine np_W_ck ⟨hwr, by decide⟩ ?_
    refine np_W_if (fun zw => ?_) (fun zw => gr_faulty h0 (by decide) (Or.inr (Or.inl ⟨hall, zw, rfl, rfl⟩)))
    rw [e11, hcell]
    refine np_W_bind (np_W_some ?_)
    dsimp only
    refine np_W_ck ⟨by omega, by omega⟩ ?_
    refine np_W_ck (by rw [ht]; exact ⟨by omega, by omega⟩) ?_
    refine np_W_if (fun z2 => ?_) (fun z2 => ?_)
    · rw [ht] at z2
      have hpos : 0 < ga_C g 0 0 W := ga_sat_pos.mp (by omega)
      have hout : gr_out g W wr sz pl 0 (-1) (ga_sat (ga_C g 0 0 W) : Nat) := Or.inr (Or.inr (Or.inr ⟨hall, zw, hpos, rfl, rfl, rfl⟩))
      have hW1 := ga_C_lt hgp.1 hpos
      unfold f_M_read_117 f_M_read_150
      refine np_W_ck (by rw [h0.1]; decide) ?_
      refine np_W_if (fun _ => ?_) (fun y => absurd (by rw [h0.1]; decide) y)
      rw [e11, hcell]
      refine np_W_bind (np_W_some ?_)
      dsimp only
      refine np_W_ck ⟨by omega, by omega⟩ ?_
      refine np_W_ck ⟨by rw [ht]; exact ⟨by omega, by omega⟩, by decide⟩ ?_
      refine np_W_if (fun z3 => ?_) (fun z3 => ?_) <;> rw [ht] at z3
      · rw [ht]
        refine np_W_some ⟨gx_fr_refl _ _, fun _ _ _ _ _ _ => rfl, ?_, fun _ => h0.1, fun y => absurd h0.2.1 y, fun y => ?_, fun _ => h0.2.2.2⟩
        · dsimp only; rw [h0.2.1, h0.2.2.1]; exact hout
        · rw [y.2] at z3; exact absurd rfl z3
      · have z3 := Classical.not_not.mp z3
        have h1 : ga_C g 0 0 W = 1 := ga_sat_one.mp (by omega)
        rw [ht]
        have hT : ∃ T, gn_end g W T := by
          -- some count of nodes ends the growing
          have key : ∀ d t, t + d = W → (∀ u, u < t → gn_S g W u ≠ []) → gn_inv g W t → ∃ T, gn_end g W T := by
            intro d
            induction d with
            | zero =>
              intro t ht2 hu hi
              refine ⟨t, ?_, hu, by omega⟩
              refine Classical.byContradiction (fun y => ?_)
              have := (gn_inv_s hgp.1 n30 hi y).2
              omega
            | succ d ih =>
              intro t ht2 hu hi
              by_cases y : gn_S g W t = []
              · exact ⟨t, y, hu, by omega⟩
              · exact ih (t + 1) (by omega) (fun u hu2 => by
                  by_cases e : u = t
                  · rw [e]; exact y
                  · exact hu u (by omega)) (gn_inv_s hgp.1 n30 hi y).1
          exact key W 0 (by omega) (fun u hu => by omega) (gn_inv_0 h1 (by omega))
        obtain ⟨T, hT⟩ := hT
        refine np_W_seq (gn_mgrow hT (by omega) h1 ⟨hM, hd⟩ h0.2.2.2) (fun o ho => ?_)
        obtain ⟨v, ρ⟩ := o
        obtain ⟨c1, c2, c3, c4⟩ := ho
        dsimp only at c1 c2 c3 c4 ⊢
        refine np_W_some ⟨gx_fr_mono c1 (by simp), fun j _ _ _ j18 j27 => c2 j j18 j27, ?_, fun _ => ?_, fun y => ?_, fun _ T2 hT2 => ?_, fun y => ?_⟩
        · dsimp only; rw [c2 9 (by decide) (by decide), c2 10 (by decide) (by decide), h0.2.1, h0.2.2.1]; exact hout
        · dsimp only; rw [c2 0 (by decide) (by decide)]; exact h0.1
        · dsimp only at y; rw [c2 9 (by decide) (by decide)] at y; exact absurd h0.2.1 y
        · have eT : T = T2 := by
            rcases Nat.lt_trichotomy T T2 with q | q | q
            · exact absurd hT.1 (hT2.2.1 T q)
            · exact q
            · exact absurd hT2.1 (hT.2.1 T2 q)
          rw [← eT]
          exact ⟨c3, c4⟩
        · dsimp only at y; rw [c2 9 (by decide) (by decide)] at y; exact absurd ⟨h0.2.1, h1⟩ y
    · have z2 := Classical.not_not.mp z2
      rw [ht] at z2
      have hz : ga_C g 0 0 W = 0 := by
        refine Classical.byContradiction (fun q => ?_)
        have := ga_sat_pos.mpr (Nat.pos_of_ne_zero q)
        omega
      rw [hsz]
      exact gr_faulty h0 (by decide) (Or.inr (Or.inr (Or.inl ⟨hall, zw, hz, rfl, rfl⟩)))
  · refine np_W_ck ⟨by omega, by omega⟩ ?_
    have e1 : (m : Int) - 1 = ((m - 1 : Nat) : Int) := by omega
    rw [e1, hpl (m - 1) (by omega)]
    refine gr_faulty h0 (by decide) (Or.inl ⟨m - 1, by omega, fun i hi => hv i (by omega), ?_, rfl, rfl⟩)
    rw [show m - 1 + 1 = m by omega]
    exact hn (by omega)
theorem gr_31 {wr sz : Int} {pl : Nat → Int} (hwr : np_R wr) : ∀ (f m : Nat) (σ : np_S), 1 ≤ m → m ≤ W + 1 → W + 1 - m < f → gy_M g W σ → gy_done g W σ → gr_nil σ → σ 29 8 = sz → (∀ i : Nat, i < W → σ 36 (i : Int) = pl i) → (∀ i, i + 1 < m → ga_VB g (i + 1) 0 0) → np_W (f_M_read_31 f wr m σ) (gr_Q g W wr sz pl σ) := by
  intro f
  induction f with
  | zero => intro m σ _ _ h; omega
  | succ f ih =>
    intro m σ hm1 hm2 hf hM hd h0 hsz hpl hv
    have e11 := hM.2.2.2.2.2.1
    have n30 := hM.2.1
    show np_W (f_M_read_31_b _ wr m σ) _
    unfold f_M_read_31_b
    refine np_W_ck ⟨⟨by omega, by omega⟩, by rw [e11]; exact ⟨by omega, by omega⟩⟩ ?_
    refine np_W_if (fun z => ?_) (fun z => ?_) <;> rw [e11] at z
    · exact gr_53 hM hd h0 hwr hsz hpl hm1 hm2 hv (fun y => by omega)
    · refine np_W_seq (gz_can hM hd (m := m) (by omega) hm1) (fun o ho => ?_)
      obtain ⟨v, ρ⟩ := o
      obtain ⟨c1, hb⟩ := ho
      dsimp only at c1 hb ⊢
      have hM2 := gy_M_fr hM c1 (by decide)
      have hd2 := gz_done_fr hd c1
      have h02 : gr_nil ρ := by unfold gr_nil; rw [c1 29 (by decide)]; exact h0
      have up : ∀ q, gr_Q g W wr sz pl ρ q → gr_Q g W wr sz pl σ q := fun q hq => ⟨gx_fr_trans (gx_fr_mono c1 (by simp)) hq.1, fun j a b c d e => by rw [hq.2.1 j a b c d e, c1 29 (by decide)], hq.2.2⟩
      refine np_W_ck (gs_bo_R hb) ?_
      refine np_W_if (fun y => np_W_mono (gr_53 hM2 hd2 h02 hwr (by rw [c1 29 (by decide)]; exact hsz) (fun i hi => by rw [c1 36 (by decide)]; exact hpl i hi) hm1 hm2 hv (fun _ q => (gs_bo_1 hb).mpr q y)) up) (fun y => ?_)
      have e5 : (m : Int) + 1 = ((m + 1 : Nat) : Int) := by omega
      rw [e5]
      refine np_W_mono (ih (m + 1) ρ (by omega) (by omega) (by omega) hM2 hd2 h02 (by rw [c1 29 (by decide)]; exact hsz) (fun i hi => by rw [c1 36 (by decide)]; exact hpl i hi) (fun i hi => ?_)) up
      by_cases e : i + 1 = m
      · rw [e]; exact (gs_bo_1 hb).mp y
      · exact hv i (by omega)
end
theorem gr_model {τ : np_S} (hC : gi_C τ) (hM : gi_M τ) {b : Nat → Int} {N W : Nat} {pl en : Nat → Nat} (hN : τ 29 8 = (N : Nat)) (hN2 : N ≤ 200) (hb : ∀ k, k < N → 0 ≤ b k ∧ b k < 256) (h34 : ∀ k : Nat, k < N → τ 34 (k : Int) = b k) (hW : gr_W b N W pl en τ) : np_W (f_M_read τ) (fun q => gx_fr [29, 35, 36, 37, 38, 39, 40, 41, 42, 43, 44, 45, 46, 47, 48] τ q.2 ∧ (∀ j, j ≠ 0 → j ≠ 9 → j ≠ 10 → j ≠ 11 → j ≠ 18 → j ≠ 27 → q.2 29 j = τ 29 j) ∧ q.2 29 11 = (W : Nat) ∧ (∀ i : Nat, i < W → q.2 35 (i : Int) = τ 8 (i : Int) ∧ q.2 36 (i : Int) = τ 10 (i : Int)) ∧ gr_out (gi_g τ) W (τ 6 6) (N : Nat) (fun m => (pl m : Int)) (q.2 29 9) (q.2 29 10) q.1 ∧ (q.2 29 9 = 0 → q.2 29 0 = 0) ∧ (q.2 29 9 ≠ 0 → q.2 29 0 = 1 ∧ q.1 = 0) ∧ (q.2 29 9 = 0 ∧ ga_C (gi_g τ) 0 0 W = 1 → ∀ T, gn_end (gi_g τ) W T → q.2 29 18 = (T : Nat) ∧ ∀ u, u < T → gn_rm (gi_g τ) (gn_hd (gi_g τ) W u) u q.2) ∧ (¬ (q.2 29 9 = 0 ∧ ga_C (gi_g τ) 0 0 W = 1) → q.2 29 18 = 0)) := by
  obtain ⟨w1, w2, w3, w4⟩ := id hW
  have W30 := w2.1
  unfold f_M_read
  have fr0 : gx_fr [29] τ (np_st (np_st (np_st (np_st τ 29 0 0) 29 18 0) 29 9 0) 29 10 (-1)) := gx_fr_trans (gx_fr_st _ _ _ _) (gx_fr_trans (gx_fr_st _ _ _ _) (gx_fr_trans (gx_fr_st _ _ _ _) (gx_fr_st _ _ _ _)))
  have s0 : gr_nil (np_st (np_st (np_st (np_st τ 29 0 0) 29 18 0) 29 9 0) 29 10 (-1)) := by
    refine ⟨?_, ?_, np_st_s _ _ _ _, ?_⟩
    · rw [np_st_n _ _ _ (by decide), np_st_n _ _ _ (by decide), np_st_n _ _ _ (by decide), np_st_s]
    · rw [np_st_n _ _ _ (by decide), np_st_s]
    · rw [np_st_n _ _ _ (by decide), np_st_n _ _ _ (by decide), np_st_s]
  have sj : ∀ j, j ≠ 0 → j ≠ 9 → j ≠ 10 → j ≠ 18 → np_st (np_st (np_st (np_st τ 29 0 0) 29 18 0) 29 9 0) 29 10 (-1) 29 j = τ 29 j := fun j a b c d => by rw [np_st_n _ _ _ c, np_st_n _ _ _ b, np_st_n _ _ _ d, np_st_n _ _ _ a]
  generalize np_st (np_st (np_st (np_st τ 29 0 0) 29 18 0) 29 9 0) 29 10 (-1) = S at *
  refine np_W_seq (gw_take (σ := S) (b := b) (N := N) hb (fun k hk => by rw [fr0 34 (by decide)]; exact h34 k hk) hN2 (by rw [sj 8 (by decide) (by decide) (by decide) (by decide)]; exact hN)) (fun o ho => ?_)
  obtain ⟨wr, σ1⟩ := o
  obtain ⟨W2, pl2, en2, ⟨i1, i2, i3, i4, i5⟩, i6⟩ := ho
  dsimp only at i1 i2 i3 i5 i6 ⊢
  obtain ⟨u1, u2, u3⟩ := gw_uni w2 w3 i4 i6
  subst u1
  have fr1 : gx_fr [29, 35, 36] τ σ1 := gx_fr_trans (gx_fr_mono fr0 (by simp)) i1
  have k29 : ∀ j, j ≠ 0 → j ≠ 9 → j ≠ 10 → j ≠ 11 → j ≠ 18 → σ1 29 j = τ 29 j := fun j a b c d e => by rw [i2 j d, sj j a b c e]
  have c35 : ∀ i : Nat, i < W → σ1 35 (i : Int) = τ 8 (i : Int) ∧ σ1 36 (i : Int) = τ 10 (i : Int) := by
    intro i hi
    obtain ⟨a1, a2⟩ := i5 i hi
    obtain ⟨b1, b2, _⟩ := w4 i hi
    rw [a1, a2, b1, b2, (u3 i hi).1, (u3 i hi).2]
    exact ⟨rfl, rfl⟩
  have hC1 : gi_C σ1 := gi_C_eq hC (fr1 1 (by decide)) (fr1 2 (by decide)) (fr1 3 (by decide)) (fr1 4 (by decide)) (fr1 5 (by decide))
  have hM1 : gi_M σ1 := gi_M_eq hM (fr1 1 (by decide)) (fr1 2 (by decide)) (fr1 3 (by decide)) (fr1 4 (by decide)) (fr1 5 (by decide)) (k29 1 (by decide) (by decide) (by decide) (by decide) (by decide)) (k29 2 (by decide) (by decide) (by decide) (by decide) (by decide)) (fr1 30 (by decide)) (fr1 31 (by decide)) (fr1 32 (by decide)) (fr1 33 (by decide))
  have eg : gi_g σ1 = gi_g τ := gi_g_eq (by rw [fr1 1 (by decide)]) (fr1 2 (by decide)) (fr1 3 (by decide)) (fr1 4 (by decide)) (fr1 5 (by decide)) (fr1 9 (by decide))
  have hW1 := gr_W_eq hW (fr1 1 (by decide)) (fr1 2 (by decide)) (fr1 3 (by decide)) (fr1 5 (by decide)) (fr1 6 (by decide)) (fr1 8 (by decide)) (fr1 9 (by decide)) (fr1 10 (by decide))
  have hgy : gy_M (gi_g τ) W σ1 := by
    rw [← eg]
    exact gi_gy hC1 hM1 W30 i3 (fun i hi => ⟨(hW1.2.2.2 i hi).2.2, by rw [(c35 i hi).1, fr1 8 (by decide)]⟩)
  have s01 : gr_nil σ1 := by
    refine ⟨?_, ?_, ?_, ?_⟩
    · rw [i2 0 (by decide)]; exact s0.1
    · rw [i2 9 (by decide)]; exact s0.2.1
    · rw [i2 10 (by decide)]; exact s0.2.2.1
    · rw [i2 18 (by decide)]; exact s0.2.2.2
  refine np_W_seq (gy_count hgy) (fun o ho => ?_)
  obtain ⟨v, σ2⟩ := o
  obtain ⟨d1, d2⟩ := ho
  dsimp only at d1 d2 ⊢
  have hwr : np_R wr := by
    rcases i6 with ⟨q, _⟩ | ⟨p, q, q2, _⟩
    · rw [q]; decide
    · rw [q]; exact ⟨by omega, by omega⟩
  have e1 : (1 : Int) = ((1 : Nat) : Int) := rfl
  refine np_W_mono (gr_31 (g := gi_g τ) (W := W) (wr := wr) (sz := ((N : Nat) : Int)) (pl := fun m => (pl m : Int)) hwr 20000 1 σ2 (by omega) (by omega) (by omega) (gy_M_fr hgy d1 (by decide)) d2 (by unfold gr_nil; rw [d1 29 (by decide)]; exact s01) (by rw [d1 29 (by decide), k29 8 (by decide) (by decide) (by decide) (by decide) (by decide)]; exact hN) (fun i hi => by rw [d1 36 (by decide), (c35 i hi).2]; exact (w4 i hi).2.1) (fun i hi => by omega)) (fun q hq => ?_)
  obtain ⟨q1, q2, q3, q4⟩ := hq
  refine ⟨gx_fr_trans (gx_fr_mono fr1 (by simp)) (gx_fr_trans (gx_fr_mono d1 (by simp)) (gx_fr_mono q1 (by simp))), fun j a b c d e f => ?_, ?_, fun i hi => ?_, by rw [u2]; exact q3, q4⟩
  · rw [q2 j a b c e f, d1 29 (by decide), k29 j a b c d e]
  · rw [q2 11 (by decide) (by decide) (by decide) (by decide) (by decide), d1 29 (by decide)]; exact i3
  · rw [q1 35 (by decide), q1 36 (by decide), d1 35 (by decide), d1 36 (by decide)]
    exact c35 i hi
