/-! the reference's takeWords -/
section
variable {b : Nat → Int} {N : Nat} {σ : np_S}
def gw_mput (p c : Int) (σ : np_S) : np_S := np_st (np_st (np_st σ 35 (σ 29 11) c) 36 (σ 29 11) p) 29 11 (σ 29 11 + 1)
theorem gw_118 {k7 : Int → np_S → Option np_O} {Q : np_O → Prop} (hb : ∀ k, k < N → 0 ≤ b k ∧ b k < 256) (h34 : ∀ k, k < N → σ 34 (k : Nat) = b k) (hN : N ≤ 200) (h0 : 0 ≤ σ 29 11) (h1 : σ 29 11 < 31) {p e : Nat} (pe : p < e) (eN : e ≤ N) (hk : np_W (k7 e (gw_mput p (gw_cd b p (e - p)) σ)) Q) : ∀ (f x : Nat), p ≤ x → x ≤ e → e - x < f → np_W (f_M_takeWords_118 k7 f p e (gw_cd b p (x - p)) x σ) Q := by
  intro f
  induction f with
  | zero => intro x _ _ h; omega
  | succ f ih =>
    intro x px xe hf
    show np_W (f_M_takeWords_118_b k7 _ p e (gw_cd b p (x - p)) x σ) _
    unfold f_M_takeWords_118_b
    refine np_W_ck ⟨⟨by omega, by omega⟩, ⟨by omega, by omega⟩⟩ ?_
    refine np_W_if (fun h => ?_) (fun h => ?_)
    · have ex : x = e := by omega
      subst ex
      have e1 : np_st σ 35 (σ 29 11) (gw_cd b p (x - p)) 29 = σ 29 := np_st_o _ _ _ (by decide)
      refine np_W_ck ⟨h0, h1⟩ ?_
      refine np_W_ck (by rw [e1]; exact ⟨h0, h1⟩) ?_
      rw [np_st_o _ _ _ (show 29 ≠ 36 by decide), e1]
      exact hk
    · refine np_W_ck ⟨by omega, by omega⟩ ?_
      have hbx := hb x (by omega)
      rw [h34 x (by omega)]
      refine np_W_ck ⟨by omega, by omega⟩ ?_
      have := ih (x + 1) (by omega) (by omega) (by omega)
      rw [show x + 1 - p = (x - p) + 1 by omega] at this
      have ec : gw_cd b p ((x - p) + 1) = np_orl (np_shll (gw_cd b p (x - p)) 8) (b x) := by
        show np_orl (np_shll (gw_cd b p (x - p)) 8) (b (p + (x - p))) = _
        rw [show p + (x - p) = x by omega]
      rw [ec] at this
      exact this
theorem gw_so (x : Int) : (gs_kd x ≤ 1 → gs_so x = 0) ∧ (2 ≤ gs_kd x → gs_so x = gs_kd x - 1) := by
  unfold gs_so
  constructor
  · intro h; rw [if_pos h]
  · intro h; rw [if_neg (by omega)]
theorem gw_57 {k7 : Int → np_S → Option np_O} {Q : np_O → Prop} (hb : ∀ k, k < N → 0 ≤ b k ∧ b k < 256) (h34 : ∀ k, k < N → σ 34 (k : Nat) = b k) (hN : N ≤ 200) (hs : σ 29 8 = N) {p : Nat} (hp : p < N) (hk1 : gs_kd (b p) ≠ 1) (hA : gs_kd (b p) = 0 → Q (p, σ)) (hB : ∀ e, gw_max b N p e → 2 ≤ gs_kd (b p) → np_W (f_M_takeWords_89 k7 p (gs_so (b p)) e σ) Q) : ∀ (f e : Nat), p < e → e ≤ N → N - e < f → (2 ≤ gs_kd (b p) → gs_kd (b p) = 5 → e = p + 1) → (2 ≤ gs_kd (b p) → ∀ t, p ≤ t → t < e → gs_kd (b t) = gs_kd (b p)) → np_W (f_M_takeWords_57 k7 f p (gs_so (b p)) e σ) Q := by
  have hk := gs_kd_r (b p)
  have hso := gw_so (b p)
  have fin : ∀ e : Nat, p < e → e ≤ N → (2 ≤ gs_kd (b p) → gw_max b N p e) → np_W (f_M_takeWords_89 k7 p (gs_so (b p)) e σ) Q := by
    intro e pe eN hm
    by_cases h2 : 2 ≤ gs_kd (b p)
    · exact hB e (hm h2) h2
    · unfold f_M_takeWords_89 f_M_takeWords_110
      have e0 : gs_so (b p) = 0 := hso.1 (by omega)
      rw [e0]
      refine np_W_ck (by decide) ?_
      exact np_W_if (fun _ => np_W_some (hA (by omega))) (fun g => absurd rfl g)
  have hsr := gs_so_r (b p)
  intro f
  induction f with
  | zero => intro e _ _ h; omega
  | succ f ih =>
    intro e pe eN hf h5 ht
    show np_W (f_M_takeWords_57_b k7 _ p (gs_so (b p)) e σ) _
    unfold f_M_takeWords_57_b
    refine np_W_ck ⟨⟨by omega, by omega⟩, by decide⟩ ?_
    refine np_W_if (fun g => fin e pe eN (fun h2 => ?_)) (fun g => ?_)
    · have e5 : gs_kd (b p) = 5 := by have := hso.2 h2; omega
      exact ⟨pe, eN, ht h2, h5 h2, fun z => absurd e5 z⟩
    have n5 : gs_kd (b p) ≠ 5 := by
      intro z
      have := hso.2 (by omega)
      omega
    rw [hs]
    refine np_W_ck ⟨⟨by omega, by omega⟩, ⟨by omega, by omega⟩⟩ ?_
    refine np_W_if (fun g2 => fin e pe eN (fun h2 => ⟨pe, eN, ht h2, h5 h2, fun _ => Or.inl (by omega)⟩)) (fun g2 => ?_)
    refine np_W_ck ⟨by omega, by omega⟩ ?_
    have hbe := hb e (by omega)
    rw [h34 e (by omega), gs_sort _ hbe.1 (by omega)]
    refine np_W_bind (np_W_some ?_)
    dsimp only
    have hse := gs_so_r (b e)
    have hso2 := gw_so (b e)
    refine np_W_ck ⟨⟨by omega, by omega⟩, ⟨by omega, by omega⟩⟩ ?_
    refine np_W_if (fun g3 => fin e pe eN (fun h2 => ⟨pe, eN, ht h2, h5 h2, fun _ => Or.inr (fun z => g3 ?_)⟩)) (fun g3 => ?_)
    · rw [hso2.2 (by rw [z]; exact h2), hso.2 h2, z]
    · have g3 := Classical.not_not.mp g3
      refine ih (e + 1) (by omega) (by omega) (by omega) (fun _ z => absurd z n5) (fun h2 t t0 t1 => ?_)
      by_cases z : t = e
      · rw [z]
        have x1 := hso.2 h2
        by_cases z2 : 2 ≤ gs_kd (b e)
        · have x2 := hso2.2 z2
          omega
        · have x2 := hso2.1 (by omega)
          omega
      · exact ht h2 t t0 (by omega)
def gw_minv (σ : np_S) (b : Nat → Int) (N : Nat) (τ : np_S) (W : Nat) (pl en : Nat → Nat) : Prop := (∀ k, k ∉ [29, 35, 36] → τ k = σ k) ∧ (∀ j, j ≠ 11 → τ 29 j = σ 29 j) ∧ τ 29 11 = W ∧ gw_pre b N W pl en ∧ ∀ i : Nat, i < W → τ 35 i = gw_cd b (pl i) (en i - pl i) ∧ τ 36 i = pl i
theorem gw_mloop (hb : ∀ k, k < N → 0 ≤ b k ∧ b k < 256) (h34 : ∀ k, k < N → σ 34 (k : Nat) = b k) (hN : N ≤ 200) (hs : σ 29 8 = N) : ∀ (f p : Nat) (τ : np_S) (W : Nat) (pl en : Nat → Nat), p ≤ N → N - p < f → gw_minv σ b N τ W pl en → gw_last en W ≤ p → gw_sp b (gw_last en W) p → np_W (f_M_takeWords_7 f p τ) (fun o => ∃ (W : Nat) (pl en : Nat → Nat), gw_minv σ b N o.2 W pl en ∧ gw_stop b N W en o.1) := by
  intro f
  induction f with
  | zero => intro p τ W pl en _ h; omega
  | succ f ih =>
    intro p τ W pl en pN hf hi hl hsp
    obtain ⟨i1, i2, i3, i4, i5⟩ := id hi
    have W30 := i4.1
    show np_W (f_M_takeWords_7_b _ p τ) _
    unfold f_M_takeWords_7_b f_M_takeWords_37
    have s8 : τ 29 8 = N := by rw [i2 8 (by decide), hs]
    have s34 : ∀ k, k < N → τ 34 (k : Nat) = b k := by rw [i1 34 (by decide)]; exact h34
    rw [s8]
    refine np_W_ck ⟨⟨by omega, by omega⟩, ⟨by omega, by omega⟩⟩ ?_
    refine np_W_if (fun h => np_W_some ⟨W, pl, en, hi, Or.inl ⟨rfl, ?_⟩⟩) (fun hp => ?_)
    · have : p = N := by omega
      rw [← this]; exact hsp
    have hbp := hb p (by omega)
    rw [s34 p (by omega)]
    refine np_W_ck ⟨by omega, by omega⟩ ?_
    have skip : gs_kd (b p) = 1 → np_W (f_M_takeWords_7 f ((p : Int) + 1) τ) (fun o => ∃ (W : Nat) (pl en : Nat → Nat), gw_minv σ b N o.2 W pl en ∧ gw_stop b N W en o.1) := by
      intro z
      refine ih (p + 1) τ W pl en (by omega) (by omega) hi (by omega) (fun x x0 x1 => ?_)
      by_cases zx : x = p
      · rw [zx]; exact z
      · exact hsp x x0 (by omega)
    refine np_W_ck ⟨⟨by omega, by omega⟩, by decide⟩ ?_
    refine np_W_if (fun g => skip (by unfold gs_kd; rw [if_pos (Or.inl g)])) (fun g32 => ?_)
    refine np_W_ck ⟨by omega, by omega⟩ ?_
    refine np_W_ck ⟨⟨by omega, by omega⟩, by decide⟩ ?_
    refine np_W_if (fun g10 => ?_) (fun g10 => skip (by unfold gs_kd; rw [if_pos (Or.inr (Classical.not_not.mp g10))]))
    have n1 : gs_kd (b p) ≠ 1 := by
      unfold gs_kd
      rw [if_neg (by omega)]
      (repeat' split) <;> decide
    refine np_W_ck ⟨by omega, by omega⟩ ?_
    rw [gs_sort _ hbp.1 (by omega)]
    refine np_W_bind (np_W_some ?_)
    dsimp only
    have hsr := gs_so_r (b p)
    have hso := gw_so (b p)
    refine gw_57 hb s34 hN s8 (by omega) n1 (fun z => ⟨W, pl, en, hi, Or.inr ⟨p, rfl, by omega, hl, hsp, n1, Or.inl z⟩⟩) (fun e hm h2 => ?_) 20000 (p + 1) (by omega) (by omega) (by omega) (fun _ _ => rfl) (fun _ t t0 t1 => by rw [show t = p by omega])
    have hm2 := hm
    obtain ⟨m1, m2, m3, _⟩ := hm2
    unfold f_M_takeWords_89 f_M_takeWords_110
    have es := hso.2 h2
    refine np_W_ck ⟨by omega, by omega⟩ ?_
    refine np_W_if (fun z => by omega) (fun _ => ?_)
    refine np_W_ck ⟨⟨by omega, by omega⟩, by decide⟩ ?_
    refine np_W_if (fun g8 => np_W_some ⟨W, pl, en, hi, Or.inr ⟨p, rfl, by omega, hl, hsp, n1, Or.inr (Or.inl ⟨e, hm, by omega⟩)⟩⟩) (fun g8 => ?_)
    rw [i3]
    refine np_W_ck ⟨⟨by omega, by omega⟩, by decide⟩ ?_
    refine np_W_if (fun g30 => ?_) (fun g30 => np_W_some ⟨W, pl, en, hi, Or.inr ⟨p, rfl, by omega, hl, hsp, n1, Or.inr (Or.inr (by omega))⟩⟩)
    obtain ⟨pl2, en2, n1, n2, n3, n4, n5⟩ := gw_pre_snoc i4 (by omega) hl hsp hm h2 (by omega)
    have := gw_118 (k7 := fun x1 σ => f_M_takeWords_7 f x1 σ) (Q := fun o => ∃ (W : Nat) (pl en : Nat → Nat), gw_minv σ b N o.2 W pl en ∧ gw_stop b N W en o.1) hb s34 hN (by rw [i3]; omega) (by rw [i3]; omega) m1 m2 ?_ 20000 p (by omega) (by omega) (by omega)
    · rw [show p - p = 0 by omega] at this
      exact this
    refine ih e _ (W + 1) pl2 en2 m2 (by omega) ⟨fun k hk => ?_, fun j j11 => ?_, ?_, n1, fun i hi => ?_⟩ (by omega) (fun x x0 x1 => by omega)
    · simp only [List.mem_cons, List.not_mem_nil, or_false, not_or] at hk
      unfold gw_mput
      rw [np_st_o _ _ _ hk.1, np_st_o _ _ _ hk.2.2, np_st_o _ _ _ hk.2.1]
      exact i1 k (by simp only [List.mem_cons, List.not_mem_nil, or_false, not_or]; exact hk)
    · unfold gw_mput
      rw [np_st_n _ _ _ j11, np_st_o _ _ _ (by decide), np_st_o _ _ _ (by decide)]
      exact i2 j j11
    · unfold gw_mput
      rw [np_st_s, i3]; omega
    · have q35 : gw_mput p (gw_cd b p (e - p)) τ 35 i = if (i : Int) = τ 29 11 then gw_cd b p (e - p) else τ 35 i := by
        unfold gw_mput
        rw [np_st_o _ _ _ (by decide), np_st_o _ _ _ (by decide), np_st_rd, if_pos rfl]
      have q36 : gw_mput p (gw_cd b p (e - p)) τ 36 i = if (i : Int) = τ 29 11 then (p : Int) else τ 36 i := by
        unfold gw_mput
        rw [np_st_o _ _ _ (by decide), np_st_rd, if_pos rfl, np_st_o _ _ _ (by decide)]
      rw [q35, q36, i3]
      by_cases z : i = W
      · subst z
        rw [if_pos rfl, if_pos rfl, n4, n5]
        exact ⟨rfl, rfl⟩
      · rw [if_neg (by omega), if_neg (by omega), (n3 i (by omega)).1, (n3 i (by omega)).2]
        exact i5 i (by omega)
theorem gw_take (hb : ∀ k, k < N → 0 ≤ b k ∧ b k < 256) (h34 : ∀ k, k < N → σ 34 (k : Nat) = b k) (hN : N ≤ 200) (hs : σ 29 8 = N) : np_W (f_M_takeWords σ) (fun o => ∃ (W : Nat) (pl en : Nat → Nat), gw_minv σ b N o.2 W pl en ∧ gw_stop b N W en o.1) := by
  unfold f_M_takeWords
  refine gw_mloop hb h34 hN hs 20000 0 _ 0 (fun _ => 0) (fun _ => 0) (by omega) (by omega) ⟨fun k hk => ?_, fun j j11 => ?_, ?_, ⟨by omega, fun i hi => by omega⟩, fun i hi => by omega⟩ (Nat.le_refl _) (fun x x0 x1 => by omega)
  · rw [np_st_o _ _ _ (fun z => hk (by rw [z]; decide))]
  · rw [np_st_n _ _ _ j11]
  · rw [np_st_s]; rfl
end
