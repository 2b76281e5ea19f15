/-! the cut, on both sides -/
section
variable {b : Nat → Int} {N : Nat} {σ : np_S}
theorem gw_pre_snoc {W : Nat} {pl en : Nat → Nat} (h : gw_pre b N W pl en) (hW : W < 30) {p e : Nat} (h1 : gw_last en W ≤ p) (h2 : gw_sp b (gw_last en W) p) (h3 : gw_max b N p e) (h4 : 2 ≤ gs_kd (b p)) (h5 : e - p ≤ 8) : ∃ pl2 en2 : Nat → Nat, gw_pre b N (W + 1) pl2 en2 ∧ gw_last en2 (W + 1) = e ∧ (∀ i, i < W → pl2 i = pl i ∧ en2 i = en i) ∧ pl2 W = p ∧ en2 W = e := by
  have a1 : ∀ i, i < W → (if i = W then p else pl i) = pl i := fun i hi => if_neg (by omega)
  have a2 : ∀ i, i < W → (if i = W then e else en i) = en i := fun i hi => if_neg (by omega)
  have al : ∀ i, i ≤ W → gw_last (fun i => if i = W then e else en i) i = gw_last en i := by
    intro i hi
    unfold gw_last
    by_cases z : i = 0
    · rw [if_pos z, if_pos z]
    · rw [if_neg z, if_neg z]; exact a2 (i - 1) (by omega)
  refine ⟨fun i => if i = W then p else pl i, fun i => if i = W then e else en i, ⟨by omega, fun i hi => ?_⟩, ?_, fun i hi => ⟨a1 i hi, a2 i hi⟩, if_pos rfl, if_pos rfl⟩
  · rw [al i (by omega)]
    by_cases z : i = W
    · subst z
      dsimp only
      rw [if_pos rfl, if_pos rfl]
      exact ⟨h1, h2, h3, h4, h5⟩
    · dsimp only
      rw [if_neg z, if_neg z]
      exact h.2 i (by omega)
  · unfold gw_last
    rw [if_neg (by omega)]
    exact if_pos (by omega)
theorem gw_cd_ne (hb : ∀ k, k < N → 0 ≤ b k ∧ b k < 256) {p e : Nat} (h : gw_max b N p e) (h2 : 2 ≤ gs_kd (b p)) (h8 : e - p ≤ 8) : gw_cd b p (e - p) ≠ -1 ∧ gs_kd (gb_by (gw_cd b p (e - p)) 0) = gs_kd (b p) := by
  obtain ⟨a1, a2, a3, _⟩ := h
  have e0 := gw_cd_by hb p (e - p) h8 (by omega) 0 (by decide)
  rw [if_pos (by omega)] at e0
  have ek : gs_kd (gb_by (gw_cd b p (e - p)) 0) = gs_kd (b p) := by
    rw [e0]; exact a3 _ (by omega) (by omega)
  refine ⟨fun z => ?_, ek⟩
  rw [z] at ek
  have : gs_kd (gb_by (-1) 0) = 0 := by decide
  omega
theorem gw_45 (hC : gi_C σ) (hb : ∀ k, k < N → 0 ≤ b k ∧ b k < 256) (h7 : ∀ k, k < N → σ 7 (k : Nat) % 256 = b k) (hN : N ≤ 200) (h0 : 0 ≤ σ 6 5) (h1 : σ 6 5 < 30) {p e : Nat} (hm : gw_max b N p e) (h2 : 2 ≤ gs_kd (b p)) (h8 : e - p ≤ 8) : ∀ (f x : Nat), p ≤ x → x ≤ e → e - x < f → np_W (f_Text_takeRow_45 f p e (gs_kd (b p)) (gw_cd b p (x - p)) x σ) (fun o => ∃ t, o.2 = gw_put p (gw_cd b p (e - p)) t σ ∧ gw_tk σ (gs_kd (b p)) (gw_cd b p (e - p)) t) := by
  have hm2 := hm
  obtain ⟨m1, m2, _⟩ := hm2
  have hk := gs_kd_r (b p)
  intro f
  induction f with
  | zero => intro x _ _ h; omega
  | succ f ih =>
    intro x px xe hf
    show np_W (f_Text_takeRow_45_b _ p e (gs_kd (b p)) (gw_cd b p (x - p)) x σ) _
    unfold f_Text_takeRow_45_b f_Text_takeRow_87
    refine np_W_ck ⟨⟨by omega, by omega⟩, ⟨by omega, by omega⟩⟩ ?_
    refine np_W_if (fun h => ?_) (fun h => ?_)
    · have ex : x = e := by omega
      subst ex
      have hne := (gw_cd_ne hb hm h2 h8).1
      refine np_W_ck ⟨⟨by omega, by omega⟩, by decide⟩ ?_
      refine np_W_if (fun g => gw_92 hC h0 h1 p (gw_cd_R _ _) hne (Or.inl ⟨rfl, Or.inl g⟩)) (fun g => ?_)
      refine np_W_ck ⟨⟨by omega, by omega⟩, by decide⟩ ?_
      refine np_W_if (fun g3 => gw_92 hC h0 h1 p (gw_cd_R _ _) hne (Or.inr ⟨rfl, by omega⟩)) (fun g3 => gw_92 hC h0 h1 p (gw_cd_R _ _) hne (Or.inl ⟨rfl, by omega⟩))
    · refine np_W_ck ⟨by omega, by omega⟩ ?_
      have ev : np_andi (σ 7 (x : Int)) 255 = b x := by rw [gb_andi255, h7 x (by omega)]
      have hbx := hb x (by omega)
      rw [ev]
      refine np_W_ck ⟨by omega, by omega⟩ ?_
      have := ih (x + 1) (by omega) (by omega) (by omega)
      rw [show x + 1 - p = (x - p) + 1 by omega] at this
      have ec : gw_cd b p ((x - p) + 1) = np_orl (np_shll (gw_cd b p (x - p)) 8) (b x) := by
        show np_orl (np_shll (gw_cd b p (x - p)) 8) (b (p + (x - p))) = _
        rw [show p + (x - p) = x by omega]
      rw [ec] at this
      exact this
theorem gw_row (hC : gi_C σ) (hb : ∀ k, k < N → 0 ≤ b k ∧ b k < 256) (h7 : ∀ k, k < N → σ 7 (k : Nat) % 256 = b k) (hN : N ≤ 200) (h0 : 0 ≤ σ 6 5) (h1 : σ 6 5 ≤ 30) {p e : Nat} (hm : gw_max b N p e) (h2 : gs_kd (b p) ≠ 1) : np_W (f_Text_takeRow p e (gs_kd (b p)) σ) (fun o => ((gs_kd (b p) = 0 ∨ 8 < e - p ∨ σ 6 5 = 30) ∧ o.2 = np_st σ 6 6 p) ∨ (2 ≤ gs_kd (b p) ∧ e - p ≤ 8 ∧ σ 6 5 < 30 ∧ ∃ t, o.2 = gw_put p (gw_cd b p (e - p)) t σ ∧ gw_tk σ (gs_kd (b p)) (gw_cd b p (e - p)) t)) := by
  have hm2 := hm
  obtain ⟨m1, m2, _⟩ := hm2
  have hk := gs_kd_r (b p)
  have h13 : ∀ v : Int, gs_bo v (8 < e - p) → np_W (f_Text_takeRow_13 p e (gs_kd (b p)) v σ) (fun o => ((gs_kd (b p) = 0 ∨ 8 < e - p ∨ σ 6 5 = 30) ∧ o.2 = np_st σ 6 6 p) ∨ (2 ≤ gs_kd (b p) ∧ e - p ≤ 8 ∧ σ 6 5 < 30 ∧ ∃ t, o.2 = gw_put p (gw_cd b p (e - p)) t σ ∧ gw_tk σ (gs_kd (b p)) (gw_cd b p (e - p)) t)) := by
    intro v hv
    unfold f_Text_takeRow_13 f_Text_takeRow_33
    refine np_W_ck ⟨by omega, by omega⟩ ?_
    refine np_W_if (fun g => np_W_some (Or.inl ⟨Or.inl g, rfl⟩)) (fun g => ?_)
    refine np_W_ck (gs_bo_R hv) ?_
    refine np_W_if (fun g8 => np_W_some (Or.inl ⟨Or.inr (Or.inl ((gs_bo_1 hv).mp g8)), rfl⟩)) (fun g8 => ?_)
    have n8 : ¬ 8 < e - p := fun z => g8 ((gs_bo_1 hv).mpr z)
    refine np_W_ck ⟨⟨by omega, by omega⟩, by decide⟩ ?_
    refine np_W_if (fun g30 => ?_) (fun g30 => np_W_some (Or.inl ⟨Or.inr (Or.inr (by omega)), rfl⟩))
    have := gw_45 hC hb h7 hN h0 g30 hm (by omega) (by omega) 20000 p (by omega) (by omega) (by omega)
    rw [show p - p = 0 by omega] at this
    exact np_W_mono this (fun o ho => Or.inr ⟨by omega, by omega, g30, ho⟩)
  unfold f_Text_takeRow
  refine np_W_ck ⟨⟨by omega, by omega⟩, by decide⟩ ?_
  exact np_W_if (fun g => h13 0 (Or.inr ⟨rfl, by omega⟩)) (fun g => h13 1 (Or.inl ⟨rfl, by omega⟩))
def gw_inv (σ : np_S) (b : Nat → Int) (N : Nat) (τ : np_S) (W : Nat) (pl en : Nat → Nat) : Prop := (∀ k, k ∉ [6, 8, 9, 10] → τ k = σ k) ∧ (∀ j, j ≠ 5 → j ≠ 6 → τ 6 j = σ 6 j) ∧ τ 6 5 = W ∧ gw_pre b N W pl en ∧ ∀ i : Nat, i < W → τ 8 i = gw_cd b (pl i) (en i - pl i) ∧ gw_tk σ (gs_kd (b (pl i))) (τ 8 i) (τ 9 i) ∧ τ 10 i = pl i
theorem gw_tk_eq {σ τ : np_S} (e1 : τ 1 = σ 1) (e2 : τ 2 = σ 2) (e3 : τ 3 = σ 3) (e5 : τ 5 = σ 5) {κ c t : Int} (h : gw_tk τ κ c t) : gw_tk σ κ c t := by
  have hk : gk_key τ c ↔ gk_key σ c := by
    unfold gk_key
    rw [e1, e2, e3, e5]
  unfold gw_tk at h ⊢
  rw [hk] at h
  exact h
theorem gw_exit {τ : np_S} (hN : N ≤ 200) (hs : τ 6 1 = N) (hw : τ 6 6 ≠ -1) (hwR : np_R (τ 6 6)) {e t : Int} (he : np_R e) (ht : np_R t) (f : Nat) : f_Text_cut_14 (f + 1) e t τ = some (0, τ) := by
  apply np_W_eq.mp
  show np_W (f_Text_cut_14_b _ e t τ) _
  unfold f_Text_cut_14_b f_Text_cut_79
  rw [hs]
  refine np_W_ck ⟨ht, ⟨by omega, by omega⟩⟩ ?_
  refine np_W_if (fun _ => np_W_some rfl) (fun _ => ?_)
  refine np_W_ck ⟨he, ⟨by omega, by omega⟩⟩ ?_
  refine np_W_if (fun _ => np_W_some rfl) (fun _ => ?_)
  refine np_W_ck ⟨hwR, by decide⟩ ?_
  exact np_W_if (fun _ => np_W_some rfl) (fun g => absurd hw g)
theorem gw_loop (hC : gi_C σ) (hb : ∀ k, k < N → 0 ≤ b k ∧ b k < 256) (h7 : ∀ k, k < N → σ 7 (k : Nat) % 256 = b k) (hN : N ≤ 200) (hs : σ 6 1 = N) : ∀ (f p t : Nat) (τ : np_S) (W : Nat) (pl en : Nat → Nat), p ≤ N → t ≤ p → N - p < f → gw_inv σ b N τ W pl en → τ 6 6 = -1 → gw_last en W ≤ p → gw_sp b (gw_last en W) p → np_W (f_Text_cut_14 f p t τ) (fun o => ∃ (W : Nat) (pl en : Nat → Nat), gw_inv σ b N o.2 W pl en ∧ gw_stop b N W en (o.2 6 6)) := by
  intro f
  induction f with
  | zero => intro p t τ W pl en _ _ h; omega
  | succ f ih =>
    intro p t τ W pl en pN tp hf hi h66 hl hsp
    obtain ⟨i1, i2, i3, i4, i5⟩ := id hi
    have W30 := i4.1
    show np_W (f_Text_cut_14_b _ p t τ) _
    unfold f_Text_cut_14_b f_Text_cut_79 f_Text_cut_70
    have s6 : τ 6 1 = N := by rw [i2 1 (by decide) (by decide), hs]
    have sC : gi_C τ := gi_C_eq hC (i1 1 (by decide)) (i1 2 (by decide)) (i1 3 (by decide)) (i1 4 (by decide)) (i1 5 (by decide))
    have s7 : ∀ k, k < N → τ 7 (k : Nat) % 256 = b k := by rw [i1 7 (by decide)]; exact h7
    rw [s6]
    refine np_W_ck ⟨⟨by omega, by omega⟩, ⟨by omega, by omega⟩⟩ ?_
    have stop : p = N → np_W (some (0, τ)) (fun o : np_O => ∃ (W : Nat) (pl en : Nat → Nat), gw_inv σ b N o.2 W pl en ∧ gw_stop b N W en (o.2 6 6)) := by
      intro e
      subst e
      exact np_W_some ⟨W, pl, en, hi, Or.inl ⟨h66, hsp⟩⟩
    refine np_W_if (fun h => stop (by omega)) (fun _ => ?_)
    refine np_W_ck ⟨⟨by omega, by omega⟩, ⟨by omega, by omega⟩⟩ ?_
    refine np_W_if (fun h => stop (by omega)) (fun hp => ?_)
    rw [h66]
    refine np_W_ck (by decide) ?_
    refine np_W_if (fun h => absurd rfl h) (fun _ => ?_)
    rw [gw_kindAt hb s7 hN (by omega)]
    refine np_W_bind (np_W_some ?_)
    dsimp only
    refine np_W_seq (gw_end hb s7 hN s6 (by omega)) (fun o ho => ?_)
    obtain ⟨v, τ2⟩ := o
    obtain ⟨e2, e, ev, hm⟩ := ho
    dsimp only at e2 ev ⊢
    subst e2 ev
    have hk := gs_kd_r (b p)
    have hm2 := hm
    obtain ⟨m1, m2, m3, _⟩ := hm2
    refine np_W_ck ⟨⟨by omega, by omega⟩, by decide⟩ ?_
    refine np_W_if (fun g => ?_) (fun g => ?_)
    · refine ih e (t + 1) τ2 W pl en m2 (by omega) (by omega) hi h66 (by omega) (fun x x0 x1 => ?_)
      by_cases z : x < p
      · exact hsp x x0 z
      · rw [m3 x (by omega) x1]; exact g
    · refine np_W_seq (gw_row sC hb s7 hN (by omega) (by omega) hm g) (fun o ho => ?_)
      obtain ⟨v, τ3⟩ := o
      dsimp only at ho ⊢
      rcases ho with ⟨c, rfl⟩ | ⟨k2, k8, k30, t2, rfl, htk⟩
      · have e6 : np_st τ2 6 6 p 6 6 = p := np_st_s _ _ _ _
        obtain ⟨f2, hf2⟩ : ∃ f2, f = f2 + 1 := ⟨f - 1, by omega⟩
        rw [hf2]
        rw [gw_exit (N := N) hN (by rw [np_st_n _ _ _ (by decide)]; exact s6) (by rw [e6]; omega) (by rw [e6]; exact ⟨by omega, by omega⟩) ⟨by omega, by omega⟩ ⟨by omega, by omega⟩]
        refine np_W_some ⟨W, pl, en, ⟨fun k hk => ?_, fun j j5 j6 => ?_, ?_, i4, fun i hi => ?_⟩, Or.inr ⟨p, e6, by omega, hl, hsp, g, ?_⟩⟩
        · dsimp only
          rw [np_st_o _ _ _ (fun z => hk (by rw [z]; decide))]
          exact i1 k hk
        · dsimp only
          rw [np_st_n _ _ _ j6]; exact i2 j j5 j6
        · dsimp only
          rw [np_st_n _ _ _ (by decide)]; exact i3
        · dsimp only
          rw [np_st_o _ _ _ (show 8 ≠ 6 by decide), np_st_o _ _ _ (show 9 ≠ 6 by decide), np_st_o _ _ _ (show 10 ≠ 6 by decide)]
          exact i5 i hi
        · rcases c with c | c | c
          · exact Or.inl c
          · exact Or.inr (Or.inl ⟨e, hm, c⟩)
          · exact Or.inr (Or.inr (by omega))
      · obtain ⟨pl2, en2, n1, n2, n3, n4, n5⟩ := gw_pre_snoc i4 (by omega) hl hsp hm k2 k8
        refine ih e (t + 1) _ (W + 1) pl2 en2 m2 (by omega) (by omega) ⟨fun k hk => ?_, fun j j5 j6 => ?_, ?_, n1, fun i hi => ?_⟩ ?_ (by omega) (fun x x0 x1 => by omega)
        · simp only [List.mem_cons, List.not_mem_nil, or_false, not_or] at hk
          unfold gw_put
          rw [np_st_o _ _ _ hk.1, np_st_o _ _ _ hk.2.2.2, np_st_o _ _ _ hk.2.2.1, np_st_o _ _ _ hk.2.1]
          exact i1 k (by simp only [List.mem_cons, List.not_mem_nil, or_false, not_or]; exact hk)
        · unfold gw_put
          rw [np_st_n _ _ _ j5, np_st_o _ _ _ (by decide), np_st_o _ _ _ (by decide), np_st_o _ _ _ (by decide)]
          exact i2 j j5 j6
        · unfold gw_put
          rw [np_st_s, i3]; omega
        · have q8 : gw_put p (gw_cd b p (e - p)) t2 τ2 8 i = if (i : Int) = τ2 6 5 then gw_cd b p (e - p) else τ2 8 i := by
            unfold gw_put
            rw [np_st_o _ _ _ (by decide), np_st_o _ _ _ (by decide), np_st_o _ _ _ (by decide), np_st_rd, if_pos rfl]
          have q9 : gw_put p (gw_cd b p (e - p)) t2 τ2 9 i = if (i : Int) = τ2 6 5 then t2 else τ2 9 i := by
            unfold gw_put
            rw [np_st_o _ _ _ (by decide), np_st_o _ _ _ (by decide), np_st_rd, if_pos rfl, np_st_o _ _ _ (by decide)]
          have q10 : gw_put p (gw_cd b p (e - p)) t2 τ2 10 i = if (i : Int) = τ2 6 5 then (p : Int) else τ2 10 i := by
            unfold gw_put
            rw [np_st_o _ _ _ (by decide), np_st_rd, if_pos rfl, np_st_o _ _ _ (by decide), np_st_o _ _ _ (by decide)]
          rw [q8, q9, q10, i3]
          by_cases z : i = W
          · subst z
            rw [if_pos rfl, if_pos rfl, if_pos rfl, n4, n5]
            exact ⟨rfl, gw_tk_eq (i1 1 (by decide)) (i1 2 (by decide)) (i1 3 (by decide)) (i1 5 (by decide)) htk, rfl⟩
          · rw [if_neg (by omega), if_neg (by omega), if_neg (by omega), (n3 i (by omega)).1, (n3 i (by omega)).2]
            exact i5 i (by omega)
        · unfold gw_put
          rw [np_st_n _ _ _ (by decide), np_st_o _ _ _ (by decide), np_st_o _ _ _ (by decide), np_st_o _ _ _ (by decide)]
          exact h66
theorem gw_cut (hC : gi_C σ) (hb : ∀ k, k < N → 0 ≤ b k ∧ b k < 256) (h7 : ∀ k, k < N → σ 7 (k : Nat) % 256 = b k) (hN : N ≤ 200) (hs : σ 6 1 = N) : np_W (f_Text_cut σ) (fun o => ∃ (W : Nat) (pl en : Nat → Nat), gw_inv σ b N o.2 W pl en ∧ gw_stop b N W en (o.2 6 6)) := by
  unfold f_Text_cut
  refine gw_loop hC hb h7 hN hs 20000 0 0 _ 0 (fun _ => 0) (fun _ => 0) (by omega) (by omega) (by omega) ⟨fun k hk => ?_, fun j j5 j6 => ?_, ?_, ⟨by omega, fun i hi => by omega⟩, fun i hi => by omega⟩ (np_st_s _ _ _ _) (Nat.le_refl _) (fun x x0 x1 => by omega)
  · rw [np_st_o _ _ _ (fun z => hk (by rw [z]; decide)), np_st_o _ _ _ (fun z => hk (by rw [z]; decide))]
  · rw [np_st_n _ _ _ j6, np_st_n _ _ _ j5]
  · rw [np_st_n _ _ _ (by decide), np_st_s]; rfl
end
