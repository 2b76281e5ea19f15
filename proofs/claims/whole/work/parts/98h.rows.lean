/-! the cut of the text into words: rows of bytes, and that there is only one cut -/
section
variable {b : Nat → Int} {N : Nat}
def gw_sp (b : Nat → Int) (x y : Nat) : Prop := ∀ t, x ≤ t → t < y → gs_kd (b t) = 1
/-- p to e is a row of one kind, as long as may be -/
def gw_max (b : Nat → Int) (N p e : Nat) : Prop := p < e ∧ e ≤ N ∧ (∀ t, p ≤ t → t < e → gs_kd (b t) = gs_kd (b p)) ∧ (gs_kd (b p) = 5 → e = p + 1) ∧ (gs_kd (b p) ≠ 5 → e = N ∨ gs_kd (b e) ≠ gs_kd (b p))
def gw_last (en : Nat → Nat) (i : Nat) : Nat := if i = 0 then 0 else en (i - 1)
def gw_pre (b : Nat → Int) (N W : Nat) (pl en : Nat → Nat) : Prop := W ≤ 30 ∧ ∀ i, i < W → gw_last en i ≤ pl i ∧ gw_sp b (gw_last en i) (pl i) ∧ gw_max b N (pl i) (en i) ∧ 2 ≤ gs_kd (b (pl i)) ∧ en i - pl i ≤ 8
def gw_stop (b : Nat → Int) (N W : Nat) (en : Nat → Nat) (wr : Int) : Prop := (wr = -1 ∧ gw_sp b (gw_last en W) N) ∨ ∃ p : Nat, wr = p ∧ p < N ∧ gw_last en W ≤ p ∧ gw_sp b (gw_last en W) p ∧ gs_kd (b p) ≠ 1 ∧ (gs_kd (b p) = 0 ∨ (∃ e, gw_max b N p e ∧ 8 < e - p) ∨ W = 30)
theorem gw_max_uni {p e e2 : Nat} (h : gw_max b N p e) (h2 : gw_max b N p e2) : e = e2 := by
  obtain ⟨a1, a2, a3, a4, a5⟩ := h
  obtain ⟨c1, c2, c3, c4, c5⟩ := h2
  by_cases h5 : gs_kd (b p) = 5
  · rw [a4 h5, c4 h5]
  · rcases Nat.lt_trichotomy e e2 with g | g | g
    · rcases a5 h5 with z | z
      · omega
      · exact absurd (c3 e (by omega) g) z
    · exact g
    · rcases c5 h5 with z | z
      · omega
      · exact absurd (a3 e2 (by omega) g) z
theorem gw_first {x p q : Nat} (hp : x ≤ p) (sp : gw_sp b x p) (kp : gs_kd (b p) ≠ 1) (hq : x ≤ q) (sq : gw_sp b x q) (kq : gs_kd (b q) ≠ 1) : p = q := by
  rcases Nat.lt_trichotomy p q with g | g | g
  · exact absurd (sq p hp g) kp
  · exact g
  · exact absurd (sp q hq g) kq
theorem gw_uni {W W2 : Nat} {pl en pl2 en2 : Nat → Nat} {wr wr2 : Int} (h : gw_pre b N W pl en) (s : gw_stop b N W en wr) (h2 : gw_pre b N W2 pl2 en2) (s2 : gw_stop b N W2 en2 wr2) : W = W2 ∧ wr = wr2 ∧ ∀ i, i < W → pl i = pl2 i ∧ en i = en2 i := by
  have rows : ∀ i, (∀ j, j < i → j < W → j < W2 → pl j = pl2 j ∧ en j = en2 j) := by
    intro i
    induction i with
    | zero => intro j hj; omega
    | succ i ih =>
      intro j hj jW jW2
      have el : gw_last en j = gw_last en2 j := by
        unfold gw_last
        by_cases e : j = 0
        · rw [if_pos e, if_pos e]
        · rw [if_neg e, if_neg e]
          exact (ih (j - 1) (by omega) (by omega) (by omega)).2
      obtain ⟨a1, a2, a3, a4, a5⟩ := h.2 j jW
      obtain ⟨c1, c2, c3, c4, c5⟩ := h2.2 j jW2
      rw [el] at a1 a2
      have ep := gw_first a1 a2 (by omega) c1 c2 (by omega)
      rw [ep] at a3
      exact ⟨ep, gw_max_uni a3 c3⟩
  have last : ∀ i, i ≤ W → i ≤ W2 → gw_last en i = gw_last en2 i := by
    intro i h1 h2
    unfold gw_last
    by_cases e : i = 0
    · rw [if_pos e, if_pos e]
    · rw [if_neg e, if_neg e]
      exact (rows (i + 1) (i - 1) (by omega) (by omega) (by omega)).2
  have nolt : ∀ {W W2 : Nat} {pl en pl2 en2 : Nat → Nat} {wr : Int}, gw_pre b N W pl en → gw_stop b N W en wr → gw_pre b N W2 pl2 en2 → (∀ i, i ≤ W → i ≤ W2 → gw_last en i = gw_last en2 i) → ¬ W < W2 := by
    intro W W2 pl en pl2 en2 wr h s h2 last hlt
    obtain ⟨c1, c2, c3, c4, c5⟩ := h2.2 W hlt
    rw [← last W (Nat.le_refl _) (by omega)] at c1 c2
    rcases s with ⟨_, sp⟩ | ⟨p, _, pN, p1, p2, p3, p5⟩
    · have := sp (pl2 W) c1 (by have := c3.1; have := c3.2.1; omega)
      omega
    · have ep := gw_first p1 p2 p3 c1 c2 (by omega)
      rw [← ep] at c3 c4 c5
      have := h2.1
      rcases p5 with p5 | ⟨e, p4, p5⟩ | p5
      · omega
      · have ee := gw_max_uni p4 c3
        omega
      · omega
  have eW : W = W2 := by
    have n1 := nolt h s h2 last
    have n2 := nolt h2 s2 h (fun i a c => (last i c a).symm)
    omega
  subst eW
  refine ⟨rfl, ?_, fun i hi => rows (i + 1) i (by omega) hi hi⟩
  have el := last W (Nat.le_refl _) (Nat.le_refl _)
  rcases s with ⟨w1, sp⟩ | ⟨p, w1, pN, p1, p2, p3, p5⟩ <;> rcases s2 with ⟨w2, sp2⟩ | ⟨q, w2, qN, q1, q2, q3, q5⟩
  · rw [w1, w2]
  · rw [← el] at q1
    exact absurd (sp q q1 qN) q3
  · rw [el] at p1
    exact absurd (sp2 p p1 pN) p3
  · rw [← el] at q1 q2
    rw [w1, w2, gw_first p1 p2 p3 q1 q2 q3]
/-- the code of n bytes from p on -/
def gw_cd (b : Nat → Int) (p : Nat) : Nat → Int
  | 0 => 0
  | n + 1 => np_orl (np_shll (gw_cd b p n) 8) (b (p + n))
theorem gw_cd_R (p n : Nat) : np_R6 (gw_cd b p n) := by
  cases n with
  | zero => show np_R6 0; decide
  | succ n => exact gb_R6 _
theorem gw_cd_by (hb : ∀ k, k < N → 0 ≤ b k ∧ b k < 256) (p : Nat) : ∀ n : Nat, n ≤ 8 → p + n ≤ N → ∀ k : Nat, k < 8 → gb_by (gw_cd b p n) k = if k < n then b (p + (n - 1 - k)) else 0 := by
  intro n
  induction n with
  | zero => intro _ _ k hk; exact gb_by_0 k
  | succ n ih =>
    intro n8 hN k hk
    have hbn := hb (p + n) (by omega)
    cases k with
    | zero =>
      rw [if_pos (by omega)]
      exact gb_by_or0 _ hbn.1 hbn.2
    | succ k =>
      show gb_by (np_orl (np_shll (gw_cd b p n) 8) (b (p + n))) (k + 1) = _
      rw [gb_by_or _ hbn.1 hbn.2 (by omega), ih (by omega) (by omega) k (by omega)]
      by_cases g : k < n
      · rw [if_pos g, if_pos (by omega)]; congr 2; omega
      · rw [if_neg g, if_neg (by omega)]
end
/-- the token of a row: 0 for what can be an atom -/
def gw_tk (σ : np_S) (κ c : Int) (t : Int) : Prop := ((κ = 2 ∨ κ = 3) ∧ ¬ gk_key σ c → t = 0) ∧ (¬ ((κ = 2 ∨ κ = 3) ∧ ¬ gk_key σ c) → t = c)
section
variable {b : Nat → Int} {N : Nat} {σ : np_S}
theorem gw_kindAt (hb : ∀ k, k < N → 0 ≤ b k ∧ b k < 256) (h7 : ∀ k, k < N → σ 7 (k : Nat) % 256 = b k) (hN : N ≤ 200) {p : Nat} (hp : p < N) : f_Text_kindAt p σ = some (gs_kd (b p), σ) := by
  unfold f_Text_kindAt
  rw [np_ck_i ⟨by omega, by omega⟩, gb_andi255, h7 p hp, gs_kindOf _ (hb p hp).1 (by have := (hb p hp).2; omega)]
  rfl
theorem gw_eor (hb : ∀ k, k < N → 0 ≤ b k ∧ b k < 256) (h7 : ∀ k, k < N → σ 7 (k : Nat) % 256 = b k) (hN : N ≤ 200) (hs : σ 6 1 = N) {p : Nat} (h5 : gs_kd (b p) ≠ 5) : ∀ (f e : Nat), p < e → e ≤ N → N - e < f → (∀ t, p ≤ t → t < e → gs_kd (b t) = gs_kd (b p)) → np_W (f_Text_endOfRow_9 f (gs_kd (b p)) e σ) (fun o => o.2 = σ ∧ ∃ e : Nat, o.1 = e ∧ gw_max b N p e) := by
  intro f
  induction f with
  | zero => intro e _ _ h; omega
  | succ f ih =>
    intro e pe eN hf ht
    show np_W (f_Text_endOfRow_9_b _ (gs_kd (b p)) e σ) _
    unfold f_Text_endOfRow_9_b f_Text_endOfRow_32
    rw [hs]
    refine np_W_ck ⟨⟨by omega, by omega⟩, ⟨by omega, by omega⟩⟩ ?_
    refine np_W_if (fun h => np_W_some ⟨rfl, e, rfl, pe, eN, ht, fun z => absurd z h5, fun _ => Or.inl (by omega)⟩) (fun h => ?_)
    rw [gw_kindAt hb h7 hN (by omega)]
    refine np_W_bind (np_W_some ?_)
    dsimp only
    have k1 := gs_kd_r (b e)
    have k2 := gs_kd_r (b p)
    refine np_W_ck ⟨⟨by omega, by omega⟩, ⟨by omega, by omega⟩⟩ ?_
    refine np_W_if (fun g => np_W_some ⟨rfl, e, rfl, pe, eN, ht, fun z => absurd z h5, fun _ => Or.inr g⟩) (fun g => ?_)
    refine ih (e + 1) (by omega) (by omega) (by omega) (fun t t0 t1 => ?_)
    by_cases et : t = e
    · rw [et]; exact Classical.not_not.mp g
    · exact ht t t0 (by omega)
theorem gw_end (hb : ∀ k, k < N → 0 ≤ b k ∧ b k < 256) (h7 : ∀ k, k < N → σ 7 (k : Nat) % 256 = b k) (hN : N ≤ 200) (hs : σ 6 1 = N) {p : Nat} (hp : p < N) : np_W (f_Text_endOfRow p (gs_kd (b p)) σ) (fun o => o.2 = σ ∧ ∃ e : Nat, o.1 = e ∧ gw_max b N p e) := by
  have k2 := gs_kd_r (b p)
  unfold f_Text_endOfRow f_Text_endOfRow_32
  refine np_W_ck ⟨⟨by omega, by omega⟩, by decide⟩ ?_
  refine np_W_if (fun h => np_W_some ⟨rfl, p + 1, rfl, by omega, by omega, fun t t0 t1 => by rw [show t = p by omega], fun _ => rfl, fun z => absurd h z⟩) (fun h => ?_)
  exact gw_eor hb h7 hN hs h 20000 (p + 1) (by omega) (by omega) (by omega) (fun t t0 t1 => by rw [show t = p by omega])
end
/-- the store after a row is taken -/
def gw_put (p c t : Int) (σ : np_S) : np_S := np_st (np_st (np_st (np_st σ 8 (σ 6 5) c) 9 (σ 6 5) t) 10 (σ 6 5) p) 6 5 (σ 6 5 + 1)
theorem gw_134 {σ : np_S} (h0 : 0 ≤ σ 6 5) (h1 : σ 6 5 < 30) (p c t : Int) : f_Text_takeRow_134 p (σ 6 5) t (np_st σ 8 (σ 6 5) c) = some (0, gw_put p c t σ) := by
  unfold f_Text_takeRow_134 gw_put
  rw [np_ck_i ⟨h0, h1⟩]
  have e : np_st (np_st σ 8 (σ 6 5) c) 9 (σ 6 5) t 6 = σ 6 := by rw [np_st_o _ _ _ (by decide), np_st_o _ _ _ (by decide)]
  rw [np_ck_i (by rw [e]; exact ⟨h0, h1⟩), np_st_o _ _ _ (show 6 ≠ 10 by decide), e]
theorem gw_92 {σ : np_S} (hC : gi_C σ) (h0 : 0 ≤ σ 6 5) (h1 : σ 6 5 < 30) (p : Int) {c v κ : Int} (hc : np_R6 c) (hc1 : c ≠ -1) (hv : gs_bo v (κ = 2 ∨ κ = 3)) : np_W (f_Text_takeRow_92 p c v σ) (fun o => ∃ t, o.2 = gw_put p c t σ ∧ gw_tk σ κ c t) := by
  unfold f_Text_takeRow_92 f_Text_takeRow_132
  refine np_W_ck ⟨h0, h1⟩ ?_
  refine np_W_ck (gs_bo_R hv) ?_
  have e6 : np_st σ 8 (σ 6 5) c 6 5 = σ 6 5 := by rw [np_st_o _ _ _ (by decide)]
  rw [e6]
  have hC2 : gi_C (np_st σ 8 (σ 6 5) c) := gi_C_eq hC (np_st_o _ _ _ (by decide)) (np_st_o _ _ _ (by decide)) (np_st_o _ _ _ (by decide)) (np_st_o _ _ _ (by decide)) (np_st_o _ _ _ (by decide))
  have hk : gk_key (np_st σ 8 (σ 6 5) c) c ↔ gk_key σ c := by
    unfold gk_key
    rw [np_st_o σ _ _ (show 1 ≠ 8 by decide), np_st_o σ _ _ (show 2 ≠ 8 by decide), np_st_o σ _ _ (show 3 ≠ 8 by decide), np_st_o σ _ _ (show 5 ≠ 8 by decide)]
  refine np_W_if (fun g => ?_) (fun g => ?_)
  · rw [gw_134 h0 h1]
    refine np_W_some ⟨c, rfl, fun q => ?_, fun _ => rfl⟩
    exact absurd g ((gs_bo_1 hv).mpr q.1)
  · refine np_W_seq (gk_hk hC2 hc hc1) (fun o ho => ?_)
    obtain ⟨v2, τ2⟩ := o
    obtain ⟨e, hb2⟩ := ho
    dsimp only at e hb2 ⊢
    subst e
    have hb2 := gs_bo_iff hb2 hk
    refine np_W_ck (gs_bo_R hb2) ?_
    refine np_W_if (fun g2 => ?_) (fun g2 => ?_)
    · rw [gw_134 h0 h1]
      exact np_W_some ⟨c, rfl, fun q => absurd ((gs_bo_1 hb2).mp g2) q.2, fun _ => rfl⟩
    · rw [gw_134 h0 h1]
      exact np_W_some ⟨0, rfl, fun _ => rfl, fun q => absurd ⟨(gs_bo_1 hv).mp g, fun z => g2 ((gs_bo_1 hb2).mpr z)⟩ q⟩
