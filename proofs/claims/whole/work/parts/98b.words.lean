/-! words: isSpelled and isWord, lowBytes and lowest -/
def gs_bo (v : Int) (P : Prop) : Prop := (v = 1 ∧ P) ∨ (v = 0 ∧ ¬ P)
theorem gs_bo_R {v : Int} {P : Prop} (h : gs_bo v P) : np_R v := by
  rcases h with h | h <;> rw [h.1] <;> decide
theorem gs_bo_iff {v : Int} {P Q : Prop} (h : gs_bo v P) (e : P ↔ Q) : gs_bo v Q := by
  rcases h with h | h
  · exact Or.inl ⟨h.1, e.mp h.2⟩
  · exact Or.inr ⟨h.1, fun q => h.2 (e.mpr q)⟩
theorem gs_bo_1 {v : Int} {P : Prop} (h : gs_bo v P) : v ≠ 0 ↔ P := by
  rcases h with h | h
  · exact ⟨fun _ => h.2, fun _ => by rw [h.1]; decide⟩
  · exact ⟨fun g => absurd h.1 g, fun g => absurd g h.2⟩
theorem gs_bo_v {v w : Int} {P : Prop} (h : gs_bo v P) (k : gs_bo w P) : v = w := by
  rcases h with h | h <;> rcases k with k | k
  · rw [h.1, k.1]
  · exact absurd h.2 k.2
  · exact absurd k.2 h.2
  · rw [h.1, k.1]
theorem gs_bo_01 {v : Int} {P : Prop} (h : gs_bo v P) : v = 0 ∨ v = 1 := by
  rcases h with h | h
  · exact Or.inr h.1
  · exact Or.inl h.1
def gs_wd (x n : Int) : Prop := 1 ≤ n ∧ n ≤ 8 ∧ ∃ κ : Int, 2 ≤ κ ∧ κ ≤ 5 ∧ (κ ≠ 5 ∨ n = 1) ∧ ∀ k : Nat, (k : Int) < n → gs_kd (gb_by x k) = κ
theorem gs_byteOf (x : Int) {k : Nat} (hk : k < 8) (σ : np_S) : f_Spelling_byteOf x k σ = some (gb_by x k, σ) := by
  unfold f_Spelling_byteOf
  rw [gb_byN x hk]
theorem gs_by_k (x : Int) (k : Nat) (σ : np_S) : f_Spelling_kindOf (gb_by x k) σ = some (gs_kd (gb_by x k), σ) := gs_kindOf _ (gb_by_r x k).1 (by have := (gb_by_r x k).2; omega) σ
theorem gs_by_s (x : Int) (k : Nat) (σ : np_S) : f_M_sort (gb_by x k) σ = some (gs_so (gb_by x k), σ) := gs_sort _ (gb_by_r x k).1 (by have := (gb_by_r x k).2; omega) σ
theorem gs_so_r (x : Int) : 0 ≤ gs_so x ∧ gs_so x ≤ 4 := by
  have := gs_kd_r x
  unfold gs_so; split <;> omega
theorem gs_Sl (x n κ : Int) (hn : 1 ≤ n) (hn8 : n ≤ 8) (hκ : np_R κ) (σ : np_S) : ∀ (f : Nat) (k : Nat), (k : Int) ≤ n → n - k < f → np_W (f_Spelling_isSpelled_46 f x n κ k σ) (fun o => o.2 = σ ∧ gs_bo o.1 (∀ t : Nat, k ≤ t → (t : Int) < n → gs_kd (gb_by x t) = κ)) := by
  intro f
  induction f with
  | zero => intro k h1 h8; omega
  | succ f ih =>
    intro k h1 h8
    show np_W (f_Spelling_isSpelled_46_b _ x n κ k σ) _
    unfold f_Spelling_isSpelled_46_b
    refine np_W_ck ⟨⟨by omega, by omega⟩, ⟨by omega, by omega⟩⟩ ?_
    refine np_W_if (fun h => np_W_ck (by decide) (np_W_some ⟨rfl, Or.inl ⟨rfl, fun t ht ht2 => by omega⟩⟩)) (fun h => ?_)
    rw [gs_byteOf x (by omega)]
    refine np_W_bind (np_W_some ?_)
    show np_W ((f_Spelling_kindOf (gb_by x k) σ).bind _) _
    rw [gs_by_k]
    refine np_W_bind (np_W_some ?_)
    try dsimp only
    have hr := gs_kd_r (gb_by x k)
    refine np_W_ck ⟨⟨by show -2147483648 ≤ gs_kd (gb_by x k); omega, by show gs_kd (gb_by x k) ≤ 2147483647; omega⟩, hκ⟩ ?_
    refine np_W_if (fun g => ?_) (fun g => ?_)
    · refine np_W_mono (ih (k + 1) (by omega) (by omega)) (fun o ho => ⟨ho.1, gs_bo_iff ho.2 ⟨fun q t ht ht2 => ?_, fun q t ht ht2 => q t (by omega) ht2⟩⟩)
      by_cases e : t = k
      · rw [e]; exact g
      · exact q t (by omega) ht2
    · exact np_W_ck (by decide) (np_W_some ⟨rfl, Or.inr ⟨rfl, fun q => g (q k (by omega) (by omega))⟩⟩)
theorem gs_isSpelled (x n : Int) (hn : np_R n) (σ : np_S) : np_W (f_Spelling_isSpelled x n σ) (fun o => o.2 = σ ∧ gs_bo o.1 (gs_wd x n)) := by
  unfold f_Spelling_isSpelled
  refine np_W_ck ⟨hn, by decide⟩ ?_
  refine np_W_if (fun h => np_W_ck (by decide) (np_W_some ⟨rfl, Or.inr ⟨rfl, fun q => by have := q.1; omega⟩⟩)) (fun h => ?_)
  refine np_W_ck ⟨hn, by decide⟩ ?_
  refine np_W_if (fun h8 => ?_) (fun h8 => np_W_ck (by decide) (np_W_some ⟨rfl, Or.inr ⟨rfl, fun q => h8 q.2.1⟩⟩))
  have e0 := gs_byteOf x (k := 0) (by decide) σ
  rw [show ((0 : Nat) : Int) = 0 from rfl] at e0
  rw [e0]
  refine np_W_bind (np_W_some ?_)
  show np_W ((f_Spelling_kindOf (gb_by x 0) σ).bind _) _
  rw [gs_by_k]
  refine np_W_bind (np_W_some ?_)
  try dsimp only
  have hr := gs_kd_r (gb_by x 0)
  generalize hκ : gs_kd (gb_by x 0) = κ at hr ⊢
  have hR : np_R κ := ⟨by omega, by omega⟩
  have no : (κ = 0 ∨ κ = 1 ∨ (κ = 5 ∧ 1 < n)) → np_W (f_Spelling_isSpelled_41 σ) (fun o => o.2 = σ ∧ gs_bo o.1 (gs_wd x n)) := by
    intro hno
    refine np_W_ck (by decide) (np_W_some ⟨rfl, Or.inr ⟨rfl, fun q => ?_⟩⟩)
    obtain ⟨_, _, κ2, q1, q2, q3, q4⟩ := q
    have := q4 0 (by omega)
    omega
  have yes : κ ≠ 0 → κ ≠ 1 → (κ ≠ 5 ∨ n ≤ 1) → np_W (f_Spelling_isSpelled_43 x n κ σ) (fun o => o.2 = σ ∧ gs_bo o.1 (gs_wd x n)) := by
    intro y0 y1 y5
    refine np_W_mono (gs_Sl x n κ (by omega) h8 hR σ 20000 1 (by omega) (by omega)) (fun o ho => ⟨ho.1, gs_bo_iff ho.2 ⟨fun q => ?_, fun q => ?_⟩⟩)
    · refine ⟨by omega, h8, κ, by omega, by omega, by omega, fun k hk => ?_⟩
      by_cases e : k = 0
      · rw [e]; exact hκ
      · exact q k (by omega) hk
    · intro t ht ht2
      obtain ⟨_, _, κ2, q1, q2, q3, q4⟩ := q
      have e0 := q4 0 (by omega)
      rw [q4 t ht2, ← hκ]; exact e0.symm
  refine np_W_ck hR ?_
  refine np_W_if (fun g => no (Or.inl g)) (fun g0 => ?_)
  refine np_W_ck ⟨hR, by decide⟩ ?_
  refine np_W_if (fun g => no (Or.inr (Or.inl g))) (fun g1 => ?_)
  refine np_W_ck ⟨hR, by decide⟩ ?_
  refine np_W_if (fun g => yes g0 g1 (Or.inl g)) (fun g5 => ?_)
  refine np_W_ck ⟨hn, by decide⟩ ?_
  refine np_W_if (fun g => yes g0 g1 (Or.inr g)) (fun g => no (Or.inr (Or.inr ⟨Classical.not_not.mp g5, by omega⟩)))
theorem gs_byM (x n t : Int) (h1 : 0 ≤ n - 1 - t) (h2 : n - 1 - t < 8) (σ : np_S) : f_M_byteOf x n t σ = some (gb_by x (n - 1 - t).toNat, σ) := by
  unfold f_M_byteOf
  have e : n - 1 - t = (((n - 1 - t).toNat : Nat) : Int) := by omega
  rw [e, gb_byM x (by omega)]
  rw [← e]
theorem gs_Wl (x n s : Int) (hn : 1 ≤ n) (hn8 : n ≤ 8) (hs : np_R s) (σ : np_S) : ∀ (f : Nat) (b : Int) (k : Int), (b = 0 ∨ b = 1) → 0 ≤ k → k ≤ n → n - k < f → np_W (f_M_isWord_47 f x n s b k σ) (fun o => o.2 = σ ∧ gs_bo o.1 (b = 1 ∧ ∀ t : Nat, k ≤ t → (t : Int) < n → gs_so (gb_by x (n - 1 - t).toNat) = s)) := by
  intro f
  induction f with
  | zero => intro b k hb h0 h1 h8; omega
  | succ f ih =>
    intro b k hb h0 h1 h8
    show np_W (f_M_isWord_47_b _ x n s b k σ) _
    unfold f_M_isWord_47_b
    refine np_W_ck ⟨⟨by omega, by omega⟩, ⟨by omega, by omega⟩⟩ ?_
    refine np_W_if (fun h => np_W_ck hb (np_W_some ⟨rfl, ?_⟩)) (fun h => ?_)
    · rcases hb with e | e
      · exact Or.inr ⟨e, fun q => by omega⟩
      · exact Or.inl ⟨e, e, fun t ht ht2 => by omega⟩
    refine np_W_ck (by rcases hb with e | e <;> rw [e] <;> decide) ?_
    refine np_W_if (fun hb0 => ?_) (fun hb0 => ?_)
    · refine np_W_mono (ih 0 (k + 1) (by decide) (by omega) (by omega) (by omega)) (fun o ho => ⟨ho.1, gs_bo_iff ho.2 ⟨fun q => absurd q.1 (by decide), fun q => by omega⟩⟩)
    · rw [gs_byM x n k (by omega) (by omega)]
      refine np_W_bind (np_W_some ?_)
      show np_W ((f_M_sort (gb_by x (n - 1 - k).toNat) σ).bind _) _
      rw [gs_by_s]
      refine np_W_bind (np_W_some ?_)
      try dsimp only
      have hr := gs_so_r (gb_by x (n - 1 - k).toNat)
      refine np_W_ck ⟨⟨by show -2147483648 ≤ gs_so (gb_by x (n - 1 - k).toNat); omega, by show gs_so (gb_by x (n - 1 - k).toNat) ≤ 2147483647; omega⟩, hs⟩ ?_
      refine np_W_if (fun g => ?_) (fun g => ?_)
      · refine np_W_mono (ih 0 (k + 1) (by decide) (by omega) (by omega) (by omega)) (fun o ho => ⟨ho.1, gs_bo_iff ho.2 ⟨fun q => absurd q.1 (by decide), fun q => absurd ?_ g⟩⟩)
        have := q.2 k.toNat (by omega) (by omega)
        rw [Int.toNat_of_nonneg h0] at this
        exact this
      · refine np_W_mono (ih 1 (k + 1) (by decide) (by omega) (by omega) (by omega)) (fun o ho => ⟨ho.1, gs_bo_iff ho.2 ⟨fun q => ⟨by omega, fun t ht ht2 => ?_⟩, fun q => ⟨rfl, fun t ht ht2 => q.2 t (by omega) ht2⟩⟩⟩)
        by_cases e : (t : Int) = k
        · rw [e]; exact Classical.not_not.mp g
        · exact q.2 t (by omega) ht2
theorem gs_isWord (x n : Int) (hn : np_R n) (σ : np_S) : np_W (f_M_isWord x n σ) (fun o => o.2 = σ ∧ gs_bo o.1 (gs_wd x n)) := by
  unfold f_M_isWord
  refine np_W_ck ⟨hn, by decide⟩ ?_
  refine np_W_if (fun h => np_W_ck (by decide) (np_W_some ⟨rfl, Or.inr ⟨rfl, fun q => by have := q.1; omega⟩⟩)) (fun h => ?_)
  refine np_W_ck ⟨hn, by decide⟩ ?_
  refine np_W_if (fun h8 => ?_) (fun h8 => np_W_ck (by decide) (np_W_some ⟨rfl, Or.inr ⟨rfl, fun q => h8 q.2.1⟩⟩))
  rw [gs_byM x n 0 (by omega) (by omega)]
  refine np_W_bind (np_W_some ?_)
  show np_W ((f_M_sort (gb_by x (n - 1 - 0).toNat) σ).bind _) _
  rw [gs_by_s]
  refine np_W_bind (np_W_some ?_)
  try dsimp only
  have hr := gs_so_r (gb_by x (n - 1 - 0).toNat)
  generalize hs : gs_so (gb_by x (n - 1 - 0).toNat) = s at hr ⊢
  have hR : np_R s := ⟨by omega, by omega⟩
  have so2 : ∀ y, gs_so y > 0 → gs_kd y = gs_so y + 1 := by
    intro y; unfold gs_so; split
    · intro g; omega
    · intro g; omega
  have so1 : ∀ y, gs_kd y ≥ 2 → gs_so y = gs_kd y - 1 := by
    intro y g; unfold gs_so; rw [if_neg (by omega)]
  have key : gs_wd x n ↔ ((s > 0 ∧ (s < 4 ∨ n = 1)) ∧ ∀ t : Nat, (1 : Int) ≤ t → (t : Int) < n → gs_so (gb_by x (n - 1 - t).toNat) = s) := by
    constructor
    · rintro ⟨_, _, κ, q1, q2, q3, q4⟩
      have a := q4 (n - 1 - 0).toNat (by omega)
      have b := so1 _ (by rw [a]; exact q1)
      rw [a, hs] at b
      refine ⟨⟨by omega, by omega⟩, fun t ht ht2 => ?_⟩
      have a2 := q4 (n - 1 - t).toNat (by omega)
      rw [so1 _ (by rw [a2]; exact q1), a2]; omega
    · rintro ⟨⟨q1, q2⟩, q3⟩
      refine ⟨by omega, h8, s + 1, by omega, by omega, by omega, fun k hk => ?_⟩
      by_cases e : (k : Int) = n - 1
      · have e2 : (n - 1 - 0).toNat = k := by omega
        rw [e2] at hs
        rw [so2 _ (by rw [hs]; exact q1), hs]
      · have e3 := q3 (n - 1 - k).toNat (by omega) (by omega)
        have e4 : (n - 1 - ((n - 1 - (k : Int)).toNat : Nat)).toNat = k := by omega
        rw [e4] at e3
        rw [so2 _ (by rw [e3]; exact q1), e3]
  have no : ¬ (s > 0 ∧ (s < 4 ∨ n = 1)) → np_W (f_M_isWord_41 x n s σ) (fun o => o.2 = σ ∧ gs_bo o.1 (gs_wd x n)) := by
    intro hno
    refine np_W_mono (gs_Wl x n s (by omega) h8 hR σ 20000 0 1 (by decide) (by decide) (by omega) (by omega)) (fun o ho => ⟨ho.1, gs_bo_iff ho.2 ⟨fun q => absurd q.1 (by decide), fun q => absurd (key.mp q).1 hno⟩⟩)
  have yes : (s > 0 ∧ (s < 4 ∨ n = 1)) → np_W (f_M_isWord_37 x n s σ) (fun o => o.2 = σ ∧ gs_bo o.1 (gs_wd x n)) := by
    intro hy
    refine np_W_mono (gs_Wl x n s (by omega) h8 hR σ 20000 1 1 (by decide) (by decide) (by omega) (by omega)) (fun o ho => ⟨ho.1, gs_bo_iff ho.2 ⟨fun q => key.mpr ⟨hy, q.2⟩, fun q => ⟨rfl, (key.mp q).2⟩⟩⟩)
  refine np_W_ck hR ?_
  refine np_W_if (fun g => no (by omega)) (fun g0 => ?_)
  refine np_W_ck ⟨hR, by decide⟩ ?_
  refine np_W_if (fun g => yes (by omega)) (fun g4 => ?_)
  refine np_W_ck ⟨hn, by decide⟩ ?_
  refine np_W_if (fun g => no (by omega)) (fun g => yes (by omega))
def gs_lo (x n : Int) : Int := if n = 8 then x else x % ((256 ^ n.toNat : Nat) : Int)
theorem gs_lowBytes (x n : Int) (h1 : 1 ≤ n) (h8 : n ≤ 8) (σ : np_S) : f_Spelling_lowBytes x n σ = some (gs_lo x n, σ) := by
  unfold f_Spelling_lowBytes f_Spelling_lowBytes_20 gs_lo
  rw [np_ck_i ⟨⟨by omega, by omega⟩, by decide⟩]
  by_cases h : n < 8
  · rw [if_pos h, if_neg (by omega)]
    have := gb_low x (n := n.toNat) (by omega) (by omega)
    rw [Int.toNat_of_nonneg (by omega)] at this
    rw [this]
  · rw [if_neg h, if_pos (by omega)]
theorem gs_lowest (x n : Int) (h1 : 1 ≤ n) (h8 : n ≤ 8) (σ : np_S) : f_M_lowest x n σ = some (gs_lo x n, σ) := by
  unfold f_M_lowest f_M_lowest_20 gs_lo
  rw [np_ck_i ⟨⟨by omega, by omega⟩, by decide⟩]
  by_cases h : n < 8
  · rw [if_pos (by omega), if_neg (by omega)]
    have := gb_low x (n := n.toNat) (by omega) (by omega)
    rw [Int.toNat_of_nonneg (by omega)] at this
    rw [this]
  · rw [if_neg (by omega), if_pos (by omega)]
theorem gs_lo_R {x n : Int} (hx : np_R6 x) (h1 : 1 ≤ n) (h8 : n ≤ 8) : np_R6 (gs_lo x n) := by
  unfold gs_lo
  split
  · exact hx
  · have hp : (256 ^ n.toNat : Nat) ≤ 256 ^ 7 := Nat.pow_le_pow_right (by decide) (by omega)
    have e7 : (256 : Nat) ^ 7 = 72057594037927936 := by decide
    have hp0 : 0 < (256 : Nat) ^ n.toNat := Nat.pow_pos (by decide)
    have a := Int.emod_nonneg x (b := ((256 ^ n.toNat : Nat) : Int)) (by omega)
    have b := Int.emod_lt_of_pos x (b := ((256 ^ n.toNat : Nat) : Int)) (by omega)
    exact ⟨by omega, by omega⟩
theorem gs_lo_by0 (x n : Int) (h1 : 1 ≤ n) : gb_by (gs_lo x n) 0 = gb_by x 0 := by
  unfold gs_lo
  split
  · rfl
  · unfold gb_by
    have e : ((256 ^ 0 : Nat) : Int) = 1 := by decide
    rw [e, Int.ediv_one, Int.ediv_one]
    obtain ⟨m, hm⟩ : ∃ m, n.toNat = m + 1 := ⟨n.toNat - 1, by omega⟩
    rw [hm]
    refine Int.emod_emod_of_dvd x ?_
    rw [Nat.pow_succ]
    exact ⟨((256 ^ m : Nat) : Int), by rw [Nat.mul_comm]; exact Int.natCast_mul _ _⟩
theorem gs_wd_lo {x n : Int} (h : gs_wd x n) : gs_lo x n ≠ 0 ∧ gs_lo x n ≠ -1 := by
  obtain ⟨h1, h8, κ, k2, k5, _, hk⟩ := h
  have a := hk 0 (by omega)
  rw [← gs_lo_by0 x n h1] at a
  constructor
  · intro e
    rw [e] at a
    have : gs_kd (gb_by 0 0) = 0 := by decide
    omega
  · intro e
    rw [e] at a
    have : gs_kd (gb_by (-1) 0) = 0 := by decide
    omega
