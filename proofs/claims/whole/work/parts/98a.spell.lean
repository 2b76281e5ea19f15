/-! spelling -/
def gs_sg : List Int := [33,35,36,37,38,42,43,45,46,47,58,60,61,62,63,64,94,124,126]
def gs_ln : List Int := [40,41,91,93,123,125,44,59]

theorem gs_kbR0 (t : Int) : np_R (np_kb 0 t) := gb_R5 _
theorem gs_ix0 (c : Int) (hc : np_R c) (σ : np_S) : ∀ (n : Nat) (j : Int), 0 ≤ j → j ≤ 19 → 19 - j < n → np_W (f_StringLatin1_indexOfChar_kb0_7 n 19 c j σ) (fun o => o.2 = σ ∧ np_R o.1 ∧ (o.1 < 0 ↔ ∀ t, j ≤ t → t < 19 → np_kb 0 t ≠ c)) := by
  intro n
  induction n with
  | zero => intro j _ _ h; omega
  | succ n ih =>
    intro j h0 h1 h2
    show np_W (f_StringLatin1_indexOfChar_kb0_7_b _ 19 c j σ) _
    unfold f_StringLatin1_indexOfChar_kb0_7_b
    refine np_W_ck ⟨⟨by omega, by omega⟩, by decide⟩ ?_
    refine np_W_if (fun h => np_W_some ⟨rfl, by dsimp only; decide, ⟨fun _ t ht ht2 => by omega, fun _ => by dsimp only; decide⟩⟩) (fun h => ?_)
    refine np_W_ck ⟨h0, by omega⟩ ?_
    refine np_W_ck ⟨gs_kbR0 j, hc⟩ ?_
    refine np_W_if (fun hk => ?_) (fun hk => ?_)
    · refine np_W_mono (ih (j + 1) (by omega) (by omega) (by omega)) (fun o ho => ⟨ho.1, ho.2.1, ho.2.2.trans ⟨fun g t ht ht2 => ?_, fun g t ht ht2 => g t (by omega) ht2⟩⟩)
      by_cases e : t = j
      · rw [e]; exact hk
      · exact g t (by omega) ht2
    · refine np_W_some ⟨rfl, ⟨by show -2147483648 ≤ j; omega, by show j ≤ 2147483647; omega⟩, ⟨fun g => ?_, fun g => ?_⟩⟩
      · have : j < 0 := g
        omega
      · exact absurd (Classical.not_not.mp hk) (g j (by omega) (by omega))
theorem gs_in0 (c : Int) : (∀ t : Int, 0 ≤ t → t < 19 → np_kb 0 t ≠ c) ↔ c ∉ gs_sg := by
  have e : gs_sg = (List.range 19).map (fun t : Nat => np_kb 0 (t : Int)) := by decide
  rw [e]
  constructor
  · intro h hm
    obtain ⟨t, ht, et⟩ := List.mem_map.mp hm
    have := List.mem_range.mp ht
    exact h t (by omega) (by omega) et
  · intro h t ht ht2 et
    refine h (List.mem_map.mpr ⟨t.toNat, List.mem_range.mpr (by omega), ?_⟩)
    rw [Int.toNat_of_nonneg ht]; exact et
theorem gs_six0 (c : Int) (h0 : 0 ≤ c) (h1 : c ≤ 255) (σ : np_S) : np_W (f_String_indexOf_k0 c σ) (fun o => o.2 = σ ∧ np_R o.1 ∧ (o.1 < 0 ↔ c ∉ gs_sg)) := by
  have hb : ∀ d, d ∈ gs_sg → 0 ≤ d ∧ d < 128 := by decide
  have hl : f_String_length_k0 σ = some (19, σ) := by
    unfold f_String_length_k0 f_String_coder_k0 f_String_coder_k0_14
    have e : np_shri 19 0 = 19 := by decide
    rw [np_ck_i (by decide), if_neg (by decide), np_ck_i (by decide)]
    show some (np_shri 19 0, σ) = _
    rw [e]
  have hi : f_String_isLatin1_k0 σ = some (1, σ) := by
    unfold f_String_isLatin1_k0 f_String_isLatin1_k0_18
    rw [np_ck_i (by decide), if_neg (by decide), np_ck_i (by decide), if_neg (by decide), np_ck_i (by decide)]
  have he : f_StringLatin1_canEncode c σ = some (1, σ) := by
    unfold f_StringLatin1_canEncode f_StringLatin1_canEncode_16
    rw [np_ck_i ⟨by omega, by omega⟩, if_neg (by omega), np_ck_i ⟨⟨by omega, by omega⟩, by decide⟩, if_neg (by omega), np_ck_i (Or.inr rfl)]
  unfold f_String_indexOf_k0 f_String_indexOf2_k0
  rw [hi]
  refine np_W_bind ?_
  refine np_W_bind (np_W_some ?_)
  try dsimp only
  refine np_W_ck (by decide) ?_
  refine np_W_if (fun h => absurd h (by decide)) (fun _ => ?_)
  refine np_W_bind ?_
  show np_W (f_String_length_k0 σ) _
  rw [hl]
  refine np_W_some ?_
  try dsimp only
  try dsimp only
  refine np_W_bind ?_
  unfold f_StringLatin1_indexOf_kb0
  show np_W ((f_StringLatin1_canEncode c σ).bind _) _
  rw [he]
  refine np_W_bind (np_W_some ?_)
  try dsimp only
  refine np_W_ck (by decide) ?_
  refine np_W_if (fun _ => ?_) (fun h => absurd (by decide) h)
  refine np_W_ck (by decide) ?_
  refine np_W_ck (by decide) ?_
  refine np_W_ck (by show np_R (np_max 0 0) ∧ np_R (np_min 19 19); decide) ?_
  refine np_W_if (fun _ => ?_) (fun h => absurd (show np_max 0 0 < np_min 19 19 by decide) h)
  refine np_W_bind ?_
  unfold f_StringLatin1_indexOfChar_kb0
  have hr := Int.bmod_def c 256
  have hc : np_R (Int.bmod c 256) := by
    have h1 := @Int.le_bmod c 256 (by decide)
    have h2 := @Int.bmod_lt c 256 (by decide)
    exact ⟨by omega, by omega⟩
  refine np_W_mono (gs_ix0 (Int.bmod c 256) hc σ 20000 0 (by decide) (by decide) (by decide)) (fun o ho => np_W_some (np_W_some (np_W_some ⟨ho.1, ho.2.1, ho.2.2.trans ((gs_in0 _).trans ?_)⟩)))
  have key : (Int.bmod c 256 ∈ gs_sg) ↔ c ∈ gs_sg := by
    by_cases hlt : c < 128
    · have : Int.bmod c 256 = c := by rw [hr]; split <;> omega
      rw [this]
    · constructor
      · intro hm
        have := hb _ hm
        rw [hr] at this; split at this <;> omega
      · intro hm
        have := hb _ hm
        omega
  exact not_congr key

theorem gs_kbR1 (t : Int) : np_R (np_kb 1 t) := gb_R5 _
theorem gs_ix1 (c : Int) (hc : np_R c) (σ : np_S) : ∀ (n : Nat) (j : Int), 0 ≤ j → j ≤ 8 → 8 - j < n → np_W (f_StringLatin1_indexOfChar_kb1_7 n 8 c j σ) (fun o => o.2 = σ ∧ np_R o.1 ∧ (o.1 < 0 ↔ ∀ t, j ≤ t → t < 8 → np_kb 1 t ≠ c)) := by
  intro n
  induction n with
  | zero => intro j _ _ h; omega
  | succ n ih =>
    intro j h0 h1 h2
    show np_W (f_StringLatin1_indexOfChar_kb1_7_b _ 8 c j σ) _
    unfold f_StringLatin1_indexOfChar_kb1_7_b
    refine np_W_ck ⟨⟨by omega, by omega⟩, by decide⟩ ?_
    refine np_W_if (fun h => np_W_some ⟨rfl, by dsimp only; decide, ⟨fun _ t ht ht2 => by omega, fun _ => by dsimp only; decide⟩⟩) (fun h => ?_)
    refine np_W_ck ⟨h0, by omega⟩ ?_
    refine np_W_ck ⟨gs_kbR1 j, hc⟩ ?_
    refine np_W_if (fun hk => ?_) (fun hk => ?_)
    · refine np_W_mono (ih (j + 1) (by omega) (by omega) (by omega)) (fun o ho => ⟨ho.1, ho.2.1, ho.2.2.trans ⟨fun g t ht ht2 => ?_, fun g t ht ht2 => g t (by omega) ht2⟩⟩)
      by_cases e : t = j
      · rw [e]; exact hk
      · exact g t (by omega) ht2
    · refine np_W_some ⟨rfl, ⟨by show -2147483648 ≤ j; omega, by show j ≤ 2147483647; omega⟩, ⟨fun g => ?_, fun g => ?_⟩⟩
      · have : j < 0 := g
        omega
      · exact absurd (Classical.not_not.mp hk) (g j (by omega) (by omega))
theorem gs_in1 (c : Int) : (∀ t : Int, 0 ≤ t → t < 8 → np_kb 1 t ≠ c) ↔ c ∉ gs_ln := by
  have e : gs_ln = (List.range 8).map (fun t : Nat => np_kb 1 (t : Int)) := by decide
  rw [e]
  constructor
  · intro h hm
    obtain ⟨t, ht, et⟩ := List.mem_map.mp hm
    have := List.mem_range.mp ht
    exact h t (by omega) (by omega) et
  · intro h t ht ht2 et
    refine h (List.mem_map.mpr ⟨t.toNat, List.mem_range.mpr (by omega), ?_⟩)
    rw [Int.toNat_of_nonneg ht]; exact et
theorem gs_six1 (c : Int) (h0 : 0 ≤ c) (h1 : c ≤ 255) (σ : np_S) : np_W (f_String_indexOf_k1 c σ) (fun o => o.2 = σ ∧ np_R o.1 ∧ (o.1 < 0 ↔ c ∉ gs_ln)) := by
  have hb : ∀ d, d ∈ gs_ln → 0 ≤ d ∧ d < 128 := by decide
  have hl : f_String_length_k1 σ = some (8, σ) := by
    unfold f_String_length_k1 f_String_coder_k1 f_String_coder_k1_14
    have e : np_shri 8 0 = 8 := by decide
    rw [np_ck_i (by decide), if_neg (by decide), np_ck_i (by decide)]
    show some (np_shri 8 0, σ) = _
    rw [e]
  have hi : f_String_isLatin1_k1 σ = some (1, σ) := by
    unfold f_String_isLatin1_k1 f_String_isLatin1_k1_18
    rw [np_ck_i (by decide), if_neg (by decide), np_ck_i (by decide), if_neg (by decide), np_ck_i (by decide)]
  have he : f_StringLatin1_canEncode c σ = some (1, σ) := by
    unfold f_StringLatin1_canEncode f_StringLatin1_canEncode_16
    rw [np_ck_i ⟨by omega, by omega⟩, if_neg (by omega), np_ck_i ⟨⟨by omega, by omega⟩, by decide⟩, if_neg (by omega), np_ck_i (Or.inr rfl)]
  unfold f_String_indexOf_k1 f_String_indexOf2_k1
  rw [hi]
  refine np_W_bind ?_
  refine np_W_bind (np_W_some ?_)
  try dsimp only
  refine np_W_ck (by decide) ?_
  refine np_W_if (fun h => absurd h (by decide)) (fun _ => ?_)
  refine np_W_bind ?_
  show np_W (f_String_length_k1 σ) _
  rw [hl]
  refine np_W_some ?_
  try dsimp only
  try dsimp only
  refine np_W_bind ?_
  unfold f_StringLatin1_indexOf_kb1
  show np_W ((f_StringLatin1_canEncode c σ).bind _) _
  rw [he]
  refine np_W_bind (np_W_some ?_)
  try dsimp only
  refine np_W_ck (by decide) ?_
  refine np_W_if (fun _ => ?_) (fun h => absurd (by decide) h)
  refine np_W_ck (by decide) ?_
  refine np_W_ck (by decide) ?_
  refine np_W_ck (by show np_R (np_max 0 0) ∧ np_R (np_min 8 8); decide) ?_
  refine np_W_if (fun _ => ?_) (fun h => absurd (show np_max 0 0 < np_min 8 8 by decide) h)
  refine np_W_bind ?_
  unfold f_StringLatin1_indexOfChar_kb1
  have hr := Int.bmod_def c 256
  have hc : np_R (Int.bmod c 256) := by
    have h1 := @Int.le_bmod c 256 (by decide)
    have h2 := @Int.bmod_lt c 256 (by decide)
    exact ⟨by omega, by omega⟩
  refine np_W_mono (gs_ix1 (Int.bmod c 256) hc σ 20000 0 (by decide) (by decide) (by decide)) (fun o ho => np_W_some (np_W_some (np_W_some ⟨ho.1, ho.2.1, ho.2.2.trans ((gs_in1 _).trans ?_)⟩)))
  have key : (Int.bmod c 256 ∈ gs_ln) ↔ c ∈ gs_ln := by
    by_cases hlt : c < 128
    · have : Int.bmod c 256 = c := by rw [hr]; split <;> omega
      rw [this]
    · constructor
      · intro hm
        have := hb _ hm
        rw [hr] at this; split at this <;> omega
      · intro hm
        have := hb _ hm
        omega
  exact not_congr key

def gs_kd (x : Int) : Int := if x = 32 ∨ x = 10 then 1 else if (97 ≤ x ∧ x ≤ 122) ∨ (65 ≤ x ∧ x ≤ 90) then 2 else if 48 ≤ x ∧ x ≤ 57 then 3 else if x ∈ gs_sg then 4 else if x ∈ gs_ln then 5 else 0
def gs_so (x : Int) : Int := if gs_kd x ≤ 1 then 0 else gs_kd x - 1
theorem gs_kd_r (x : Int) : 0 ≤ gs_kd x ∧ gs_kd x ≤ 5 := by
  unfold gs_kd
  repeat' split
  all_goals decide
theorem gs_kindOf (x : Int) (h0 : 0 ≤ x) (h1 : x ≤ 255) (σ : np_S) : f_Spelling_kindOf x σ = some (gs_kd x, σ) := by
  apply np_W_eq.mp
  have hx : np_R x := ⟨by omega, by omega⟩
  have h54 : ¬ (x = 32 ∨ x = 10) → ¬ ((97 ≤ x ∧ x ≤ 122) ∨ (65 ≤ x ∧ x ≤ 90)) → ¬ (48 ≤ x ∧ x ≤ 57) → np_W (f_Spelling_kindOf_54 x σ) (fun r => r = (gs_kd x, σ)) := by
    intro a b c
    have em : x % 65536 = x := by omega
    unfold f_Spelling_kindOf_54
    rw [em]
    unfold gs_kd
    rw [if_neg a, if_neg b, if_neg c]
    refine np_W_seq (gs_six0 x h0 h1 σ) (fun o ho => ?_)
    refine np_W_ck ho.2.1 ?_
    refine np_W_if (fun g => ?_) (fun g => ?_)
    · rw [if_neg (ho.2.2.mp g), ho.1]
      refine np_W_seq (gs_six1 x h0 h1 σ) (fun q hq => ?_)
      refine np_W_ck hq.2.1 ?_
      refine np_W_if (fun g => ?_) (fun g => ?_)
      · rw [if_neg (hq.2.2.mp g)]
        exact np_W_some (by rw [hq.1])
      · rw [if_pos (Classical.not_not.mp (fun hn => g (hq.2.2.mpr hn)))]
        exact np_W_some (by rw [hq.1])
    · rw [if_pos (Classical.not_not.mp (fun hn => g (ho.2.2.mpr hn)))]
      exact np_W_some (by rw [ho.1])
  have h40 : ¬ (x = 32 ∨ x = 10) → ¬ ((97 ≤ x ∧ x ≤ 122) ∨ (65 ≤ x ∧ x ≤ 90)) → np_W (f_Spelling_kindOf_40 x σ) (fun r => r = (gs_kd x, σ)) := by
    intro a b
    unfold f_Spelling_kindOf_40
    refine np_W_ck ⟨hx, by decide⟩ ?_
    refine np_W_if (fun g => h54 a b (by omega)) (fun g => ?_)
    refine np_W_ck ⟨hx, by decide⟩ ?_
    refine np_W_if (fun g => h54 a b (by omega)) (fun g => ?_)
    refine np_W_some ?_
    unfold gs_kd
    rw [if_neg a, if_neg b, if_pos (by omega)]
  have h26 : ¬ (x = 32 ∨ x = 10) → ¬ (97 ≤ x ∧ x ≤ 122) → np_W (f_Spelling_kindOf_26 x σ) (fun r => r = (gs_kd x, σ)) := by
    intro a b
    unfold f_Spelling_kindOf_26
    refine np_W_ck ⟨hx, by decide⟩ ?_
    refine np_W_if (fun g => h40 a (by omega)) (fun g => ?_)
    refine np_W_ck ⟨hx, by decide⟩ ?_
    refine np_W_if (fun g => h40 a (by omega)) (fun g => ?_)
    refine np_W_some ?_
    unfold gs_kd
    rw [if_neg a, if_pos (by omega)]
  unfold f_Spelling_kindOf
  refine np_W_ck ⟨hx, by decide⟩ ?_
  refine np_W_if (fun g => np_W_some (by unfold gs_kd; rw [if_pos (Or.inl g)])) (fun g => ?_)
  refine np_W_ck ⟨hx, by decide⟩ ?_
  refine np_W_if (fun g2 => ?_) (fun g2 => np_W_some (by unfold gs_kd; rw [if_pos (by omega)]))
  refine np_W_ck ⟨hx, by decide⟩ ?_
  refine np_W_if (fun g3 => h26 (by omega) (by omega)) (fun g3 => ?_)
  refine np_W_ck ⟨hx, by decide⟩ ?_
  refine np_W_if (fun g4 => np_W_some (by unfold gs_kd; rw [if_neg (by omega), if_pos (by omega)])) (fun g4 => h26 (by omega) (by omega))
theorem gs_letter (x : Int) (h0 : 0 ≤ x) (h1 : x ≤ 255) (σ : np_S) : f_M_isLetter x σ = some (if (97 ≤ x ∧ x ≤ 122) ∨ (65 ≤ x ∧ x ≤ 90) then 1 else 0, σ) := by
  apply np_W_eq.mp
  have hx : np_R x := ⟨by omega, by omega⟩
  have h12 : ¬ (97 ≤ x ∧ x ≤ 122) → np_W (f_M_isLetter_12 x σ) (fun r => r = (if (97 ≤ x ∧ x ≤ 122) ∨ (65 ≤ x ∧ x ≤ 90) then 1 else 0, σ)) := by
    intro a
    unfold f_M_isLetter_12 f_M_isLetter_28 f_M_isLetter_24 f_M_isLetter_29
    refine np_W_ck ⟨hx, by decide⟩ ?_
    refine np_W_if (fun g => np_W_ck (by decide) (np_W_some (by rw [if_neg (by omega)]))) (fun g => ?_)
    refine np_W_ck ⟨hx, by decide⟩ ?_
    refine np_W_if (fun g => np_W_ck (by decide) (np_W_some (by rw [if_neg (by omega)]))) (fun g => np_W_ck (by decide) (np_W_some (by rw [if_pos (by omega)])))
  unfold f_M_isLetter
  refine np_W_ck ⟨hx, by decide⟩ ?_
  refine np_W_if (fun g3 => h12 (by omega)) (fun g3 => ?_)
  refine np_W_ck ⟨hx, by decide⟩ ?_
  refine np_W_if (fun g4 => ?_) (fun g4 => h12 (by omega))
  unfold f_M_isLetter_24 f_M_isLetter_29
  exact np_W_ck (by decide) (np_W_some (by rw [if_pos (by omega)]))
theorem gs_digit (x : Int) (h0 : 0 ≤ x) (h1 : x ≤ 255) (σ : np_S) : f_M_isDigit x σ = some (if 48 ≤ x ∧ x ≤ 57 then 1 else 0, σ) := by
  apply np_W_eq.mp
  have hx : np_R x := ⟨by omega, by omega⟩
  unfold f_M_isDigit f_M_isDigit_16 f_M_isDigit_17
  refine np_W_ck ⟨hx, by decide⟩ ?_
  refine np_W_if (fun g => np_W_ck (by decide) (np_W_some (by rw [if_neg (by omega)]))) (fun g => ?_)
  refine np_W_ck ⟨hx, by decide⟩ ?_
  refine np_W_if (fun g => np_W_ck (by decide) (np_W_some (by rw [if_neg (by omega)]))) (fun g => np_W_ck (by decide) (np_W_some (by rw [if_pos (by omega)])))
theorem gs_sort (x : Int) (h0 : 0 ≤ x) (h1 : x ≤ 255) (σ : np_S) : f_M_sort x σ = some (gs_so x, σ) := by
  apply np_W_eq.mp
  have hx : np_R x := ⟨by omega, by omega⟩
  unfold f_M_sort
  rw [gs_letter x h0 h1]
  refine np_W_bind (np_W_some ?_)
  try dsimp only
  by_cases hl : (97 ≤ x ∧ x ≤ 122) ∨ (65 ≤ x ∧ x ≤ 90)
  · rw [if_pos hl]
    refine np_W_ck (by decide) ?_
    refine np_W_if (fun g => absurd g (by decide)) (fun _ => np_W_some ?_)
    unfold gs_so gs_kd
    rw [if_neg (show ¬ (x = 32 ∨ x = 10) by omega), if_pos hl]; rfl
  · rw [if_neg hl]
    refine np_W_ck (by decide) ?_
    refine np_W_if (fun _ => ?_) (fun g => absurd rfl g)
    show np_W ((f_M_isDigit x σ).bind _) _
    rw [gs_digit x h0 h1]
    refine np_W_bind (np_W_some ?_)
    try dsimp only
    by_cases hd : 48 ≤ x ∧ x ≤ 57
    · rw [if_pos hd]
      refine np_W_ck (by decide) ?_
      refine np_W_if (fun g => absurd g (by decide)) (fun _ => np_W_some ?_)
      unfold gs_so gs_kd
      rw [if_neg (show ¬ (x = 32 ∨ x = 10) by omega), if_neg hl, if_pos hd]; rfl
    · rw [if_neg hd]
      refine np_W_ck (by decide) ?_
      refine np_W_if (fun _ => ?_) (fun g => absurd rfl g)
      refine np_W_ck hx ?_
      iterate 94 refine np_W_if (fun h => by first | (exfalso; omega) | (subst h; exact np_W_some rfl)) (fun h => ?_)
      refine np_W_some ?_
      have e : gs_so x = 0 := by
        unfold gs_so gs_kd
        by_cases hw : x = 32 ∨ x = 10
        · rw [if_pos hw]; rfl
        · have hs : x ∉ gs_sg := by
            simp only [gs_sg, List.mem_cons, List.not_mem_nil, or_false]; omega
          have hn : x ∉ gs_ln := by
            simp only [gs_ln, List.mem_cons, List.not_mem_nil, or_false]; omega
          rw [if_neg hw, if_neg hl, if_neg hd, if_neg hs, if_neg hn]; rfl
      rw [e]
