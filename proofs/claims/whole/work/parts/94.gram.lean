/-! THE GRAMMAR AND ITS COUNTS, apart from all stores: rules (brackets 0, atoms 1, notations from 2 on), their parts, levels; the text's tokens -/
abbrev ga_G : Type := Nat × (Nat → Nat) × (Nat → Nat → Int) × (Nat → Nat → Int) × (Nat → Int) × (Nat → Int)
/-- how many rules -/
def ga_R (g : ga_G) : Nat := g.1
/-- how many parts -/
def ga_l (g : ga_G) (r : Nat) : Nat := g.2.1 r
/-- the hole's level, -1 of a word -/
def ga_h (g : ga_G) (r d : Nat) : Int := g.2.2.1 r d
def ga_w (g : ga_G) (r d : Nat) : Int := g.2.2.2.1 r d
def ga_v (g : ga_G) (r : Nat) : Int := g.2.2.2.2.1 r
def ga_t (g : ga_G) (i : Nat) : Int := g.2.2.2.2.2 i
def ga_ok (g : ga_G) : Prop := ∀ r, r < ga_R g → (1 ≤ ga_l g r ∧ ga_l g r ≤ 6) ∧ (0 ≤ ga_v g r ∧ ga_v g r ≤ 10) ∧ (∀ d, d < ga_l g r → -1 ≤ ga_h g r d ∧ ga_h g r d ≤ 10) ∧ (∀ d, d + 1 < ga_l g r → ga_h g r d ≠ -1 → ga_h g r (d + 1) = -1) ∧ ∃ d, d < ga_l g r ∧ ga_h g r d = -1
/-- in how many ways the last k parts of rule r take the words from i to j, the terms counted by c -/
def ga_S (g : ga_G) (c : Int → Nat → Nat → Nat) (r : Nat) : Nat → Nat → Nat → Nat
  | 0, i, j => if i = j then 1 else 0
  | k + 1, i, j => if ga_h g r (ga_l g r - (k + 1)) = -1 then (if i < j ∧ ga_t g i = ga_w g r (ga_l g r - (k + 1)) then ga_S g c r k (i + 1) j else 0)
    else ga_sum (j + 1) (fun m => if i < m then c (ga_h g r (ga_l g r - (k + 1))) i m * ga_S g c r k m j else 0)
/-- in how many ways the first d parts of rule r take the words from i to j -/
def ga_P (g : ga_G) (c : Int → Nat → Nat → Nat) (r : Nat) : Nat → Nat → Nat → Nat
  | 0, i, j => if i = j then 1 else 0
  | d + 1, i, j => if ga_h g r d = -1 then (if i < j ∧ ga_t g (j - 1) = ga_w g r d then ga_P g c r d i (j - 1) else 0)
    else ga_sum j (fun m => if i ≤ m then ga_P g c r d i m * c (ga_h g r d) m j else 0)
/-- terms of a level, by fuel: right for all rows of at most that many words -/
def ga_Cn (g : ga_G) : Nat → Int → Nat → Nat → Nat
  | 0, _, _, _ => 0
  | f + 1, l, i, j => ga_sum (ga_R g) (fun r => if l ≤ ga_v g r then ga_S g (ga_Cn g f) r (ga_l g r) i j else 0)
def ga_C (g : ga_G) : Int → Nat → Nat → Nat := ga_Cn g 40
section GA1
variable {g : ga_G} {c c2 : Int → Nat → Nat → Nat} {r : Nat}
theorem ga_S_lt : ∀ (k i j : Nat), j < i → ga_S g c r k i j = 0 := by
  intro k
  induction k with
  | zero => intro i j h; exact if_neg (by omega)
  | succ k ih =>
    intro i j h
    rw [ga_S]
    split
    · rw [if_neg (by omega)]
    · exact ga_sum_zero (fun m hm => if_neg (by omega))
theorem ga_S_kk : ∀ (k i : Nat), 0 < k → ga_S g c r k i i = 0 := by
  intro k i h
  obtain ⟨k, rfl⟩ : ∃ q, k = q + 1 := ⟨k - 1, by omega⟩
  rw [ga_S]
  split
  · rw [if_neg (by omega)]
  · exact ga_sum_zero (fun m hm => if_neg (by omega))
/-- each part takes a word -/
theorem ga_S_len : ∀ (k i j : Nat), 0 < ga_S g c r k i j → i + k ≤ j := by
  intro k
  induction k with
  | zero => intro i j h; rw [ga_S] at h; split at h <;> omega
  | succ k ih =>
    intro i j h
    rw [ga_S] at h
    split at h
    · split at h
      · have := ih (i + 1) j h; omega
      · omega
    · obtain ⟨m, hm, h2⟩ := ga_sum_pos.mp h
      split at h2
      · have h3 : 0 < ga_S g c r k m j := Nat.pos_of_mul_pos_left h2
        have := ih m j h3; omega
      · omega
theorem ga_P_lt : ∀ (d i j : Nat), j < i → ga_P g c r d i j = 0 := by
  intro d
  induction d with
  | zero => intro i j h; exact if_neg (by omega)
  | succ d ih =>
    intro i j h
    rw [ga_P]
    split
    · rw [if_neg (by omega)]
    · exact ga_sum_zero (fun m hm => if_neg (by omega))
theorem ga_P_len : ∀ (d i j : Nat), 0 < ga_P g c r d i j → i + d ≤ j := by
  intro d
  induction d with
  | zero => intro i j h; rw [ga_P] at h; split at h <;> omega
  | succ d ih =>
    intro i j h
    rw [ga_P] at h
    split at h
    · split at h
      · have := ih i (j - 1) h; omega
      · omega
    · obtain ⟨m, hm, h2⟩ := ga_sum_pos.mp h
      split at h2
      · have h3 : 0 < ga_P g c r d i m := Nat.pos_of_mul_pos_right h2
        have := ih i m h3; omega
      · omega
/-- only terms of the words from i to j are asked for -/
theorem ga_S_congr : ∀ (k i j : Nat), (∀ (h : Int) (a b : Nat), i ≤ a → a < b → b ≤ j → c h a b = c2 h a b) → ga_S g c r k i j = ga_S g c2 r k i j := by
  intro k
  induction k with
  | zero => intro i j h; rfl
  | succ k ih =>
    intro i j h
    rw [ga_S, ga_S]
    split
    · split
      · exact ih (i + 1) j (fun q a b h1 h2 h3 => h q a b (by omega) h2 h3)
      · rfl
    · refine ga_sum_congr (fun m hm => ?_)
      split
      · rw [h _ i m (by omega) (by omega) (by omega), ih m j (fun q a b h1 h2 h3 => h q a b (by omega) h2 h3)]
      · rfl
/-- a whole rule asks for no term of all its words -/
theorem ga_S_congr_all (hg : ga_ok g) (hr : r < ga_R g) {i j : Nat} (h : ∀ (q : Int) (a b : Nat), i ≤ a → a < b → b ≤ j → b - a < j - i → c q a b = c2 q a b) : ga_S g c r (ga_l g r) i j = ga_S g c2 r (ga_l g r) i j := by
  obtain ⟨⟨h1, h2⟩, _, _, _, d, hd, hd2⟩ := hg r hr
  obtain ⟨k, hk⟩ : ∃ q, ga_l g r = q + 1 := ⟨ga_l g r - 1, by omega⟩
  rw [hk, ga_S, ga_S]
  split
  · split
    · exact ga_S_congr k (i + 1) j (fun q a b q1 q2 q3 => h q a b (by omega) q2 q3 (by omega))
    · rfl
  · rename_i hne
    have hk0 : 0 < k := by
      rcases Nat.eq_zero_or_pos k with h0 | h0
      · exfalso
        have : d = 0 := by omega
        subst this
        apply hne
        rw [hk]
        have : k + 1 - (k + 1) = 0 := by omega
        rw [this]; exact hd2
      · exact h0
    refine ga_sum_congr (fun m hm => ?_)
    split
    · by_cases hmj : m = j
      · subst hmj
        rw [ga_S_kk k m hk0, ga_S_kk k m hk0, Nat.mul_zero, Nat.mul_zero]
      · rw [h _ i m (by omega) (by omega) (by omega) (by omega), ga_S_congr k m j (fun q a b q1 q2 q3 => h q a b (by omega) q2 q3 (by omega))]
    · rfl
theorem ga_Cn_step (hg : ga_ok g) : ∀ (f : Nat) (l : Int) (i j : Nat), j - i ≤ f → ga_Cn g f l i j = ga_Cn g (f + 1) l i j := by
  intro f
  induction f with
  | zero =>
    intro l i j h
    rw [ga_Cn, ga_Cn]
    refine (ga_sum_zero (fun r hr => ?_)).symm
    split
    · have h1 := (hg r hr).1.1
      rcases Nat.lt_or_ge j i with h2 | h2
      · exact ga_S_lt _ _ _ h2
      · have h3 : i = j := by omega
        subst h3
        exact ga_S_kk _ _ h1
    · rfl
  | succ f ih =>
    intro l i j h
    rw [ga_Cn, ga_Cn]
    refine ga_sum_congr (fun r hr => ?_)
    split
    · exact ga_S_congr_all hg hr (fun q a b h1 h2 h3 h4 => ih q a b (by omega))
    · rfl
theorem ga_Cn_up (hg : ga_ok g) {f : Nat} {l : Int} {i j : Nat} (h : j - i ≤ f) (n : Nat) : ga_Cn g f l i j = ga_Cn g (f + n) l i j := by
  induction n with
  | zero => rfl
  | succ n ih => rw [ih]; exact ga_Cn_step hg (f + n) l i j (by omega)
/-- how terms are counted -/
theorem ga_C_eq (hg : ga_ok g) {l : Int} {i j : Nat} (h : j - i ≤ 39) : ga_C g l i j = ga_sum (ga_R g) (fun r => if l ≤ ga_v g r then ga_S g (ga_C g) r (ga_l g r) i j else 0) := by
  have h1 : ga_C g l i j = ga_Cn g 41 l i j := ga_Cn_step hg 40 l i j (by omega)
  rw [h1, ga_Cn]
  rfl
theorem ga_C_ge (hg : ga_ok g) {l : Int} {i j : Nat} (h : j ≤ i) : ga_C g l i j = 0 := by
  show ga_Cn g 40 l i j = 0
  rw [← ga_Cn_up hg (f := 0) (by omega) 40]
  rfl
theorem ga_C_lt (hg : ga_ok g) {l : Int} {i j : Nat} (h : 0 < ga_C g l i j) : i < j := by
  rcases Nat.lt_or_ge i j with h1 | h1
  · exact h1
  · rw [ga_C_ge hg h1] at h; omega
theorem ga_C_mono (hg : ga_ok g) {l l2 : Int} {i j : Nat} (h : j - i ≤ 39) (hl : l ≤ l2) (h2 : 0 < ga_C g l2 i j) : 0 < ga_C g l i j := by
  rw [ga_C_eq hg h] at h2 ⊢
  obtain ⟨r, hr, h3⟩ := ga_sum_pos.mp h2
  refine ga_sum_pos.mpr ⟨r, hr, ?_⟩
  split at h3
  · rw [if_pos (by omega)]; exact h3
  · omega
/-- the first d parts and the rest -/
def ga_T (g : ga_G) (c : Int → Nat → Nat → Nat) (r i j d : Nat) : Nat := ga_sum (j + 1) (fun m => ga_P g c r d i m * ga_S g c r (ga_l g r - d) m j)
theorem ga_T_step (r i j d : Nat) (hd : d < ga_l g r) : ga_T g c r i j d = ga_T g c r i j (d + 1) := by
  have hk : ga_l g r - d = (ga_l g r - (d + 1)) + 1 := by omega
  have hk2 : ga_l g r - (ga_l g r - (d + 1) + 1) = d := by omega
  unfold ga_T
  rw [hk]
  generalize hq : ga_l g r - (d + 1) = k at *
  by_cases hw : ga_h g r d = -1
  · rw [ga_sum, ga_sum_front]
    have e1 : ga_P g c r (d + 1) i 0 * ga_S g c r k 0 j = 0 := by
      rw [ga_P, if_pos hw, if_neg (by omega)]; simp
    have e2 : ga_P g c r d i j * ga_S g c r (k + 1) j j = 0 := by rw [ga_S_kk _ _ (by omega)]; simp
    rw [e1, e2, Nat.add_zero, Nat.zero_add]
    refine ga_sum_congr (fun m hm => ?_)
    rw [ga_P, if_pos hw, ga_S, hk2, if_pos hw, Nat.add_sub_cancel]
    by_cases h1 : ga_t g m = ga_w g r d
    · rw [if_pos ⟨hm, h1⟩]
      by_cases h2 : i < m + 1
      · rw [if_pos ⟨h2, h1⟩]
      · rw [if_neg (by omega), ga_P_lt _ _ _ (by omega)]
    · rw [if_neg (by simp [h1]), if_neg (by simp [h1]), Nat.mul_zero, Nat.zero_mul]
  · have e1 : ga_sum (j + 1) (fun m => ga_P g c r d i m * ga_S g c r (k + 1) m j) = ga_sum (j + 1) (fun m => ga_sum (j + 1) (fun e => if m < e then ga_P g c r d i m * c (ga_h g r d) m e * ga_S g c r k e j else 0)) := by
      refine ga_sum_congr (fun m hm => ?_)
      rw [ga_S, hk2, if_neg hw, ← ga_sum_mul]
      refine ga_sum_congr (fun e he => ?_)
      split
      · rw [Nat.mul_assoc]
      · simp
    have e2 : ga_sum (j + 1) (fun e => ga_P g c r (d + 1) i e * ga_S g c r k e j) = ga_sum (j + 1) (fun e => ga_sum (j + 1) (fun m => if m < e then ga_P g c r d i m * c (ga_h g r d) m e * ga_S g c r k e j else 0)) := by
      refine ga_sum_congr (fun e he => ?_)
      rw [ga_P, if_neg hw, ← ga_sum_mulr, ← ga_sum_ext (n := e) (m := j + 1) (by omega)]
      refine ga_sum_congr (fun m hm => ?_)
      by_cases h1 : m < e
      · rw [if_pos h1, if_pos h1]
        by_cases h2 : i ≤ m
        · rw [if_pos h2]
        · rw [if_neg h2, ga_P_lt _ _ _ (by omega)]; simp
      · rw [if_neg h1, if_neg h1]
    rw [e1, e2, ga_sum_swap]
theorem ga_T_all (r i j : Nat) : ∀ d, d ≤ ga_l g r → ga_T g c r i j 0 = ga_T g c r i j d := by
  intro d
  induction d with
  | zero => intro _; rfl
  | succ d ih => intro h; rw [ih (by omega), ga_T_step r i j d (by omega)]
theorem ga_T_0 {r i j : Nat} (h : i ≤ j) : ga_T g c r i j 0 = ga_S g c r (ga_l g r) i j := by
  unfold ga_T
  rw [ga_sum_one (k := i) (by omega)]
  · rw [ga_P, if_pos rfl, Nat.one_mul]; rfl
  · intro m _ hne
    rw [ga_P, if_neg (by omega), Nat.zero_mul]
theorem ga_T_l (r i j : Nat) : ga_T g c r i j (ga_l g r) = ga_P g c r (ga_l g r) i j := by
  unfold ga_T
  rw [Nat.sub_self, ga_sum_one (k := j) (by omega)]
  · rw [ga_S, if_pos rfl, Nat.mul_one]
  · intro m _ hne
    rw [ga_S, if_neg hne, Nat.mul_zero]
/-- from the left and from the right it is one count -/
theorem ga_PS (r i j : Nat) : ga_P g c r (ga_l g r) i j = ga_S g c r (ga_l g r) i j := by
  rcases Nat.lt_or_ge j i with h | h
  · rw [ga_P_lt _ _ _ h, ga_S_lt _ _ _ h]
  · rw [← ga_T_0 h, ga_T_all r i j _ (Nat.le_refl _), ga_T_l]
end GA1
