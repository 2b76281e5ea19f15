/-! rounds of the reference's table of beginnings; the only way to cut a row of words into a rule's parts -/
def ga_tk (g : ga_G) (m i : Nat) : Nat → Int → Prop
  | 0, _ => False
  | k + 1, l => ∃ r, r < ga_R g ∧ l ≤ ga_v g r ∧ ga_vp g m (fun h i2 => (i2 = i ∧ ga_tk g m i k h) ∨ (i2 ≠ i ∧ ga_VB g m h i2)) r (ga_l g r) i
section GA3
variable {g : ga_G} {m i : Nat}
theorem ga_tk_of (hi : i < m) : ∀ (f : Nat) (l : Int), ga_vb g m f l i → ga_tk g m i f l := by
  intro f
  induction f with
  | zero => intro l h; exact h
  | succ f ih =>
    intro l h
    obtain ⟨_, r, h2, h3, h4⟩ := h
    refine ⟨r, h2, h3, ga_vp_mono (fun h i2 q => ?_) _ _ h4⟩
    by_cases e : i2 = i
    · subst e; exact Or.inl ⟨rfl, ih h q⟩
    · exact Or.inr ⟨e, f, q⟩
theorem ga_tk_VB (hi : i < m) : ∀ (k : Nat) (l : Int), ga_tk g m i k l → ga_VB g m l i := by
  intro k
  induction k with
  | zero => intro l h; exact absurd h (fun z => z)
  | succ k ih =>
    intro l h
    obtain ⟨r, h2, h3, h4⟩ := h
    refine ga_VB_iff.mpr ⟨hi, r, h2, h3, ga_vp_mono (fun h i2 q => ?_) _ _ h4⟩
    rcases q with ⟨rfl, q⟩ | ⟨_, q⟩
    · exact ih h q
    · exact q
theorem ga_tk_F {k k2 : Nat} (h : ∀ l, ga_tk g m i k l → ga_tk g m i k2 l) : ∀ l, ga_tk g m i (k + 1) l → ga_tk g m i (k2 + 1) l := by
  intro l hl
  obtain ⟨r, h2, h3, h4⟩ := hl
  refine ⟨r, h2, h3, ga_vp_mono (fun h5 i2 q => ?_) _ _ h4⟩
  rcases q with ⟨e, q⟩ | q
  · exact Or.inl ⟨e, h h5 q⟩
  · exact Or.inr q
theorem ga_tk_up : ∀ (k : Nat) (l : Int), ga_tk g m i k l → ga_tk g m i (k + 1) l := by
  intro k
  induction k with
  | zero => intro l h; exact absurd h (fun z => z)
  | succ k ih => exact ga_tk_F ih
theorem ga_tk_down {k : Nat} {l l2 : Int} (hl : l ≤ l2) (h : ga_tk g m i k l2) : ga_tk g m i k l := by
  cases k with
  | zero => exact h
  | succ k =>
    obtain ⟨r, h2, h3, h4⟩ := h
    exact ⟨r, h2, by omega, h4⟩
theorem ga_tk_claim (hg : ga_ok g) : ∀ k : Nat, (∀ l, ga_tk g m i (k + 1) l → ga_tk g m i k l) ∨ (∀ l : Int, l ≤ k → ga_tk g m i (k + 1) l) := by
  intro k
  induction k with
  | zero =>
    by_cases h : ∃ l, ga_tk g m i 1 l
    · obtain ⟨l, r, q1, q2, q3⟩ := h
      exact Or.inr (fun l2 hl2 => ⟨r, q1, by have := (hg r q1).2.1; simp at hl2; omega, q3⟩)
    · exact Or.inl (fun l q => absurd ⟨l, q⟩ h)
  | succ k ih =>
    rcases ih with ih | ih
    · exact Or.inl (ga_tk_F ih)
    · by_cases h : ∃ l, ga_tk g m i (k + 2) l ∧ ¬ ga_tk g m i (k + 1) l
      · obtain ⟨l, h1, h2⟩ := h
        have h3 : (k : Int) + 1 ≤ l := by
          rcases Int.lt_or_le l (k + 1) with q | q
          · exact absurd (ih l (by omega)) h2
          · exact q
        exact Or.inr (fun l2 hl2 => ga_tk_down (by simp at hl2; omega) h1)
      · refine Or.inl (fun l h1 => ?_)
        by_cases h2 : ga_tk g m i (k + 1) l
        · exact h2
        · exact absurd ⟨l, h1, h2⟩ h
theorem ga_tk_ge {k : Nat} {l : Int} (h : ga_tk g m i k l) : ∀ n, ga_tk g m i (k + n) l := by
  intro n
  induction n with
  | zero => exact h
  | succ n ih => exact ga_tk_up _ _ ih
/-- eleven rounds are enough -/
theorem ga_tk_11 (hg : ga_ok g) : ∀ (k : Nat) (l : Int), ga_tk g m i k l → ga_tk g m i 11 l := by
  intro k
  induction k with
  | zero => intro l h; exact absurd h (fun z => z)
  | succ k ih =>
    intro l h
    rcases ga_tk_claim (g := g) (m := m) (i := i) hg 10 with q | q
    · exact ga_tk_F q _ (ga_tk_F ih _ h)
    · obtain ⟨r, h2, h3, _⟩ := h
      have := (hg r h2).2.1
      exact q l (by show l ≤ 10; omega)
theorem ga_VB_tk (hg : ga_ok g) (hi : i < m) {l : Int} : ga_VB g m l i ↔ ga_tk g m i 11 l := by
  constructor
  · rintro ⟨f, h⟩; exact ga_tk_11 hg f l (ga_tk_of hi f l h)
  · exact ga_tk_VB hi 11 l
end GA3
/-- the cuts x 0 .. x (parts) of the words from i to j: the only way to take them as the parts of rule r -/
def ga_cuts (g : ga_G) (r i j : Nat) (x : Nat → Nat) : Prop :=
  x 0 = i ∧ x (ga_l g r) = j ∧ (∀ p, p ≤ ga_l g r → ga_S g (ga_C g) r (ga_l g r - p) (x p) j = 1 ∧ ga_P g (ga_C g) r p i (x p) = 1) ∧
  (∀ p, p < ga_l g r → x p < x (p + 1) ∧ (ga_h g r p = -1 → x (p + 1) = x p + 1 ∧ ga_t g (x p) = ga_w g r p) ∧
    (ga_h g r p ≠ -1 → ga_C g (ga_h g r p) (x p) (x (p + 1)) = 1 ∧
      (∀ m, x p < m → m ≤ j → 0 < ga_C g (ga_h g r p) (x p) m → 0 < ga_S g (ga_C g) r (ga_l g r - (p + 1)) m j → m = x (p + 1)) ∧
      (∀ m, m < x (p + 1) → 0 < ga_P g (ga_C g) r p i m → 0 < ga_C g (ga_h g r p) m (x (p + 1)) → m = x p)))
theorem ga_mul1 {a b : Nat} (h : a * b = 1) : a = 1 ∧ b = 1 := ⟨Nat.eq_one_of_mul_eq_one_right h, Nat.eq_one_of_mul_eq_one_left h⟩
section GA4
variable {g : ga_G} {r : Nat}
/-- from the left -/
theorem ga_cutsL {j : Nat} : ∀ (k i : Nat), k ≤ ga_l g r → ga_S g (ga_C g) r k i j = 1 → ∃ x : Nat → Nat, x (ga_l g r - k) = i ∧ x (ga_l g r) = j ∧ (∀ p, ga_l g r - k ≤ p → p ≤ ga_l g r → ga_S g (ga_C g) r (ga_l g r - p) (x p) j = 1) ∧
    (∀ p, ga_l g r - k ≤ p → p < ga_l g r → x p < x (p + 1) ∧ (ga_h g r p = -1 → x (p + 1) = x p + 1 ∧ ga_t g (x p) = ga_w g r p) ∧
      (ga_h g r p ≠ -1 → ga_C g (ga_h g r p) (x p) (x (p + 1)) = 1 ∧
        (∀ m, x p < m → m ≤ j → 0 < ga_C g (ga_h g r p) (x p) m → 0 < ga_S g (ga_C g) r (ga_l g r - (p + 1)) m j → m = x (p + 1)))) := by
  intro k
  induction k with
  | zero =>
    intro i _ h
    have hij : i = j := by
      rw [ga_S] at h
      split at h <;> omega
    subst hij
    refine ⟨fun _ => i, rfl, rfl, fun p h1 h2 => ?_, fun p h1 h2 => by omega⟩
    have h3 : ga_l g r - p = 0 := by omega
    rw [h3]; exact h
  | succ k ih =>
    intro i hk h
    have e1 : ga_l g r - (k + 1) + 1 = ga_l g r - k := by omega
    have e2 : ga_l g r - (ga_l g r - (k + 1)) = k + 1 := by omega
    have main : ∃ y, i < y ∧ ga_S g (ga_C g) r k y j = 1 ∧ (ga_h g r (ga_l g r - (k + 1)) = -1 → y = i + 1 ∧ ga_t g i = ga_w g r (ga_l g r - (k + 1))) ∧
        (ga_h g r (ga_l g r - (k + 1)) ≠ -1 → ga_C g (ga_h g r (ga_l g r - (k + 1))) i y = 1 ∧ ∀ m, i < m → m ≤ j → 0 < ga_C g (ga_h g r (ga_l g r - (k + 1))) i m → 0 < ga_S g (ga_C g) r k m j → m = y) := by
      rw [ga_S] at h
      split at h
      · rename_i hw
        split at h
        · rename_i q
          exact ⟨i + 1, by omega, h, fun _ => ⟨rfl, q.2⟩, fun z => absurd hw z⟩
        · omega
      · rename_i hw
        obtain ⟨y, h1, h2, h3⟩ := ga_sum_uni h
        split at h2
        · rename_i hy
          have q := ga_mul1 h2
          refine ⟨y, hy, q.2, fun z => absurd z hw, fun _ => ⟨q.1, fun m m1 m2 m3 m4 => h3 m (by omega) ?_⟩⟩
          rw [if_pos m1]
          exact Nat.mul_pos m3 m4
        · omega
    obtain ⟨y, y1, y2, y3, y4⟩ := main
    obtain ⟨x, x1, x2, x3, x4⟩ := ih y (by omega) y2
    refine ⟨fun p => if p ≤ ga_l g r - (k + 1) then i else x p, ?_, ?_, ?_, ?_⟩
    · show (if ga_l g r - (k + 1) ≤ ga_l g r - (k + 1) then i else _) = i
      rw [if_pos (Nat.le_refl _)]
    · show (if ga_l g r ≤ ga_l g r - (k + 1) then i else x (ga_l g r)) = j
      rw [if_neg (by omega)]; exact x2
    · intro p h1 h2
      show ga_S g (ga_C g) r (ga_l g r - p) (if p ≤ ga_l g r - (k + 1) then i else x p) j = 1
      by_cases h3 : p ≤ ga_l g r - (k + 1)
      · have h4 : p = ga_l g r - (k + 1) := by omega
        rw [if_pos h3, h4, e2]; exact h
      · rw [if_neg h3]
        exact x3 p (by omega) h2
    · intro p h1 h2
      show (if p ≤ ga_l g r - (k + 1) then i else x p) < (if p + 1 ≤ ga_l g r - (k + 1) then i else x (p + 1)) ∧ (ga_h g r p = -1 → (if p + 1 ≤ ga_l g r - (k + 1) then i else x (p + 1)) = (if p ≤ ga_l g r - (k + 1) then i else x p) + 1 ∧ ga_t g (if p ≤ ga_l g r - (k + 1) then i else x p) = ga_w g r p) ∧ (ga_h g r p ≠ -1 → ga_C g (ga_h g r p) (if p ≤ ga_l g r - (k + 1) then i else x p) (if p + 1 ≤ ga_l g r - (k + 1) then i else x (p + 1)) = 1 ∧ (∀ m, (if p ≤ ga_l g r - (k + 1) then i else x p) < m → m ≤ j → 0 < ga_C g (ga_h g r p) (if p ≤ ga_l g r - (k + 1) then i else x p) m → 0 < ga_S g (ga_C g) r (ga_l g r - (p + 1)) m j → m = (if p + 1 ≤ ga_l g r - (k + 1) then i else x (p + 1))))
      rw [if_neg (by omega : ¬ p + 1 ≤ ga_l g r - (k + 1))]
      by_cases h3 : p ≤ ga_l g r - (k + 1)
      · have h4 : p = ga_l g r - (k + 1) := by omega
        subst h4
        have e3 : x (ga_l g r - (k + 1) + 1) = y := by rw [e1]; exact x1
        have e4 : ga_l g r - (ga_l g r - (k + 1) + 1) = k := by omega
        rw [if_pos h3, e3, e4]
        exact ⟨y1, y3, y4⟩
      · rw [if_neg h3]
        exact x4 p (by omega) h2
theorem ga_cuts_of {i j : Nat} (h : ga_S g (ga_C g) r (ga_l g r) i j = 1) : ∃ x, ga_cuts g r i j x := by
  obtain ⟨x, x1, x2, x3, x4⟩ := ga_cutsL (ga_l g r) i (Nat.le_refl _) h
  rw [Nat.sub_self] at x1
  have pos : ∀ p, p ≤ ga_l g r → 0 < ga_P g (ga_C g) r p i (x p) := by
    intro p
    induction p with
    | zero => intro _; rw [ga_P, x1, if_pos rfl]; omega
    | succ p ih =>
      intro hp
      have q := ih (by omega)
      obtain ⟨z1, z2, z3⟩ := x4 p (by omega) (by omega)
      by_cases hw : ga_h g r p = -1
      · obtain ⟨w1, w2⟩ := z2 hw
        rw [w1]
        exact (ga_P_word hw).mpr ⟨w2, q⟩
      · exact (ga_P_hole hw).mpr ⟨x p, z1, q, by rw [(z3 hw).1]; omega⟩
  have down : ∀ n p, p + n = ga_l g r → ga_P g (ga_C g) r p i (x p) = 1 := by
    intro n
    induction n with
    | zero => intro p hp; have e : p = ga_l g r := by omega
              subst e; rw [x2, ga_PS]; exact h
    | succ n ih =>
      intro p hp
      have q := ih (p + 1) (by omega)
      obtain ⟨z1, z2, z3⟩ := x4 p (by omega) (by omega)
      rw [ga_P] at q
      by_cases hw : ga_h g r p = -1
      · obtain ⟨w1, w2⟩ := z2 hw
        rw [if_pos hw, w1, Nat.add_sub_cancel] at q
        split at q
        · exact q
        · omega
      · rw [if_neg hw] at q
        obtain ⟨y, h1, h2, h3⟩ := ga_sum_uni q
        have hl := ga_P_len _ _ _ (pos p (by omega))
        have e : x p = y := h3 (x p) z1 (by rw [if_pos (by omega)]; exact Nat.mul_pos (pos p (by omega)) (by rw [(z3 hw).1]; omega))
        subst e
        rw [if_pos (by omega)] at h2
        exact (ga_mul1 h2).1
  refine ⟨x, x1, x2, fun p hp => ⟨x3 p (by omega) hp, down (ga_l g r - p) p (by omega)⟩, fun p hp => ?_⟩
  obtain ⟨z1, z2, z3⟩ := x4 p (by omega) hp
  refine ⟨z1, z2, fun hw => ⟨(z3 hw).1, (z3 hw).2, fun m m1 m2 m3 => ?_⟩⟩
  have q := down (ga_l g r - (p + 1)) (p + 1) (by omega)
  rw [ga_P, if_neg hw] at q
  obtain ⟨y, h1, h2, h3⟩ := ga_sum_uni q
  have hl := ga_P_len _ _ _ (pos p (by omega))
  have hl2 := ga_P_len _ _ _ m2
  have e : x p = y := h3 (x p) z1 (by rw [if_pos (by omega)]; exact Nat.mul_pos (pos p (by omega)) (by rw [(z3 hw).1]; omega))
  have e2 : m = y := h3 m m1 (by rw [if_pos (by omega)]; exact Nat.mul_pos m2 m3)
  omega
end GA4
