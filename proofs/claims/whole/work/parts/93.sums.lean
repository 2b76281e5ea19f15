/-! finite sums of Nats, and numbers held to a million -/
def ga_sum : Nat → (Nat → Nat) → Nat
  | 0, _ => 0
  | n + 1, f => ga_sum n f + f n
theorem ga_sum_congr {n : Nat} {f g : Nat → Nat} (h : ∀ k, k < n → f k = g k) : ga_sum n f = ga_sum n g := by
  induction n with
  | zero => rfl
  | succ n ih => simp only [ga_sum]; rw [ih (fun k hk => h k (by omega)), h n (by omega)]
theorem ga_sum_zero {n : Nat} {f : Nat → Nat} (h : ∀ k, k < n → f k = 0) : ga_sum n f = 0 := by
  induction n with
  | zero => rfl
  | succ n ih => simp only [ga_sum]; rw [ih (fun k hk => h k (by omega)), h n (by omega)]
theorem ga_sum_add (n : Nat) (f g : Nat → Nat) : ga_sum n (fun k => f k + g k) = ga_sum n f + ga_sum n g := by
  induction n with
  | zero => rfl
  | succ n ih => simp only [ga_sum]; rw [ih]; omega
theorem ga_sum_mul (n : Nat) (f : Nat → Nat) (c : Nat) : ga_sum n (fun k => c * f k) = c * ga_sum n f := by
  induction n with
  | zero => rfl
  | succ n ih => simp only [ga_sum]; rw [ih, Nat.mul_add]
theorem ga_sum_mulr (n : Nat) (f : Nat → Nat) (c : Nat) : ga_sum n (fun k => f k * c) = ga_sum n f * c := by
  induction n with
  | zero => simp [ga_sum]
  | succ n ih => simp only [ga_sum]; rw [ih, Nat.add_mul]
theorem ga_sum_swap (n m : Nat) (f : Nat → Nat → Nat) : ga_sum n (fun i => ga_sum m (fun j => f i j)) = ga_sum m (fun j => ga_sum n (fun i => f i j)) := by
  induction n with
  | zero => exact (ga_sum_zero (fun _ _ => rfl)).symm
  | succ n ih =>
    simp only [ga_sum]
    rw [ih, ← ga_sum_add]
theorem ga_sum_pos {n : Nat} {f : Nat → Nat} : 0 < ga_sum n f ↔ ∃ k, k < n ∧ 0 < f k := by
  induction n with
  | zero => constructor
            · intro h; exact absurd h (Nat.lt_irrefl 0)
            · rintro ⟨k, hk, _⟩; omega
  | succ n ih =>
    simp only [ga_sum]
    constructor
    · intro h
      by_cases h2 : 0 < ga_sum n f
      · obtain ⟨k, hk, h3⟩ := ih.mp h2
        exact ⟨k, by omega, h3⟩
      · exact ⟨n, by omega, by omega⟩
    · rintro ⟨k, hk, h3⟩
      by_cases h4 : k < n
      · have := ih.mpr ⟨k, h4, h3⟩; omega
      · have h5 : k = n := by omega
        subst h5; omega
theorem ga_sum_le {n : Nat} {f : Nat → Nat} {k : Nat} (hk : k < n) : f k ≤ ga_sum n f := by
  induction n with
  | zero => omega
  | succ n ih =>
    simp only [ga_sum]
    by_cases h : k < n
    · have := ih h; omega
    · have h5 : k = n := by omega
      subst h5; omega
theorem ga_sum_le2 {n : Nat} {f : Nat → Nat} {j k : Nat} (hj : j < k) (hk : k < n) : f j + f k ≤ ga_sum n f := by
  induction n with
  | zero => omega
  | succ n ih =>
    simp only [ga_sum]
    by_cases h : k < n
    · have := ih h; omega
    · have h5 : k = n := by omega
      subst h5
      have := ga_sum_le (f := f) hj; omega
theorem ga_sum_one {n : Nat} {f : Nat → Nat} {k : Nat} (hk : k < n) (h : ∀ i, i < n → i ≠ k → f i = 0) : ga_sum n f = f k := by
  induction n with
  | zero => omega
  | succ n ih =>
    simp only [ga_sum]
    by_cases h2 : k < n
    · rw [ih h2 (fun i hi hn => h i (by omega) hn), h n (by omega) (by omega)]; omega
    · have h5 : k = n := by omega
      subst h5
      rw [ga_sum_zero (fun i hi => h i (by omega) (by omega))]; omega
/-- a sum that is 1 has one place -/
theorem ga_sum_uni {n : Nat} {f : Nat → Nat} (h : ga_sum n f = 1) : ∃ k, k < n ∧ f k = 1 ∧ ∀ i, i < n → 0 < f i → i = k := by
  obtain ⟨k, hk, hp⟩ := ga_sum_pos.mp (by omega : 0 < ga_sum n f)
  have h1 := ga_sum_le (f := f) hk
  refine ⟨k, hk, by omega, fun i hi hpi => ?_⟩
  rcases Nat.lt_trichotomy i k with h2 | h2 | h2
  · have := ga_sum_le2 (f := f) h2 hk; omega
  · exact h2
  · have := ga_sum_le2 (f := f) h2 hi; omega
theorem ga_sum_ext {n m : Nat} {f : Nat → Nat} (h : n ≤ m) : ga_sum m (fun k => if k < n then f k else 0) = ga_sum n f := by
  induction m with
  | zero => have h0 : n = 0 := by omega
            subst h0; rfl
  | succ m ih =>
    simp only [ga_sum]
    by_cases h2 : n ≤ m
    · rw [ih h2, if_neg (by omega)]; omega
    · have h3 : n = m + 1 := by omega
      subst h3
      rw [if_pos (by omega)]
      simp only [ga_sum]
      rw [ga_sum_congr (g := f) (fun k hk => if_pos (by omega))]
theorem ga_sum_front (n : Nat) (f : Nat → Nat) : ga_sum (n + 1) f = f 0 + ga_sum n (fun k => f (k + 1)) := by
  induction n with
  | zero => simp [ga_sum]
  | succ n ih => rw [ga_sum, ih]; simp only [ga_sum]; omega
/-- held to a million -/
def ga_sat (x : Nat) : Nat := if x ≤ 1000000 then x else 1000000
theorem ga_sat_le (x : Nat) : ga_sat x ≤ 1000000 := by unfold ga_sat; split <;> omega
theorem ga_sat_id {x : Nat} (h : x ≤ 1000000) : ga_sat x = x := if_pos h
theorem ga_sat_pos {x : Nat} : 0 < ga_sat x ↔ 0 < x := by unfold ga_sat; split <;> omega
theorem ga_sat_one {x : Nat} : ga_sat x = 1 ↔ x = 1 := by unfold ga_sat; split <;> omega
theorem ga_sat_add (x y : Nat) : ga_sat (ga_sat x + y) = ga_sat (x + y) := by unfold ga_sat; (repeat' split) <;> omega
theorem ga_sat_addr (x y : Nat) : ga_sat (x + ga_sat y) = ga_sat (x + y) := by unfold ga_sat; (repeat' split) <;> omega
theorem ga_sat_sat (x : Nat) : ga_sat (ga_sat x) = ga_sat x := ga_sat_id (ga_sat_le x)
theorem ga_sat_mul (x y : Nat) : ga_sat (ga_sat x * ga_sat y) = ga_sat (x * y) := by
  by_cases hx : x ≤ 1000000
  · by_cases hy : y ≤ 1000000
    · rw [ga_sat_id hx, ga_sat_id hy]
    · rcases Nat.eq_zero_or_pos x with h0 | h0
      · subst h0; simp [ga_sat]
      · have h1 : ga_sat y = 1000000 := if_neg hy
        rw [ga_sat_id hx, h1]
        have h2 : 1 * 1000000 ≤ x * 1000000 := Nat.mul_le_mul_right _ h0
        have h3 : 1 * y ≤ x * y := Nat.mul_le_mul_right _ h0
        unfold ga_sat; (repeat' split) <;> omega
  · have h1 : ga_sat x = 1000000 := if_neg hx
    rcases Nat.eq_zero_or_pos y with h0 | h0
    · subst h0; simp [ga_sat]
    · have h4 : 0 < ga_sat y := ga_sat_pos.mpr h0
      rw [h1]
      have h2 : 1000000 * 1 ≤ 1000000 * ga_sat y := Nat.mul_le_mul_left _ h4
      have h3 : x * 1 ≤ x * y := Nat.mul_le_mul_left _ h0
      generalize ga_sat y = z at *
      unfold ga_sat; (repeat' split) <;> omega
theorem ga_sat_sum {n : Nat} {f g : Nat → Nat} (h : ∀ k, k < n → ga_sat (f k) = ga_sat (g k)) : ga_sat (ga_sum n f) = ga_sat (ga_sum n g) := by
  induction n with
  | zero => rfl
  | succ n ih =>
    simp only [ga_sum]
    rw [← ga_sat_add, ← ga_sat_addr, ih (fun k hk => h k (by omega)), h n (by omega), ga_sat_addr, ga_sat_add]
