/-! THE PURE SIDE. np_W: the function answers, and of its answer Q holds -/
def np_W {α : Type} (X : Option α) (Q : α → Prop) : Prop := ∃ o, X = some o ∧ Q o
theorem np_W_ck {α : Type} {c : Prop} [Decidable c] {K : Option α} {Q : α → Prop} (h : c) (k : np_W K Q) : np_W (np_ck c K) Q := by
  rw [np_ck_i h]; exact k
theorem np_W_if {α : Type} {c : Prop} [Decidable c] {A B : Option α} {Q : α → Prop} (h1 : c → np_W A Q) (h2 : ¬ c → np_W B Q) : np_W (if c then A else B) Q := by
  by_cases h : c
  · rw [if_pos h]; exact h1 h
  · rw [if_neg h]; exact h2 h
theorem np_W_bind {α β : Type} {X : Option α} {f : α → Option β} {Q : β → Prop} (h : np_W X (fun o => np_W (f o) Q)) : np_W (X.bind f) Q := by
  obtain ⟨o, e, h⟩ := h
  rw [e]; exact h
theorem np_W_some {α : Type} {o : α} {Q : α → Prop} (h : Q o) : np_W (some o) Q := ⟨o, rfl, h⟩
theorem np_W_mono {α : Type} {X : Option α} {P Q : α → Prop} (h : np_W X P) (k : ∀ o, P o → Q o) : np_W X Q := by
  obtain ⟨o, e, h⟩ := h
  exact ⟨o, e, k o h⟩
theorem np_W_seq {α β : Type} {X : Option α} {f : α → Option β} {P : α → Prop} {Q : β → Prop} (h : np_W X P) (k : ∀ o, P o → np_W (f o) Q) : np_W (X.bind f) Q := np_W_bind (np_W_mono h k)
theorem np_W_eq {α : Type} {X : Option α} {o : α} : np_W X (fun r => r = o) ↔ X = some o := by
  constructor
  · rintro ⟨r, e, rfl⟩; exact e
  · intro e; exact ⟨o, e, rfl⟩
/-- a loop with fuel, by an invariant and a measure -/
theorem np_loop {A α : Type} {F : Nat → A → Option α} {B : (A → Option α) → A → Option α} (hF : ∀ n a, F (n + 1) a = B (F n) a) (I : A → Prop) (mu : A → Nat) (Q : α → Prop)
    (step : ∀ (k : A → Option α) (a : A), I a → (∀ b, I b → mu b < mu a → np_W (k b) Q) → np_W (B k a) Q) : ∀ (n : Nat) (a : A), I a → mu a < n → np_W (F n a) Q := by
  intro n
  induction n with
  | zero => intro a _ h; omega
  | succ n ih =>
    intro a ha hm
    rw [hF]
    exact step (F n) a ha (fun b hb hlt => ih b hb (by omega))
theorem np_st_rd (σ : np_S) (k : Nat) (j v : Int) (k2 : Nat) (j2 : Int) : np_st σ k j v k2 j2 = if k2 = k then (if j2 = j then v else σ k2 j2) else σ k2 j2 := by
  by_cases h : k2 = k
  · subst h; simp [np_st]
  · simp [np_st, h]
theorem np_st_o (σ : np_S) {k k2 : Nat} (j v : Int) (h : k2 ≠ k) : np_st σ k j v k2 = σ k2 := np_st_k σ j v h
theorem np_cmp0 {x y : Int} : np_cmp x y = 0 ↔ x = y := by
  unfold np_cmp
  constructor
  · intro h; split at h
    · cases h
    · split at h
      · assumption
      · cases h
  · rintro rfl; rw [if_neg (by omega), if_pos rfl]
theorem np_cmpR (x y : Int) : np_R (np_cmp x y) := by
  unfold np_cmp
  split
  · decide
  · split <;> decide
