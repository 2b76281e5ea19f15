/-! the text, faults, output: put, clear, fault, at, about, isKey -/
def gi_T (σ : np_S) : Prop := 0 ≤ σ 6 1 ∧ σ 6 1 ≤ 200 ∧ σ 29 8 = σ 6 1 ∧ ∀ k, 0 ≤ k → k < σ 6 1 → σ 34 k = σ 7 k % 256
def gi_F (σ : np_S) : Prop := σ 29 9 = σ 0 5 ∧ σ 29 10 = σ 0 6 ∧ np_R (σ 0 5) ∧ np_R (σ 0 6)
def gi_O (σ : np_S) : Prop := 0 ≤ σ 26 1 ∧ σ 26 1 ≤ 230 ∧ σ 29 28 = σ 26 1 ∧ ∀ i, 0 ≤ i → i < σ 26 1 → σ 27 i = σ 49 i ∧ np_R (σ 27 i)
def gi_Z (σ : np_S) : Prop := σ 29 18 = σ 15 2 ∧ 0 ≤ σ 15 2 ∧ σ 15 2 ≤ 30
theorem gb_bb {b : Int} (h0 : 0 ≤ b) (h1 : b < 256) : Int.bmod (Int.bmod b 256) 256 % 256 = b := by
  rw [Int.bmod_def, Int.bmod_def]
  split <;> split <;> omega
def gp_app (x k : Int) (σ τ : np_S) : Prop := (∀ c, c ≠ 6 → c ≠ 7 → τ c = σ c) ∧ τ 6 1 = σ 6 1 + (k + 1) ∧ (∀ j, j ≠ 1 → τ 6 j = σ 6 j) ∧ (∀ i, 0 ≤ i → i ≤ k → τ 7 (σ 6 1 + i) % 256 = gb_by x (k - i).toNat) ∧ ∀ j, j < σ 6 1 → τ 7 j = σ 7 j
theorem gp_append (x : Int) : ∀ (n : Nat) (k : Int) (σ : np_S), -1 ≤ k → k < 8 → 0 ≤ σ 6 1 → σ 6 1 + k < 200 → k + 1 < n → np_W (f_Text_append_5 n x k σ) (fun o => gp_app x k σ o.2) := by
  intro n
  induction n with
  | zero => intro k σ _ _ _ _ h; omega
  | succ n ih =>
    intro k σ k0 k8 s0 s1 hn
    show np_W (f_Text_append_5_b _ x k σ) _
    unfold f_Text_append_5_b
    refine np_W_ck ⟨by omega, by omega⟩ ?_
    refine np_W_if (fun h => np_W_some ⟨fun c _ _ => rfl, ?_, fun j _ => rfl, fun i i0 i1 => by omega, fun j _ => rfl⟩) (fun h => ?_)
    · have : k = -1 := by omega
      dsimp only
      omega
    have ek : k = ((k.toNat : Nat) : Int) := by omega
    have eb := gs_byteOf x (k := k.toNat) (by omega) σ
    rw [← ek] at eb
    rw [eb]
    refine np_W_bind (np_W_some ?_)
    dsimp only
    refine np_W_ck ⟨s0, by omega⟩ ?_
    have hby := gb_by_r x k.toNat
    have hb := gb_bb hby.1 hby.2
    generalize hv : Int.bmod (Int.bmod (gb_by x k.toNat) 256) 256 = v at hb ⊢
    have e1 : np_st σ 7 (σ 6 1) v 6 1 = σ 6 1 := by rw [np_st_o _ _ _ (by decide)]
    rw [e1]
    have e2 : np_st (np_st σ 7 (σ 6 1) v) 6 1 (σ 6 1 + 1) 6 1 = σ 6 1 + 1 := np_st_s _ _ _ _
    refine np_W_mono (ih (k + -1) (np_st (np_st σ 7 (σ 6 1) v) 6 1 (σ 6 1 + 1)) (by omega) (by omega) (by rw [e2]; omega) (by rw [e2]; omega) (by omega)) (fun o ho => ?_)
    obtain ⟨a1, a2, a3, a4, a5⟩ := ho
    rw [e2] at a2 a4 a5
    refine ⟨fun c c1 c2 => ?_, by omega, fun j j1 => ?_, fun i i0 i1 => ?_, fun j hj => ?_⟩
    · rw [a1 c c1 c2, np_st_o _ _ _ c1, np_st_o _ _ _ c2]
    · rw [a3 j j1, np_st_n _ _ _ j1, np_st_o _ _ _ (by decide)]
    · by_cases e : i = 0
      · rw [e, show σ 6 1 + 0 = σ 6 1 by omega, a5 _ (by omega), np_st_o _ _ _ (by decide), np_st_s, hb]
        congr 1; omega
      · have := a4 (i - 1) (by omega) (by omega)
        rw [show σ 6 1 + 1 + (i - 1) = σ 6 1 + i by omega, show k + -1 - (i - 1) = k - i by omega] at this
        exact this
    · rw [a5 j (by omega), np_st_o _ _ _ (by decide), np_st_n _ _ _ (by omega)]
def gp_fr (σ ρ : np_S) : Prop := (∀ k, k ∉ [6, 7, 29, 34] → ρ k = σ k) ∧ (∀ j, j ≠ 0 → j ≠ 8 → ρ 29 j = σ 29 j) ∧ ∀ j, j ≠ 1 → ρ 6 j = σ 6 j
theorem gp_mput (x n : Int) (n1 : 1 ≤ n) (n8 : n ≤ 8) : ∀ (f : Nat) (k : Int) (σ : np_S), 0 ≤ k → k ≤ n → 0 ≤ σ 29 8 → σ 29 8 + n ≤ 200 → n - k < f → np_W (f_M_put_33 f x n k σ) (fun o => o.1 = 1 ∧ (∀ c, c ≠ 29 → c ≠ 34 → o.2 c = σ c) ∧ o.2 29 8 = σ 29 8 + n ∧ (∀ j, j ≠ 8 → o.2 29 j = σ 29 j) ∧ (∀ i, k ≤ i → i < n → o.2 34 (σ 29 8 + i) = gb_by x (n - 1 - i).toNat) ∧ ∀ j, j < σ 29 8 + k → o.2 34 j = σ 34 j) := by
  intro f
  induction f with
  | zero => intro k σ _ _ _ _ h; omega
  | succ f ih =>
    intro k σ k0 kn s0 s1 hn
    show np_W (f_M_put_33_b _ x n k σ) _
    unfold f_M_put_33_b
    refine np_W_ck ⟨⟨by omega, by omega⟩, ⟨by omega, by omega⟩⟩ ?_
    refine np_W_if (fun h => np_W_ck (by decide) (np_W_some ⟨rfl, fun c c1 _ => ?_, ?_, fun j hj => ?_, fun i i0 i1 => by omega, fun j hj => ?_⟩)) (fun h => ?_)
    · dsimp only; rw [np_st_o _ _ _ c1]
    · dsimp only; rw [np_st_s]
    · dsimp only; rw [np_st_n _ _ _ hj]
    · dsimp only; rw [np_st_o _ _ _ (by decide)]
    rw [gs_byM x n k (by omega) (by omega)]
    refine np_W_bind (np_W_some ?_)
    dsimp only
    refine np_W_ck ⟨by omega, by omega⟩ ?_
    generalize hv : gb_by x (n - 1 - k).toNat = v
    have e29 : np_st σ 34 (σ 29 8 + k) v 29 = σ 29 := np_st_o _ _ _ (by decide)
    refine np_W_mono (ih (k + 1) (np_st σ 34 (σ 29 8 + k) v) (by omega) (by omega) (by rw [e29]; exact s0) (by rw [e29]; exact s1) (by omega)) (fun o ho => ?_)
    obtain ⟨a1, a2, a3, a4, a5, a6⟩ := ho
    rw [e29] at a3 a4 a5 a6
    refine ⟨a1, fun c c1 c2 => by rw [a2 c c1 c2, np_st_o _ _ _ c2], a3, a4, fun i i0 i1 => ?_, fun j hj => ?_⟩
    · by_cases e : i = k
      · rw [e, a6 _ (by omega), np_st_s, hv]
      · exact a5 i (by omega) i1
    · rw [a6 j (by omega), np_st_n _ _ _ (by omega)]
theorem gl_put {σ : np_S} (hT : gi_T σ) {x n : Int} (hn : np_R n) : np_W (f_N_put x n σ) (fun o => np_R o.1 ∧ np_W (f_M_put x n o.2) (fun q => q.1 = o.1 ∧ gi_T q.2 ∧ gp_fr σ q.2)) := by
  obtain ⟨t0, t1, t2, t3⟩ := id hT
  have no : (n < 1 ∨ 8 < n ∨ 200 - σ 6 1 < n) → np_W (f_N_put_26 σ) (fun o => np_R o.1 ∧ np_W (f_M_put x n o.2) (fun q => q.1 = o.1 ∧ gi_T q.2 ∧ gp_fr σ q.2)) := by
    intro hno
    unfold f_N_put_26
    refine np_W_ck (by decide) (np_W_some ⟨by dsimp only; decide, ?_⟩)
    dsimp only
    have fin : np_W (f_M_put_28 (np_st σ 29 0 0)) (fun q => q.1 = 0 ∧ gi_T q.2 ∧ gp_fr σ q.2) := by
      unfold f_M_put_28
      refine np_W_ck (by decide) (np_W_some ⟨rfl, ?_, ?_, ?_, ?_⟩)
      · refine ⟨?_, ?_, ?_, ?_⟩
        · dsimp only; rw [np_st_o _ _ _ (by decide)]; exact t0
        · dsimp only; rw [np_st_o _ _ _ (by decide)]; exact t1
        · dsimp only; rw [np_st_n _ _ _ (by decide), np_st_o _ _ _ (by decide)]; exact t2
        · dsimp only; intro k k0 k1
          rw [np_st_o _ _ _ (by decide)] at k1
          rw [np_st_o _ _ _ (by decide), np_st_o _ _ _ (by decide)]; exact t3 k k0 k1
      · intro k hk
        simp only [List.mem_cons, List.not_mem_nil, or_false, not_or] at hk
        dsimp only; rw [np_st_o _ _ _ hk.2.2.1]
      · intro j j0 _
        dsimp only; rw [np_st_n _ _ _ j0]
      · intro j _
        dsimp only; rw [np_st_o _ _ _ (by decide)]
    have e8 : np_st σ 29 0 0 29 8 = σ 6 1 := by rw [np_st_n _ _ _ (by decide)]; exact t2
    unfold f_M_put
    refine np_W_ck ⟨hn, by decide⟩ ?_
    refine np_W_if (fun h => fin) (fun h => ?_)
    refine np_W_ck ⟨hn, by decide⟩ ?_
    refine np_W_if (fun h => fin) (fun h => ?_)
    refine np_W_ck ⟨by rw [e8]; exact ⟨by omega, by omega⟩, by decide⟩ ?_
    refine np_W_if (fun h => ?_) (fun h => fin)
    rw [e8] at h; omega
  unfold f_N_put
  refine np_W_ck ⟨hn, by decide⟩ ?_
  refine np_W_if (fun h => no (Or.inl h)) (fun h1 => ?_)
  refine np_W_ck ⟨hn, by decide⟩ ?_
  refine np_W_if (fun h => no (Or.inr (Or.inl h))) (fun h8 => ?_)
  refine np_W_ck ⟨hn, ⟨by omega, by omega⟩⟩ ?_
  refine np_W_if (fun h => ?_) (fun h => no (Or.inr (Or.inr (by omega))))
  unfold f_Text_append
  refine np_W_seq (gp_append x 20000 (n - 1) σ (by omega) (by omega) t0 (by omega) (by omega)) (fun o ho => ?_)
  refine np_W_ck (by decide) (np_W_some ⟨by dsimp only; decide, ?_⟩)
  dsimp only
  obtain ⟨τv, τ⟩ := o
  dsimp only at ho ⊢
  obtain ⟨a1, a2, a3, a4, a5⟩ := ho
  have t29 : τ 29 = σ 29 := a1 29 (by decide) (by decide)
  have e8 : np_st τ 29 0 0 29 8 = σ 6 1 := by rw [np_st_n _ _ _ (by decide), t29]; exact t2
  unfold f_M_put
  refine np_W_ck ⟨hn, by decide⟩ ?_
  refine np_W_if (fun h => absurd h h1) (fun _ => ?_)
  refine np_W_ck ⟨hn, by decide⟩ ?_
  refine np_W_if (fun h => absurd h h8) (fun _ => ?_)
  refine np_W_ck ⟨by rw [e8]; exact ⟨by omega, by omega⟩, by decide⟩ ?_
  refine np_W_if (fun _ => ?_) (fun h => absurd (by rw [e8]; omega) h)
  refine np_W_mono (gp_mput x n (by omega) (by omega) 20000 0 (np_st τ 29 0 0) (by decide) (by omega) (by rw [e8]; exact t0) (by rw [e8]; omega) (by omega)) (fun q hq => ?_)
  obtain ⟨b1, b2, b3, b4, b5, b6⟩ := hq
  rw [e8] at b3 b5 b6
  have c6 : ∀ j, q.2 6 j = τ 6 j := fun j => by rw [b2 6 (by decide) (by decide), np_st_o _ _ _ (by decide)]
  have c7 : ∀ j, q.2 7 j = τ 7 j := fun j => by rw [b2 7 (by decide) (by decide), np_st_o _ _ _ (by decide)]
  refine ⟨b1, ⟨by rw [c6, a2]; omega, by rw [c6, a2]; omega, by rw [b3, c6, a2]; omega, fun k k0 k1 => ?_⟩, fun k hk => ?_, fun j j0 j8 => ?_, fun j j1 => ?_⟩
  · rw [c6, a2] at k1
    rw [c7]
    by_cases hk : k < σ 6 1
    · rw [b6 k (by omega), np_st_o _ _ _ (by decide), a1 34 (by decide) (by decide), a5 k hk]
      exact t3 k k0 hk
    · have x1 := b5 (k - σ 6 1) (by omega) (by omega)
      have x2 := a4 (k - σ 6 1) (by omega) (by omega)
      rw [show σ 6 1 + (k - σ 6 1) = k by omega] at x1 x2
      rw [x1, x2]
  · simp only [List.mem_cons, List.not_mem_nil, or_false, not_or] at hk
    rw [b2 k hk.2.2.1 hk.2.2.2, np_st_o _ _ _ hk.2.2.1, a1 k hk.1 hk.2.1]
  · rw [b4 j j8, np_st_n _ _ _ j0, t29]
  · rw [c6, a3 j j1]
theorem gl_clear {σ : np_S} (hT : gi_T σ) : np_W (f_N_clear σ) (fun o => np_W (f_M_clear o.2) (fun q => gi_T q.2 ∧ gp_fr σ q.2)) := by
  unfold f_N_clear f_M_clear
  refine np_W_some (np_W_some ⟨⟨?_, ?_, ?_, ?_⟩, ?_, ?_, ?_⟩)
  · dsimp only
    rw [np_st_o _ _ _ (by decide), np_st_o _ _ _ (by decide), np_st_s]; decide
  · dsimp only
    rw [np_st_o _ _ _ (by decide), np_st_o _ _ _ (by decide), np_st_s]; decide
  · dsimp only
    rw [np_st_s, np_st_o _ _ _ (by decide), np_st_o _ _ _ (by decide), np_st_s]
  · dsimp only
    intro k k0 k1
    rw [np_st_o _ _ _ (by decide), np_st_o _ _ _ (by decide), np_st_s] at k1
    omega
  · intro k hk
    simp only [List.mem_cons, List.not_mem_nil, or_false, not_or] at hk
    dsimp only
    rw [np_st_o _ _ _ hk.2.2.1, np_st_o _ _ _ hk.2.2.1, np_st_o _ _ _ hk.1]
  · intro j j0 j8
    dsimp only
    rw [np_st_n _ _ _ j8, np_st_n _ _ _ j0, np_st_o _ _ _ (by decide)]
  · intro j j1
    dsimp only
    rw [np_st_o _ _ _ (by decide), np_st_o _ _ _ (by decide), np_st_n _ _ _ j1]
theorem gl_fault {σ : np_S} (hF : gi_F σ) {x : Int} (hx : np_R x) : np_W (f_N_fault x σ) (fun o => np_R o.1 ∧ np_W (f_M_fault x o.2) (fun q => q = (o.1, np_st σ 29 0 0))) := by
  obtain ⟨h1, h2, h3, h4⟩ := hF
  unfold f_N_fault f_M_fault f_M_fault_29
  have e9 : np_st σ 29 0 0 29 9 = σ 0 5 := by rw [np_st_n _ _ _ (by decide), h1]
  have e10 : np_st σ 29 0 0 29 10 = σ 0 6 := by rw [np_st_n _ _ _ (by decide), h2]
  refine np_W_ck hx ?_
  refine np_W_if (fun h => np_W_some ⟨h3, np_W_ck hx (np_W_if (fun g => absurd h g) (fun _ => np_W_some (by dsimp only; rw [e9])))⟩) (fun h => ?_)
  refine np_W_if (fun h1 => np_W_some ⟨h4, np_W_ck hx (np_W_if (fun _ => np_W_ck ⟨hx, by decide⟩ (np_W_if (fun g => absurd h1 g) (fun _ => np_W_some (by dsimp only; rw [e10])))) (fun g => absurd h g))⟩) (fun h1 => ?_)
  exact np_W_some ⟨by dsimp only; decide, np_W_ck hx (np_W_if (fun _ => np_W_ck ⟨hx, by decide⟩ (np_W_if (fun _ => np_W_some rfl) (fun g => absurd h1 g))) (fun g => absurd h g))⟩
theorem gl_at {σ : np_S} (hO : gi_O σ) {x : Int} (hx : np_R x) : np_W (f_N_at x σ) (fun o => np_R o.1 ∧ np_W (f_M_at x o.2) (fun q => q = (o.1, np_st σ 29 0 0))) := by
  obtain ⟨h1, h2, h3, h4⟩ := hO
  unfold f_N_at f_N_at_15 f_N_at_28 f_M_at f_M_at_17 f_M_at_27
  have e28 : np_st σ 29 0 0 29 28 = σ 26 1 := by rw [np_st_n _ _ _ (by decide), h3]
  refine np_W_ck hx ?_
  refine np_W_if (fun h => np_W_some ⟨by dsimp only; decide, np_W_ck hx (np_W_if (fun _ => np_W_some rfl) (fun g => absurd h g))⟩) (fun h => ?_)
  refine np_W_ck ⟨hx, ⟨by omega, by omega⟩⟩ ?_
  refine np_W_if (fun g => np_W_ck ⟨by omega, by omega⟩ (np_W_some ⟨(h4 x (by omega) g).2, ?_⟩)) (fun g => np_W_some ⟨by dsimp only; decide, ?_⟩)
  · refine np_W_ck hx (np_W_if (fun z => absurd z h) (fun _ => ?_))
    dsimp only
    refine np_W_ck ⟨hx, by rw [e28]; exact ⟨by omega, by omega⟩⟩ (np_W_if (fun _ => np_W_ck ⟨by omega, by omega⟩ (np_W_some ?_)) (fun z => absurd (by rw [e28]; exact g) z))
    rw [np_st_o _ _ _ (by decide), (h4 x (by omega) g).1]
  · refine np_W_ck hx (np_W_if (fun z => absurd z h) (fun _ => ?_))
    dsimp only
    exact np_W_ck ⟨hx, by rw [e28]; exact ⟨by omega, by omega⟩⟩ (np_W_if (fun z => absurd (by rw [e28] at z; exact z) g) (fun _ => np_W_some rfl))
theorem gl_about {σ : np_S} (hC : gi_C σ) (hM : gi_M σ) (hT : gi_T σ) (hO : gi_O σ) (hZ : gi_Z σ) {x : Int} (hx : np_R x) : np_W (f_N_about x σ) (fun o => np_R o.1 ∧ np_W (f_M_about x o.2) (fun q => q = (o.1, np_st σ 29 0 0))) := by
  obtain ⟨⟨R1, R2⟩, ⟨H1, H2⟩, _⟩ := hC
  obtain ⟨m1, m2, _⟩ := hM
  obtain ⟨t0, t1, t2, _⟩ := hT
  obtain ⟨o0, o1, o2, _⟩ := hO
  obtain ⟨z0, z1, z2⟩ := hZ
  unfold f_N_about f_M_about
  refine np_W_ck hx ?_
  refine np_W_if (fun h => np_W_some ⟨⟨by dsimp only; omega, by dsimp only; omega⟩, np_W_ck hx ?_⟩) (fun a0 => ?_)
  · rw [if_pos h]
    exact np_W_some (by dsimp only; rw [np_st_n _ _ _ (by decide), m1])
  refine np_W_if (fun h => np_W_some ⟨⟨by dsimp only; omega, by dsimp only; omega⟩, np_W_ck hx ?_⟩) (fun a1 => ?_)
  · rw [if_neg a0, if_pos h]
    exact np_W_some (by dsimp only; rw [np_st_n _ _ _ (by decide), m2])
  refine np_W_if (fun h => np_W_some ⟨⟨by dsimp only; omega, by dsimp only; omega⟩, np_W_ck hx ?_⟩) (fun a2 => ?_)
  · rw [if_neg a0, if_neg a1, if_pos h]
    exact np_W_some (by dsimp only; rw [np_st_n _ _ _ (by decide), t2])
  refine np_W_if (fun h => np_W_some ⟨⟨by dsimp only; omega, by dsimp only; omega⟩, np_W_ck hx ?_⟩) (fun a3 => ?_)
  · rw [if_neg a0, if_neg a1, if_neg a2, if_pos h]
    exact np_W_some (by dsimp only; rw [np_st_n _ _ _ (by decide), z0])
  refine np_W_if (fun h => np_W_some ⟨⟨by dsimp only; omega, by dsimp only; omega⟩, np_W_ck hx ?_⟩) (fun a4 => ?_)
  · rw [if_neg a0, if_neg a1, if_neg a2, if_neg a3, if_pos h]
    exact np_W_some (by dsimp only; rw [np_st_n _ _ _ (by decide), o2])
  refine np_W_some ⟨by dsimp only; decide, np_W_ck hx ?_⟩
  rw [if_neg a0, if_neg a1, if_neg a2, if_neg a3, if_neg a4]
  exact np_W_some rfl
theorem gl_isKey {σ : np_S} (hC : gi_C σ) (hM : gi_M σ) {x n : Int} (hx : np_R6 x) (hn : np_R n) : np_W (f_N_isKey x n σ) (fun o => np_R o.1 ∧ np_W (f_M_isKey x n o.2) (fun q => q = (o.1, np_st σ 29 0 0))) := by
  have cls : np_W (f_N_isKey x n σ) (fun o => o.2 = σ ∧ gs_bo o.1 (gs_wd x n ∧ gk_key σ (gs_lo x n))) := by
    unfold f_N_isKey f_N_isKey_27 f_N_isKey_28
    refine np_W_seq (gs_isSpelled x n hn σ) (fun o ho => ?_)
    obtain ⟨v, τ⟩ := o
    obtain ⟨e, hb⟩ := ho
    dsimp only at e hb ⊢
    subst e
    refine np_W_ck (gs_bo_R hb) ?_
    refine np_W_if (fun g => np_W_ck (by decide) (np_W_some ⟨rfl, Or.inr ⟨rfl, fun q => (gs_bo_1 hb).mpr q.1 g⟩⟩)) (fun g => ?_)
    have hw := (gs_bo_1 hb).mp g
    rw [gs_lowBytes x n hw.1 hw.2.1]
    refine np_W_bind (np_W_some ?_)
    dsimp only
    refine np_W_seq (gk_hk hC (gs_lo_R hx hw.1 hw.2.1) (gs_wd_lo hw).2) (fun o ho => ?_)
    obtain ⟨v2, τ2⟩ := o
    obtain ⟨e, hb2⟩ := ho
    dsimp only at e hb2 ⊢
    subst e
    refine np_W_ck (gs_bo_R hb2) ?_
    refine np_W_if (fun g => np_W_ck (by decide) (np_W_some ⟨rfl, Or.inr ⟨rfl, fun q => (gs_bo_1 hb2).mpr q.2 g⟩⟩)) (fun g => np_W_ck (by decide) (np_W_some ⟨rfl, Or.inl ⟨rfl, hw, (gs_bo_1 hb2).mp g⟩⟩))
  have hC2 : gi_C (np_st σ 29 0 0) := gi_C_eq hC (np_st_o _ _ _ (by decide)) (np_st_o _ _ _ (by decide)) (np_st_o _ _ _ (by decide)) (np_st_o _ _ _ (by decide)) (np_st_o _ _ _ (by decide))
  have hM2 : gi_M (np_st σ 29 0 0) := (gl_no hC hM (fun _ _ => rfl) 0).2.1
  have hk : ∀ w, gk_key (np_st σ 29 0 0) w ↔ gk_key σ w := by
    intro w
    unfold gk_key
    rw [np_st_o σ _ _ (show 1 ≠ 29 by decide), np_st_o σ _ _ (show 2 ≠ 29 by decide), np_st_o σ _ _ (show 3 ≠ 29 by decide), np_st_o σ _ _ (show 5 ≠ 29 by decide)]
  have mod : np_W (f_M_isKey x n σ) (fun o => o.2 = np_st σ 29 0 0 ∧ gs_bo o.1 (gs_wd x n ∧ gk_key σ (gs_lo x n))) := by
    unfold f_M_isKey f_M_isKey_29 f_M_isKey_30
    refine np_W_seq (gs_isWord x n hn _) (fun o ho => ?_)
    obtain ⟨v, τ⟩ := o
    obtain ⟨e, hb⟩ := ho
    dsimp only at e hb ⊢
    subst e
    refine np_W_ck (gs_bo_R hb) ?_
    refine np_W_if (fun g => np_W_ck (by decide) (np_W_some ⟨rfl, Or.inr ⟨rfl, fun q => (gs_bo_1 hb).mpr q.1 g⟩⟩)) (fun g => ?_)
    have hw := (gs_bo_1 hb).mp g
    rw [gs_lowest x n hw.1 hw.2.1]
    refine np_W_bind (np_W_some ?_)
    dsimp only
    refine np_W_seq (gk_isKey hC2 hM2 (gs_lo_R hx hw.1 hw.2.1)) (fun o ho => ?_)
    obtain ⟨v2, τ2⟩ := o
    obtain ⟨e, hb2⟩ := ho
    dsimp only at e hb2 ⊢
    subst e
    have hb2 := gs_bo_iff hb2 (hk _)
    refine np_W_ck (gs_bo_R hb2) ?_
    refine np_W_if (fun g => np_W_ck (by decide) (np_W_some ⟨rfl, Or.inr ⟨rfl, fun q => (gs_bo_1 hb2).mpr q.2 g⟩⟩)) (fun g => np_W_ck (by decide) (np_W_some ⟨rfl, Or.inl ⟨rfl, hw, (gs_bo_1 hb2).mp g⟩⟩))
  refine np_W_mono cls (fun o ho => ⟨gs_bo_R ho.2, ?_⟩)
  rw [ho.1]
  refine np_W_mono mod (fun q hq => ?_)
  obtain ⟨qv, qs⟩ := q
  obtain ⟨e, hb⟩ := hq
  dsimp only at e hb
  rw [e, gs_bo_v hb ho.2]
