/-! sets of places as the bits of an int -/
def gx_bit (x : Int) (P : Nat → Prop) : Prop := ∃ X : Nat, x = (X : Int) ∧ X < 2147483648 ∧ ∀ i, X.testBit i = true ↔ P i
theorem gx_bit_iff {x : Int} {P Q : Nat → Prop} (h : gx_bit x P) (e : ∀ i, P i ↔ Q i) : gx_bit x Q := by
  obtain ⟨X, h1, h2, h3⟩ := h
  exact ⟨X, h1, h2, fun i => (h3 i).trans (e i)⟩
theorem gx_bit_R {x : Int} {P : Nat → Prop} (h : gx_bit x P) : np_R x := by
  obtain ⟨X, h1, h2, h3⟩ := h
  exact ⟨by omega, by omega⟩
theorem gx_bit_0 : gx_bit 0 (fun _ => False) := ⟨0, rfl, by decide, fun i => by simp⟩
theorem gx_u {X : Nat} (h : X < 2147483648) : (np_i (X : Int)).toBitVec.toNat = X := by
  rw [gb_uI]; omega
theorem gx_bit_or {x y : Int} {P Q : Nat → Prop} (h : gx_bit x P) (k : gx_bit y Q) : gx_bit (np_ori x y) (fun i => P i ∨ Q i) := by
  obtain ⟨X, rfl, h2, h3⟩ := h
  obtain ⟨Y, rfl, k2, k3⟩ := k
  have e : (np_i (X : Int) ||| np_i (Y : Int)).toBitVec.toNat = X ||| Y := by
    rw [Int32.toBitVec_or, BitVec.toNat_or, gx_u h2, gx_u k2]
  have hl : X ||| Y < 2147483648 := Nat.or_lt_two_pow (n := 31) h2 k2
  refine ⟨X ||| Y, ?_, hl, fun i => ?_⟩
  · unfold np_ori
    rw [gb_val5s (by rw [e]; exact hl), e]
  · rw [Nat.testBit_or, Bool.or_eq_true, h3, k3]
theorem gx_c5 : ∀ k : Nat, k < 31 → ((np_i (k : Int) &&& 31).toBitVec.smod 32).toNat = k := by
  intro k hk
  have h : ∀ k, k < 31 → ((nI k &&& 31).toBitVec.smod 32).toNat = k := by decide +kernel
  rw [np_nat]; exact h k hk
theorem gx_cu5 : ∀ k : Nat, k < 31 → (((np_i (k : Int)).toUInt32 &&& Int32.toUInt32 31).toBitVec % 32).toNat = k := by
  intro k hk
  have h : ∀ k, k < 31 → (((nI k).toUInt32 &&& Int32.toUInt32 31).toBitVec % 32).toNat = k := by decide +kernel
  rw [np_nat]; exact h k hk
theorem gx_bit_one {j : Nat} (hj : j < 31) : gx_bit (np_shli 1 (j : Int)) (fun i => i = j) := by
  have hp : (2 : Nat) ^ j ≤ 2 ^ 30 := gb_pow (by omega)
  have h30 : (2 : Nat) ^ 30 = 1073741824 := by decide
  have e : (np_i 1 <<< (np_i (j : Int) &&& 31)).toBitVec.toNat = 2 ^ j := by
    rw [Int32.toBitVec_shiftLeft, BitVec.shiftLeft_eq', gx_c5 j hj, BitVec.toNat_shiftLeft, Nat.shiftLeft_eq]
    have : (np_i 1).toBitVec.toNat = 1 := by decide
    rw [this, Nat.one_mul]
    exact Nat.mod_eq_of_lt (by omega)
  refine ⟨2 ^ j, ?_, by omega, fun i => ?_⟩
  · unfold np_shli
    rw [gb_val5s (by rw [e]; omega), e]
  · rw [Nat.testBit_two_pow]
    constructor
    · intro h; exact (of_decide_eq_true h).symm
    · intro h; exact decide_eq_true h.symm
theorem gx_bit_test {x : Int} {P : Nat → Prop} (h : gx_bit x P) {i : Nat} (hi : i < 31) : gs_bo (np_andi (np_ushri x (i : Int)) 1) (P i) := by
  obtain ⟨X, rfl, h2, h3⟩ := h
  have e : ((np_i (X : Int)).toUInt32 >>> ((np_i (i : Int)).toUInt32 &&& Int32.toUInt32 31)).toInt32.toBitVec.toNat = X / 2 ^ i := by
    show (((np_i (X : Int)).toUInt32 >>> ((np_i (i : Int)).toUInt32 &&& Int32.toUInt32 31)).toBitVec).toNat = _
    rw [UInt32.toBitVec_shiftRight]
    show ((np_i (X : Int)).toBitVec >>> (((np_i (i : Int)).toUInt32 &&& Int32.toUInt32 31).toBitVec % 32)).toNat = _
    rw [BitVec.ushiftRight_eq', gx_cu5 i hi, BitVec.toNat_ushiftRight, gx_u h2, Nat.shiftRight_eq_div_pow]
  have hl : X / 2 ^ i < 2147483648 := Nat.lt_of_le_of_lt (Nat.div_le_self _ _) h2
  have e2 : np_ushri (X : Int) (i : Int) = ((X / 2 ^ i : Nat) : Int) := by
    unfold np_ushri
    rw [gb_val5s (by rw [e]; exact hl), e]
  rw [e2, gb_andi1]
  have ht : X.testBit i = decide (X / 2 ^ i % 2 = 1) := Nat.testBit_eq_decide_div_mod_eq
  by_cases hm : X / 2 ^ i % 2 = 1
  · refine Or.inl ⟨by omega, (h3 i).mp ?_⟩
    rw [ht]; exact decide_eq_true hm
  · refine Or.inr ⟨by omega, fun q => hm ?_⟩
    have := (h3 i).mpr q
    rw [ht] at this
    exact of_decide_eq_true this
theorem gx_bit_ne {x : Int} {P : Nat → Prop} (h : gx_bit x P) : x ≠ 0 ↔ ∃ i, P i := by
  obtain ⟨X, rfl, h2, h3⟩ := h
  constructor
  · intro hx
    have hX : X ≠ 0 := by omega
    obtain ⟨i, hi⟩ := Nat.exists_testBit_of_ne_zero hX
    exact ⟨i, (h3 i).mp hi⟩
  · rintro ⟨i, hi⟩ hx
    have hX : X = 0 := by omega
    have := (h3 i).mpr hi
    rw [hX] at this
    simp at this
/-! the class's cells as a grammar -/
def gx_p (g : ga_G) : Prop := ga_ok g ∧ 2 ≤ ga_R g ∧ ga_R g ≤ 14 ∧ (ga_l g 0 = 3 ∧ ga_v g 0 = 10 ∧ ga_h g 0 0 = -1 ∧ ga_h g 0 1 = 0 ∧ ga_h g 0 2 = -1 ∧ ga_w g 0 0 = 40 ∧ ga_w g 0 2 = 41) ∧ (ga_l g 1 = 1 ∧ ga_v g 1 = 10 ∧ ga_h g 1 0 = -1 ∧ ga_w g 1 0 = 0) ∧ (∀ r d, 2 ≤ r → r < ga_R g → d < ga_l g r → ga_h g r d = -1 → ga_w g r d ≠ 0 ∧ ga_w g r d ≠ 40 ∧ ga_w g r d ≠ 41)
def gx_row (g : ga_G) (σ : np_S) (r : Nat) : Prop := σ 5 (r : Int) = ga_l g r ∧ σ 4 (r : Int) = ga_v g r ∧ ∀ d : Nat, d < 7 → np_R6 (σ 3 (7 * (r : Int) + d)) ∧ ((d < ga_l g r ∧ σ 2 (7 * (r : Int) + d) = ga_h g r d ∧ ((ga_h g r d = -1 ∧ σ 3 (7 * (r : Int) + d) = ga_w g r d) ∨ (ga_h g r d ≠ -1 ∧ σ 3 (7 * (r : Int) + d) = -1))) ∨ (ga_l g r ≤ d ∧ σ 2 (7 * (r : Int) + d) = -1 ∧ σ 3 (7 * (r : Int) + d) = -1))
def gx_C (g : ga_G) (n : Nat) (σ : np_S) : Prop := gx_p g ∧ n ≤ 30 ∧ σ 1 4 = ga_R g ∧ (∀ r : Nat, r < ga_R g → gx_row g σ r) ∧ ∀ i : Nat, i < n → σ 9 (i : Int) = ga_t g i ∧ ga_t g i ≠ -1 ∧ np_R6 (ga_t g i)
theorem gx_C_eq {g : ga_G} {n : Nat} {σ τ : np_S} (h : gx_C g n σ) (e1 : τ 1 = σ 1) (e2 : τ 2 = σ 2) (e3 : τ 3 = σ 3) (e4 : τ 4 = σ 4) (e5 : τ 5 = σ 5) (e9 : τ 9 = σ 9) : gx_C g n τ := by
  unfold gx_C gx_row at *
  rw [e1, e2, e3, e4, e5, e9]
  exact h
/-- what chart's methods leave as it was: all but cells 12, 13, 14 -/
def gx_fr (cs : List Nat) (σ τ : np_S) : Prop := ∀ k, k ∉ cs → τ k = σ k
theorem gx_fr_refl (cs : List Nat) (σ : np_S) : gx_fr cs σ σ := fun _ _ => rfl
theorem gx_fr_trans {cs : List Nat} {σ τ ρ : np_S} (h : gx_fr cs σ τ) (k : gx_fr cs τ ρ) : gx_fr cs σ ρ := fun c hc => (k c hc).trans (h c hc)
theorem gx_fr_mono {cs ds : List Nat} {σ τ : np_S} (h : gx_fr cs σ τ) (hs : ∀ c, c ∈ cs → c ∈ ds) : gx_fr ds σ τ := fun c hc => h c (fun z => hc (hs c z))
theorem gx_fr_st (σ : np_S) (c : Nat) (j v : Int) : gx_fr [c] σ (np_st σ c j v) := by
  intro k hk
  rw [np_st_o _ _ _ (fun z => hk (by rw [z]; exact List.mem_singleton.mpr rfl))]
theorem gx_C_fr {g : ga_G} {n : Nat} {σ τ : np_S} (h : gx_C g n σ) (k : gx_fr [12, 13, 14] σ τ) : gx_C g n τ := gx_C_eq h (k 1 (by decide)) (k 2 (by decide)) (k 3 (by decide)) (k 4 (by decide)) (k 5 (by decide)) (k 9 (by decide))
section
variable {g : ga_G} {n : Nat} {σ : np_S}
theorem gx_dots (h : gx_C g n σ) : f_Grammar_usedDots σ = some ((ga_R g : Int) * 7, σ) := by
  unfold f_Grammar_usedDots
  rw [h.2.2.1]
theorem gx_len (h : gx_C g n σ) {r : Nat} (hr : r < ga_R g) : (1 ≤ ga_l g r ∧ ga_l g r ≤ 6) ∧ (0 ≤ ga_v g r ∧ ga_v g r ≤ 10) := ⟨(h.1.1 r hr).1, (h.1.1 r hr).2.1⟩
theorem gx_lastDot (h : gx_C g n σ) {r : Nat} (hr : r < ga_R g) : f_Grammar_lastDot r σ = some ((((7 * r + ga_l g r : Nat)) : Int), σ) := by
  have hR := h.1.2.2.1
  unfold f_Grammar_lastDot
  rw [np_ck_i ⟨by omega, by omega⟩, (h.2.2.2.1 r hr).1]
  congr 2; omega
theorem gx_reach {P : Nat → Prop} {i j q : Nat} (hi : i < 31) (hj : 98 * j + q < 3038) (hb : gx_bit (σ 12 (((98 * j + q : Nat)) : Int)) P) : np_W (f_Chart_isReached i j q σ) (fun o => o.2 = σ ∧ gs_bo o.1 (P i)) := by
  unfold f_Chart_isReached f_Chart_isReached_23
  have e : (j : Int) * 98 + q = ((98 * j + q : Nat) : Int) := by omega
  rw [e]
  have ht := gx_bit_test hb hi
  refine np_W_ck ⟨by omega, by omega⟩ ?_
  refine np_W_ck (gs_bo_R ht) ?_
  refine np_W_if (fun z => np_W_ck (by decide) (np_W_some ⟨rfl, Or.inr ⟨rfl, fun q => (gs_bo_1 ht).mpr q z⟩⟩)) (fun z => np_W_ck (by decide) (np_W_some ⟨rfl, Or.inl ⟨rfl, (gs_bo_1 ht).mp z⟩⟩))
end
