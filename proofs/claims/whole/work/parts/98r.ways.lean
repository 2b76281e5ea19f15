/-! the reference's tables: words, waysOf, countTerms -/
def gy_M (g : ga_G) (n : Nat) (σ : np_S) : Prop := gx_p g ∧ n ≤ 30 ∧ gi_C σ ∧ gi_M σ ∧ σ 29 2 = (ga_R g : Int) - 2 ∧ σ 29 11 = n ∧
  (∀ k : Nat, k + 2 < ga_R g → σ 32 (k : Int) = ga_l g (k + 2) ∧ σ 33 (k : Int) = ga_v g (k + 2) ∧ ∀ p : Nat, p < ga_l g (k + 2) → σ 30 (((7 * k + p : Nat)) : Int) = ga_h g (k + 2) p ∧ (ga_h g (k + 2) p = -1 → σ 31 (((7 * k + p : Nat)) : Int) = ga_w g (k + 2) p ∧ np_R6 (ga_w g (k + 2) p))) ∧
  (∀ i : Nat, i < n → np_R6 (σ 35 (i : Int)) ∧ (σ 35 (i : Int) = 40 ↔ ga_t g i = 40) ∧ (σ 35 (i : Int) = 41 ↔ ga_t g i = 41) ∧ (∀ r p, 2 ≤ r → r < ga_R g → p < ga_l g r → ga_h g r p = -1 → (σ 35 (i : Int) = ga_w g r p ↔ ga_t g i = ga_w g r p)) ∧ 2 ≤ gs_kd (gb_by (σ 35 (i : Int)) 0) ∧ (((gs_kd (gb_by (σ 35 (i : Int)) 0) = 2 ∨ gs_kd (gb_by (σ 35 (i : Int)) 0) = 3) ∧ ¬ gk_key σ (σ 35 (i : Int))) ↔ ga_t g i = 0))
theorem gy_M_eq {g : ga_G} {n : Nat} {σ τ : np_S} (h : gy_M g n σ) (e1 : τ 1 = σ 1) (e2 : τ 2 = σ 2) (e3 : τ 3 = σ 3) (e4 : τ 4 = σ 4) (e5 : τ 5 = σ 5) (e291 : τ 29 1 = σ 29 1) (e292 : τ 29 2 = σ 29 2) (e2911 : τ 29 11 = σ 29 11) (e30 : τ 30 = σ 30) (e31 : τ 31 = σ 31) (e32 : τ 32 = σ 32) (e33 : τ 33 = σ 33) (e35 : τ 35 = σ 35) : gy_M g n τ := by
  obtain ⟨a1, a2, a3, a4, a5, a6, a7, a8⟩ := h
  have hk : ∀ c, gk_key τ c ↔ gk_key σ c := by
    intro c
    unfold gk_key
    rw [e1, e2, e3, e5]
  refine ⟨a1, a2, gi_C_eq a3 e1 e2 e3 e4 e5, gi_M_eq a4 e1 e2 e3 e4 e5 e291 e292 e30 e31 e32 e33, by rw [e292]; exact a5, by rw [e2911]; exact a6, by rw [e30, e31, e32, e33]; exact a7, fun i hi => ?_⟩
  rw [e35, hk]
  exact a8 i hi
theorem gy_M_fr {g : ga_G} {n : Nat} {σ τ : np_S} (h : gy_M g n σ) {cs : List Nat} (k : gx_fr cs σ τ) (hc : ∀ c, c ∈ [1, 2, 3, 4, 5, 29, 30, 31, 32, 33, 35] → c ∉ cs) : gy_M g n τ :=
  gy_M_eq h (k 1 (hc 1 (by decide))) (k 2 (hc 2 (by decide))) (k 3 (hc 3 (by decide))) (k 4 (hc 4 (by decide))) (k 5 (hc 5 (by decide))) (by rw [k 29 (hc 29 (by decide))]) (by rw [k 29 (hc 29 (by decide))]) (by rw [k 29 (hc 29 (by decide))]) (k 30 (hc 30 (by decide))) (k 31 (hc 31 (by decide))) (k 32 (hc 32 (by decide))) (k 33 (hc 33 (by decide))) (k 35 (hc 35 (by decide)))
section
variable {g : ga_G} {n : Nat} {σ : np_S}
theorem gy_by0 (x : Int) : np_andl x 255 = gb_by x 0 := by
  rw [gb_andl255]
  unfold gb_by
  have : ((256 ^ 0 : Nat) : Int) = 1 := by decide
  rw [this, Int.ediv_one]
theorem gy_atom (hM : gy_M g n σ) {i : Nat} (hi : i < n) : np_W (f_M_isAtom i σ) (fun o => o.2 = σ ∧ gs_bo o.1 (ga_t g i = 0)) := by
  obtain ⟨hp, n30, hC, hMM, e2, e11, hrow, hwd⟩ := hM
  obtain ⟨w1, _, _, _, w5, w6⟩ := hwd i hi
  unfold f_M_isAtom f_M_isAtom_41 f_M_isAtom_42
  refine np_W_ck ⟨by omega, by omega⟩ ?_
  rw [gy_by0, gs_by_s]
  refine np_W_bind (np_W_some ?_)
  dsimp only
  have hs := gs_so_r (gb_by (σ 35 (i : Int)) 0)
  have hso := (gw_so (gb_by (σ 35 (i : Int)) 0)).2 w5
  refine np_W_ck ⟨by omega, by omega⟩ ?_
  refine np_W_if (fun z => by omega) (fun z => ?_)
  refine np_W_ck ⟨⟨by omega, by omega⟩, by decide⟩ ?_
  refine np_W_if (fun z3 => np_W_ck (by decide) (np_W_some ⟨rfl, Or.inr ⟨rfl, fun q => ?_⟩⟩)) (fun z3 => ?_)
  · have := (w6.mpr q).1
    omega
  refine np_W_ck ⟨by omega, by omega⟩ ?_
  refine np_W_seq (gk_isKey hC hMM w1) (fun o ho => ?_)
  obtain ⟨v, τ⟩ := o
  obtain ⟨e, hb⟩ := ho
  dsimp only at e hb ⊢
  subst e
  refine np_W_ck (gs_bo_R hb) ?_
  refine np_W_if (fun y => np_W_ck (by decide) (np_W_some ⟨rfl, Or.inr ⟨rfl, fun q => (w6.mpr q).2 ((gs_bo_1 hb).mp y)⟩⟩)) (fun y => np_W_ck (by decide) (np_W_some ⟨rfl, Or.inl ⟨rfl, w6.mp ⟨by omega, fun q => y ((gs_bo_1 hb).mpr q)⟩⟩⟩))
theorem gy_is (hM : gy_M g n σ) {i : Nat} (hi : i ≤ 30) {c : Int} (hc : np_R c) : np_W (f_M_is i c σ) (fun o => o.2 = σ ∧ gs_bo o.1 (i < n ∧ σ 35 (i : Int) = c)) := by
  obtain ⟨hp, n30, hC, hMM, e2, e11, hrow, hwd⟩ := hM
  unfold f_M_is f_M_is_24 f_M_is_25
  rw [e11]
  refine np_W_ck ⟨⟨by omega, by omega⟩, ⟨by omega, by omega⟩⟩ ?_
  refine np_W_if (fun z => np_W_ck (by decide) (np_W_some ⟨rfl, Or.inr ⟨rfl, fun q => by have := q.1; omega⟩⟩)) (fun z => ?_)
  refine np_W_ck ⟨by omega, by omega⟩ ?_
  refine np_W_ck hc ?_
  refine np_W_ck ⟨(hwd i (by omega)).1, ⟨by have := hc.1; omega, by have := hc.2; omega⟩⟩ ?_
  refine np_W_ck (np_cmpR _ _) ?_
  refine np_W_if (fun y => np_W_ck (by decide) (np_W_some ⟨rfl, Or.inr ⟨rfl, fun q => y (np_cmp0.mpr q.2)⟩⟩)) (fun y => np_W_ck (by decide) (np_W_some ⟨rfl, Or.inl ⟨rfl, by omega, np_cmp0.mp (Classical.not_not.mp y)⟩⟩))
theorem gy_less {A : Nat} (hA : A ≤ 1000000000000000) : f_M_less (A : Int) σ = some (((ga_sat A : Nat) : Int), σ) := by
  unfold f_M_less f_M_less_15
  rw [np_ck_i ⟨⟨by omega, by omega⟩, by decide⟩, np_ck_i (np_cmpR _ _)]
  by_cases h : A ≤ 1000000
  · have c : np_cmp (A : Int) 1000000 ≤ 0 := by
      unfold np_cmp
      rw [if_neg (by omega)]
      split <;> decide
    rw [if_pos c, ga_sat_id h]
  · have c : ¬ np_cmp (A : Int) 1000000 ≤ 0 := by
      unfold np_cmp
      rw [if_pos (by omega)]; decide
    rw [if_neg c]
    unfold ga_sat
    rw [if_neg h]; rfl
def gy_ix (a i j : Nat) : Nat := (a * 31 + i) * 31 + j
theorem gy_cell (a i j : Nat) (σ : np_S) : f_M_cell a i j σ = some (((gy_ix a i j : Nat) : Int), σ) := by
  unfold f_M_cell gy_ix
  have e : ((a : Int) * 31 + (i : Int)) * 31 + (j : Int) = (((a * 31 + i) * 31 + j : Nat) : Int) := by omega
  rw [e]
def gy_tm (σ : np_S) (l i j : Nat) : Int := σ 37 (((gy_ix l i j : Nat)) : Int)
def gy_rw (σ : np_S) (k i j : Nat) : Int := σ 38 (((gy_ix k i j : Nat)) : Int)
theorem gy_ix_inj {a i j b k l : Nat} (hi : i ≤ 30) (hj : j ≤ 30) (hk : k ≤ 30) (hl : l ≤ 30) : gy_ix a i j = gy_ix b k l ↔ a = b ∧ i = k ∧ j = l := by
  unfold gy_ix
  omega
theorem gy_tm_st {l i j l2 i2 j2 : Nat} (hi : i ≤ 30) (hj : j ≤ 30) (hi2 : i2 ≤ 30) (hj2 : j2 ≤ 30) (σ : np_S) (v : Int) : gy_tm (np_st σ 37 (((gy_ix l i j : Nat)) : Int) v) l2 i2 j2 = if l2 = l ∧ i2 = i ∧ j2 = j then v else gy_tm σ l2 i2 j2 := by
  unfold gy_tm
  rw [np_st_rd, if_pos rfl]
  by_cases h : l2 = l ∧ i2 = i ∧ j2 = j
  · rw [if_pos h, if_pos (by rw [(gy_ix_inj hi2 hj2 hi hj).mpr h])]
  · rw [if_neg h, if_neg (fun z => h ((gy_ix_inj hi2 hj2 hi hj).mp (by omega)))]
theorem gy_rw_st {l i j l2 i2 j2 : Nat} (hi : i ≤ 30) (hj : j ≤ 30) (hi2 : i2 ≤ 30) (hj2 : j2 ≤ 30) (σ : np_S) (v : Int) : gy_rw (np_st σ 38 (((gy_ix l i j : Nat)) : Int) v) l2 i2 j2 = if l2 = l ∧ i2 = i ∧ j2 = j then v else gy_rw σ l2 i2 j2 := by
  unfold gy_rw
  rw [np_st_rd, if_pos rfl]
  by_cases h : l2 = l ∧ i2 = i ∧ j2 = j
  · rw [if_pos h, if_pos (by rw [(gy_ix_inj hi2 hj2 hi hj).mpr h])]
  · rw [if_neg h, if_neg (fun z => h ((gy_ix_inj hi2 hj2 hi hj).mp (by omega)))]
theorem gy_94 (hM : gy_M g n σ) {k p i j h : Nat} (hk : k + 2 < ga_R g) (hp : p < ga_l g (k + 2)) (hh : ga_h g (k + 2) p = h) (hij : i ≤ j) (hj : j ≤ n) (hr : ∀ m, i < m → m ≤ j → gy_rw σ (7 * k + (p + 1)) m j = ga_sat (ga_S g (ga_C g) (k + 2) (ga_l g (k + 2) - (p + 1)) m j)) (ht : ∀ m, i < m → m ≤ j → gy_tm σ h i m = ga_sat (ga_C g h i m) ∨ (gy_tm σ h i m = 0 ∧ ga_S g (ga_C g) (k + 2) (ga_l g (k + 2) - (p + 1)) m j = 0)) : ∀ (f m : Nat) (A : Nat), i < m → m ≤ j + 1 → j + 1 - m < f → A = ga_sat (ga_sum m (fun m => if i < m then ga_C g h i m * ga_S g (ga_C g) (k + 2) (ga_l g (k + 2) - (p + 1)) m j else 0)) → np_W (f_M_waysOf_94 f i j (((7 * k + p : Nat)) : Int) A m σ) (fun o => o.2 = σ ∧ o.1 = ga_sat (ga_S g (ga_C g) (k + 2) (ga_l g (k + 2) - p) i j)) := by
  obtain ⟨hgp, n30, hC, hMM, e2, e11, hrow, hwd⟩ := id hM
  have R14 := hgp.2.2.1
  have hlen := (hgp.1 (k + 2) hk).1
  have hh10 := (hgp.1 (k + 2) hk).2.2.1 p hp
  have hne : ga_h g (k + 2) p ≠ -1 := by omega
  intro f
  induction f with
  | zero => intro m A _ _ h; omega
  | succ f ih =>
    intro m A im mj hf eA
    have bA : A ≤ 1000000 := by rw [eA]; exact ga_sat_le _
    show np_W (f_M_waysOf_94_b _ i j _ A m σ) _
    unfold f_M_waysOf_94_b
    refine np_W_ck ⟨⟨by omega, by omega⟩, ⟨by omega, by omega⟩⟩ ?_
    refine np_W_if (fun z => np_W_some ⟨rfl, ?_⟩) (fun z => ?_)
    · have e : m = j + 1 := by omega
      subst e
      dsimp only
      rw [eA]
      congr 2
      obtain ⟨q, hq⟩ : ∃ q, ga_l g (k + 2) - p = q + 1 := ⟨ga_l g (k + 2) - (p + 1), by omega⟩
      have eq1 : ga_l g (k + 2) - (p + 1) = q := by omega
      have eq2 : ga_l g (k + 2) - (q + 1) = p := by omega
      rw [hq, eq1]
      show _ = if ga_h g (k + 2) (ga_l g (k + 2) - (q + 1)) = -1 then _ else ga_sum (j + 1) (fun m => if i < m then ga_C g (ga_h g (k + 2) (ga_l g (k + 2) - (q + 1))) i m * ga_S g (ga_C g) (k + 2) q m j else 0)
      rw [eq2, if_neg hne, hh]
    · refine np_W_ck ⟨by omega, by omega⟩ ?_
      rw [((hrow k hk).2.2 p hp).1, hh, gy_cell]
      refine np_W_bind (np_W_some ?_)
      dsimp only
      have b37 : gy_ix h i m < 10571 := by unfold gy_ix; omega
      have hs2 := ga_sat_le (ga_C g h i m)
      have hs3 := ga_sat_le (ga_S g (ga_C g) (k + 2) (ga_l g (k + 2) - (p + 1)) m j)
      obtain ⟨B, eB, hB, bB⟩ : ∃ B : Nat, σ 37 ((gy_ix h i m : Nat) : Int) = B ∧ ga_sat (B * ga_sat (ga_S g (ga_C g) (k + 2) (ga_l g (k + 2) - (p + 1)) m j)) = ga_sat (ga_C g h i m * ga_S g (ga_C g) (k + 2) (ga_l g (k + 2) - (p + 1)) m j) ∧ B ≤ 1000000 := by
        rcases ht m im (by omega) with y | ⟨y1, y2⟩
        · exact ⟨_, y, ga_sat_mul _ _, hs2⟩
        · refine ⟨0, y1, ?_, by omega⟩
          rw [y2]; simp
      refine np_W_ck ⟨by omega, by omega⟩ ?_
      refine np_W_ck (by rw [eB]; exact ⟨by omega, by omega⟩) ?_
      have e1 : ((7 * k + p : Nat) : Int) + 1 = ((7 * k + (p + 1) : Nat) : Int) := by omega
      rw [e1, gy_cell]
      refine np_W_bind (np_W_some ?_)
      dsimp only
      have b38 : gy_ix (7 * k + (p + 1)) m j < 80724 := by unfold gy_ix; omega
      have er := hr m im (by omega)
      unfold gy_rw at er
      refine np_W_ck ⟨by omega, by omega⟩ ?_
      refine np_W_ck (by rw [er]; exact ⟨by omega, by omega⟩) ?_
      rw [eB, er]
      have hmul : B * ga_sat (ga_S g (ga_C g) (k + 2) (ga_l g (k + 2) - (p + 1)) m j) ≤ 1000000000000 := Nat.mul_le_mul bB hs3
      have e3 : (A : Int) + (B : Int) * ((ga_sat (ga_S g (ga_C g) (k + 2) (ga_l g (k + 2) - (p + 1)) m j) : Nat) : Int) = ((A + B * ga_sat (ga_S g (ga_C g) (k + 2) (ga_l g (k + 2) - (p + 1)) m j) : Nat) : Int) := by rw [Int.natCast_add, Int.natCast_mul]
      rw [e3, gy_less (by omega)]
      refine np_W_bind (np_W_some ?_)
      dsimp only
      have hs4 := ga_sat_le (A + B * ga_sat (ga_S g (ga_C g) (k + 2) (ga_l g (k + 2) - (p + 1)) m j))
      refine np_W_ck ⟨by omega, by omega⟩ ?_
      have e4 : (m : Int) + 1 = ((m + 1 : Nat) : Int) := by omega
      rw [e4]
      refine ih (m + 1) _ (by omega) (by omega) (by omega) ?_
      show _ = ga_sat (ga_sum m _ + (if i < m then _ else _))
      rw [if_pos im, ← ga_sat_addr, hB, ga_sat_addr, eA, ga_sat_add]
theorem gy_ways (hM : gy_M g n σ) {k p i j : Nat} (hk : k + 2 < ga_R g) (hp : p ≤ ga_l g (k + 2)) (hij : i ≤ j) (hj : j ≤ n) (hr : p < ga_l g (k + 2) → ∀ m, i < m → m ≤ j → gy_rw σ (7 * k + (p + 1)) m j = ga_sat (ga_S g (ga_C g) (k + 2) (ga_l g (k + 2) - (p + 1)) m j)) (ht : ∀ h : Nat, p < ga_l g (k + 2) → ga_h g (k + 2) p = h → ∀ m, i < m → m ≤ j → gy_tm σ h i m = ga_sat (ga_C g h i m) ∨ (gy_tm σ h i m = 0 ∧ ga_S g (ga_C g) (k + 2) (ga_l g (k + 2) - (p + 1)) m j = 0)) : np_W (f_M_waysOf k p i j σ) (fun o => o.2 = σ ∧ o.1 = ga_sat (ga_S g (ga_C g) (k + 2) (ga_l g (k + 2) - p) i j)) := by
  obtain ⟨hgp, n30, hC, hMM, e2, e11, hrow, hwd⟩ := id hM
  have R14 := hgp.2.2.1
  have hlen := (hgp.1 (k + 2) hk).1
  unfold f_M_waysOf f_M_waysOf_84 f_M_waysOf_85 f_M_waysOf_29
  have e32 := (hrow k hk).1
  refine np_W_ck ⟨by omega, by omega⟩ ?_
  refine np_W_ck ⟨⟨by omega, by omega⟩, by rw [e32]; exact ⟨by omega, by omega⟩⟩ ?_
  refine np_W_if (fun z => ?_) (fun z => ?_)
  · have hpl : p < ga_l g (k + 2) := by rw [e32] at z; omega
    obtain ⟨e30, e31⟩ := (hrow k hk).2.2 p hpl
    have hh := (hgp.1 (k + 2) hk).2.2.1 p hpl
    have e1 : 7 * (k : Int) + (p : Int) = ((7 * k + p : Nat) : Int) := by omega
    rw [e1]
    obtain ⟨q, hq⟩ : ∃ q, ga_l g (k + 2) - p = q + 1 := ⟨ga_l g (k + 2) - (p + 1), by omega⟩
    have eq1 : ga_l g (k + 2) - (p + 1) = q := by omega
    have eq2 : ga_l g (k + 2) - (q + 1) = p := by omega
    refine np_W_ck ⟨by omega, by omega⟩ ?_
    refine np_W_ck ⟨by rw [e30]; exact ⟨by omega, by omega⟩, by decide⟩ ?_
    refine np_W_if (fun y => ?_) (fun y => ?_)
    · rw [e30] at y
      obtain ⟨h, eh⟩ : ∃ h : Nat, ga_h g (k + 2) p = h := ⟨(ga_h g (k + 2) p).toNat, by omega⟩
      have e4 : (i : Int) + 1 = ((i + 1 : Nat) : Int) := by omega
      rw [e4]
      refine gy_94 hM hk hpl eh hij hj (hr hpl) (ht h hpl eh) 20000 (i + 1) 0 (by omega) (by omega) (by omega) ?_
      rw [ga_sum_zero (fun m hm => by rw [if_neg (by omega)])]; rfl
    · rw [e30] at y
      have y := Classical.not_not.mp y
      obtain ⟨f1, f2⟩ := e31 y
      have es : ga_S g (ga_C g) (k + 2) (ga_l g (k + 2) - p) i j = if i < j ∧ ga_t g i = ga_w g (k + 2) p then ga_S g (ga_C g) (k + 2) (ga_l g (k + 2) - (p + 1)) (i + 1) j else 0 := by
        rw [hq, eq1]
        show (if ga_h g (k + 2) (ga_l g (k + 2) - (q + 1)) = -1 then (if i < j ∧ ga_t g i = ga_w g (k + 2) (ga_l g (k + 2) - (q + 1)) then ga_S g (ga_C g) (k + 2) q (i + 1) j else 0) else _) = _
        rw [eq2, if_pos y]
      refine np_W_ck ⟨⟨by omega, by omega⟩, ⟨by omega, by omega⟩⟩ ?_
      refine np_W_if (fun x => np_W_some ⟨rfl, ?_⟩) (fun x => ?_)
      · rw [es, if_neg (fun q => by have := q.1; omega)]; rfl
      obtain ⟨w1, _, _, w4, _⟩ := hwd i (by omega)
      have w4 := w4 (k + 2) p (by omega) hk hpl y
      refine np_W_ck ⟨by omega, by omega⟩ ?_
      refine np_W_ck ⟨by omega, by omega⟩ ?_
      refine np_W_ck ⟨w1, by rw [f1]; exact f2⟩ ?_
      refine np_W_ck (np_cmpR _ _) ?_
      refine np_W_if (fun x2 => np_W_some ⟨rfl, ?_⟩) (fun x2 => ?_)
      · rw [es, if_neg (fun q => x2 (np_cmp0.mpr (by rw [f1]; exact w4.mpr q.2)))]; rfl
      · have x3 := np_cmp0.mp (Classical.not_not.mp x2)
        rw [f1] at x3
        have e5 : ((7 * k + p : Nat) : Int) + 1 = ((7 * k + (p + 1) : Nat) : Int) := by omega
        have e4 : (i : Int) + 1 = ((i + 1 : Nat) : Int) := by omega
        rw [e5, e4, gy_cell]
        refine np_W_bind (np_W_some ?_)
        dsimp only
        have b38 : gy_ix (7 * k + (p + 1)) (i + 1) j < 80724 := by unfold gy_ix; omega
        refine np_W_ck ⟨by omega, by omega⟩ ?_
        refine np_W_some ⟨rfl, ?_⟩
        dsimp only
        have := hr hpl (i + 1) (by omega) (by omega)
        unfold gy_rw at this
        rw [this, es, if_pos ⟨by omega, w4.mp x3⟩]
  · have hpl : p = ga_l g (k + 2) := by rw [e32] at z; omega
    have e0 : ga_l g (k + 2) - p = 0 := by omega
    rw [e0]
    refine np_W_ck ⟨⟨by omega, by omega⟩, ⟨by omega, by omega⟩⟩ ?_
    refine np_W_if (fun x => np_W_some ⟨rfl, ?_⟩) (fun x => np_W_some ⟨rfl, ?_⟩)
    · show (0 : Int) = ((ga_sat (if i = j then 1 else 0) : Nat) : Int)
      rw [if_neg (by omega)]; rfl
    · show (1 : Int) = ((ga_sat (if i = j then 1 else 0) : Nat) : Int)
      rw [if_pos (by omega)]; rfl
/-- brackets and atoms among the counts -/
theorem gy_S0 (hp : gx_p g) (i j : Nat) : ga_S g (ga_C g) 0 (ga_l g 0) i j = if i + 2 < j ∧ ga_t g i = 40 ∧ ga_t g (j - 1) = 41 then ga_C g 0 (i + 1) (j - 1) else 0 := by
  obtain ⟨hok, R2, _, ⟨b1, b2, b3, b4, b5, b6, b7⟩, _⟩ := hp
  rw [b1]
  show (if ga_h g 0 (ga_l g 0 - 3) = -1 then (if i < j ∧ ga_t g i = ga_w g 0 (ga_l g 0 - 3) then ga_S g (ga_C g) 0 2 (i + 1) j else 0) else _) = _
  rw [b1, show 3 - 3 = 0 from rfl, if_pos b3, b6]
  have s2 : ga_S g (ga_C g) 0 2 (i + 1) j = ga_sum (j + 1) (fun m => if i + 1 < m then ga_C g 0 (i + 1) m * ga_S g (ga_C g) 0 1 m j else 0) := by
    show (if ga_h g 0 (ga_l g 0 - 2) = -1 then _ else ga_sum (j + 1) (fun m => if i + 1 < m then ga_C g (ga_h g 0 (ga_l g 0 - 2)) (i + 1) m * ga_S g (ga_C g) 0 1 m j else 0)) = _
    rw [b1, show 3 - 2 = 1 from rfl, b4, if_neg (by decide)]
  have s1 : ∀ m, ga_S g (ga_C g) 0 1 m j = if m < j ∧ ga_t g m = 41 ∧ m + 1 = j then 1 else 0 := by
    intro m
    show (if ga_h g 0 (ga_l g 0 - 1) = -1 then (if m < j ∧ ga_t g m = ga_w g 0 (ga_l g 0 - 1) then (if m + 1 = j then 1 else 0) else 0) else _) = _
    rw [b1, show 3 - 1 = 2 from rfl, if_pos b5, b7]
    by_cases h1 : m < j ∧ ga_t g m = 41
    · rw [if_pos h1]
      by_cases h2 : m + 1 = j
      · rw [if_pos h2, if_pos ⟨h1.1, h1.2, h2⟩]
      · rw [if_neg h2, if_neg (fun z => h2 z.2.2)]
    · rw [if_neg h1, if_neg (fun z => h1 ⟨z.1, z.2.1⟩)]
  rw [s2]
  by_cases h : i + 2 < j ∧ ga_t g i = 40 ∧ ga_t g (j - 1) = 41
  · rw [if_pos h, if_pos ⟨by omega, h.2.1⟩, ga_sum_one (k := j - 1) (by omega) (fun m hm hmj => ?_)]
    · rw [if_pos (by omega), s1, if_pos ⟨by omega, h.2.2, by omega⟩, Nat.mul_one]
    · by_cases h3 : i + 1 < m
      · rw [if_pos h3, s1, if_neg (by omega), Nat.mul_zero]
      · rw [if_neg h3]
  · rw [if_neg h]
    by_cases h4 : i < j ∧ ga_t g i = 40
    · rw [if_pos h4]
      refine ga_sum_zero (fun m hm => ?_)
      by_cases h3 : i + 1 < m
      · rw [if_pos h3, s1]
        by_cases h5 : m < j ∧ ga_t g m = 41 ∧ m + 1 = j
        · have : m = j - 1 := by omega
          rw [this] at h5
          exact absurd ⟨by omega, h4.2, h5.2.1⟩ h
        · rw [if_neg h5, Nat.mul_zero]
      · rw [if_neg h3]
    · rw [if_neg h4]
theorem gy_S1 (hp : gx_p g) (i j : Nat) : ga_S g (ga_C g) 1 (ga_l g 1) i j = if j = i + 1 ∧ ga_t g i = 0 then 1 else 0 := by
  obtain ⟨hok, R2, _, _, ⟨b1, b2, b3, b4⟩, _⟩ := hp
  rw [b1]
  show (if ga_h g 1 (ga_l g 1 - 1) = -1 then (if i < j ∧ ga_t g i = ga_w g 1 (ga_l g 1 - 1) then (if i + 1 = j then 1 else 0) else 0) else _) = _
  rw [b1, show 1 - 1 = 0 from rfl, if_pos b3, b4]
  by_cases h1 : i < j ∧ ga_t g i = 0
  · rw [if_pos h1]
    by_cases h2 : i + 1 = j
    · rw [if_pos h2, if_pos ⟨h2.symm, h1.2⟩]
    · rw [if_neg h2, if_neg (fun z => h2 z.1.symm)]
  · rw [if_neg h1, if_neg (fun z => h1 ⟨by omega, z.2⟩)]
end
