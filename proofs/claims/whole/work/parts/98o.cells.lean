/-! counting the trees: cells, sumTerms -/
def gx_tri : Nat → Nat
  | 0 => 0
  | j + 1 => gx_tri j + j
theorem gx_tri_e : ∀ j, j ≤ 30 → j * (j - 1) / 2 = gx_tri j ∧ j * (j - 1) ≤ 870 := by decide
theorem gx_tri_m {j k : Nat} (h : j < k) : gx_tri j + j ≤ gx_tri k := by
  induction k with
  | zero => omega
  | succ k ih =>
    show gx_tri j + j ≤ gx_tri k + k
    by_cases e : j = k
    · rw [e]; exact Nat.le_refl _
    · have := ih (by omega); omega
def gx_cel (i j l : Nat) : Nat := (gx_tri j + i) * 11 + l
theorem gx_cel_lt {i j l : Nat} (h : i < j) (hj : j ≤ 30) (hl : l ≤ 10) : gx_cel i j l < 5115 := by
  have h30 : gx_tri 30 = 435 := by decide
  unfold gx_cel
  by_cases e : j = 30
  · subst e; omega
  · have := gx_tri_m (j := j) (k := 30) (by omega)
    omega
theorem gx_cel_inj {i j l i2 j2 l2 : Nat} (h : i < j) (h2 : i2 < j2) (hl : l ≤ 10) (hl2 : l2 ≤ 10) (e : gx_cel i j l = gx_cel i2 j2 l2) : i = i2 ∧ j = j2 ∧ l = l2 := by
  unfold gx_cel at e
  have e1 : gx_tri j + i = gx_tri j2 + i2 := by omega
  have e2 : j = j2 := by
    rcases Nat.lt_trichotomy j j2 with g | g | g
    · have := gx_tri_m g; omega
    · exact g
    · have := gx_tri_m g; omega
  subst e2
  omega
theorem gx_cell {j : Nat} (hj : j ≤ 30) (i l : Nat) (σ : np_S) : f_Chart_cell i j l σ = some (((gx_cel i j l : Nat) : Int), σ) := by
  obtain ⟨h1, h2⟩ := gx_tri_e j hj
  have e : (j : Int) * ((j : Int) - 1) = ((j * (j - 1) : Nat) : Int) := by
    cases j with
    | zero => rfl
    | succ j => rw [Int.natCast_mul]; congr 1; omega
  unfold f_Chart_cell gx_cel
  rw [np_ck_i (by rw [e]; omega), e, ← h1]
  have e4 : ((((j * (j - 1) : Nat) : Int) / 2 + (i : Int)) * 11 + (l : Int)) = (((j * (j - 1) / 2 + i) * 11 + l : Nat) : Int) := by omega
  rw [e4]
def gx_wy (σ : np_S) (j r d : Nat) : Int := σ 13 (((98 * j + (7 * r + d) : Nat)) : Int)
def gx_tr (σ : np_S) (i j l : Nat) : Int := σ 14 (((gx_cel i j l : Nat)) : Int)
theorem gx_tr_st {i j l i2 j2 l2 : Nat} (h : i < j) (h2 : i2 < j2) (hl : l ≤ 10) (hl2 : l2 ≤ 10) (σ : np_S) (v : Int) : gx_tr (np_st σ 14 (((gx_cel i j l : Nat)) : Int) v) i2 j2 l2 = if i2 = i ∧ j2 = j ∧ l2 = l then v else gx_tr σ i2 j2 l2 := by
  unfold gx_tr
  rw [np_st_rd, if_pos rfl]
  by_cases e : i2 = i ∧ j2 = j ∧ l2 = l
  · obtain ⟨rfl, rfl, rfl⟩ := e
    rw [if_pos rfl, if_pos ⟨rfl, rfl, rfl⟩]
  · rw [if_neg e, if_neg (fun z => e ?_)]
    exact gx_cel_inj h2 h hl2 hl (by omega)
theorem gx_wy_st {j r d j2 r2 d2 : Nat} (hr : r < 14) (hd : d < 7) (hr2 : r2 < 14) (hd2 : d2 < 7) (σ : np_S) (v : Int) : gx_wy (np_st σ 13 (((98 * j + (7 * r + d) : Nat)) : Int) v) j2 r2 d2 = if j2 = j ∧ r2 = r ∧ d2 = d then v else gx_wy σ j2 r2 d2 := by
  unfold gx_wy
  rw [np_st_rd, if_pos rfl]
  by_cases e : j2 = j ∧ r2 = r ∧ d2 = d
  · obtain ⟨rfl, rfl, rfl⟩ := e
    rw [if_pos rfl, if_pos ⟨rfl, rfl, rfl⟩]
  · rw [if_neg e, if_neg (by omega)]
theorem gx_add {c A B : Nat} (hc : c < 5115) (hA : A ≤ 1000000) (hB : B ≤ 1000000) {σ : np_S} (e : σ 14 (c : Int) = A) : f_Chart_addTrees c B σ = some (0, np_st σ 14 (c : Int) ((ga_sat (A + B) : Nat) : Int)) := by
  unfold f_Chart_addTrees
  rw [e, np_ck_i ⟨by omega, by omega⟩, np_ck_i ⟨⟨by omega, by omega⟩, by decide⟩, np_ck_i ⟨by omega, by omega⟩]
  congr 3
  unfold np_min ga_sat
  by_cases h : A + B ≤ 1000000
  · rw [if_pos h, if_neg (by omega)]; omega
  · rw [if_neg h, if_pos (by omega)]; rfl
/-- cell 14 outside of the words from i to j -/
def gx_otr (i j : Nat) (σ τ : np_S) : Prop := ∀ i2 j2 l : Nat, i2 < j2 → l ≤ 10 → ¬ (i2 = i ∧ j2 = j) → gx_tr τ i2 j2 l = gx_tr σ i2 j2 l
theorem gx_otr_trans {i j : Nat} {σ τ ρ : np_S} (h : gx_otr i j σ τ) (k : gx_otr i j τ ρ) : gx_otr i j σ ρ := fun a b c d e f => (k a b c d e f).trans (h a b c d e f)
theorem gx_otr_st {i j l : Nat} (h : i < j) (hl : l ≤ 10) (σ : np_S) (v : Int) : gx_otr i j σ (np_st σ 14 (((gx_cel i j l : Nat)) : Int) v) := by
  intro i2 j2 l2 h2 hl2 hn
  rw [gx_tr_st h h2 hl hl2, if_neg (fun z => hn ⟨z.1, z.2.1⟩)]
theorem gx_cel_s (i j l : Nat) : ((gx_cel i j 0 : Nat) : Int) + (l : Int) = ((gx_cel i j l : Nat) : Int) := by
  unfold gx_cel; omega
section
variable {g : ga_G} {n : Nat}
/-- trees of level l and more of the words from i to j that the chart has reached -/
def gx_T (g : ga_G) (L : Nat → Int) (i j k : Nat) (l : Int) : Nat := ga_sum k (fun r => if L i ≤ ga_v g r ∧ l ≤ ga_v g r then ga_P g (ga_C g) r (ga_l g r) i j else 0)
def gx_T1 (g : ga_G) (L : Nat → Int) (i j k : Nat) (l : Int) : Nat := ga_sum k (fun r => if L i ≤ ga_v g r ∧ ga_v g r = l then ga_P g (ga_C g) r (ga_l g r) i j else 0)
theorem gx_T_step (L : Nat → Int) (i j k : Nat) (l : Int) : gx_T g L i j k l = gx_T1 g L i j k l + gx_T g L i j k (l + 1) := by
  unfold gx_T gx_T1
  rw [← ga_sum_add]
  refine ga_sum_congr (fun r _ => ?_)
  by_cases h : L i ≤ ga_v g r
  · by_cases h1 : ga_v g r = l
    · rw [if_pos ⟨h, by omega⟩, if_pos ⟨h, h1⟩, if_neg (fun z => by have := z.2; omega)]; omega
    · by_cases h2 : l ≤ ga_v g r
      · rw [if_pos ⟨h, h2⟩, if_neg (fun z => h1 z.2), if_pos ⟨h, by omega⟩]; omega
      · rw [if_neg (fun z => h2 z.2), if_neg (fun z => h1 z.2), if_neg (fun z => by have := z.2; omega)]
  · rw [if_neg (fun z => h z.1), if_neg (fun z => h z.1), if_neg (fun z => h z.1)]
theorem gx_T_C (hg : ga_ok g) {L : Nat → Int} {i j : Nat} (h : j - i ≤ 39) {l : Int} (hl : L i ≤ l) : gx_T g L i j (ga_R g) l = ga_C g l i j := by
  rw [ga_C_eq hg h]
  unfold gx_T
  refine ga_sum_congr (fun r _ => ?_)
  by_cases h1 : l ≤ ga_v g r
  · rw [if_pos ⟨by omega, h1⟩, if_pos h1, ga_PS]
  · rw [if_neg (fun z => h1 z.2), if_neg h1]
theorem gx_109 {L : Nat → Int} {i j : Nat} (hij : i < j) (hj : j ≤ 30) (R : Nat) : ∀ (f : Nat) (l : Int) (τ : np_S), -1 ≤ l → l ≤ 9 → l + 1 < f → (∀ q : Nat, q ≤ 10 → (l < q → gx_tr τ i j q = ga_sat (gx_T g L i j R q)) ∧ ((q : Int) ≤ l → gx_tr τ i j q = ga_sat (gx_T1 g L i j R q))) → np_W (f_Chart_sumTerms_109 f ((gx_cel i j 0 : Nat) : Int) l τ) (fun o => gx_fr [14] τ o.2 ∧ gx_otr i j τ o.2 ∧ ∀ q : Nat, q ≤ 10 → gx_tr o.2 i j q = ga_sat (gx_T g L i j R q)) := by
  intro f
  induction f with
  | zero => intro l τ _ _ h; omega
  | succ f ih =>
    intro l τ l0 l9 hf hq
    show np_W (f_Chart_sumTerms_109_b _ _ l τ) _
    unfold f_Chart_sumTerms_109_b
    refine np_W_ck ⟨by omega, by omega⟩ ?_
    refine np_W_if (fun h => np_W_some ⟨gx_fr_refl _ _, fun _ _ _ _ _ _ => rfl, fun q q1 => (hq q q1).1 (by omega)⟩) (fun h => ?_)
    obtain ⟨m, hm⟩ : ∃ m : Nat, l = m := ⟨l.toNat, by omega⟩
    subst hm
    have b0 := gx_cel_lt hij hj (l := m) (by omega)
    have b1 := gx_cel_lt hij hj (l := m + 1) (by omega)
    have e1 := gx_cel_s i j m
    have e2 := gx_cel_s i j (m + 1)
    have e3 : ((gx_cel i j 0 : Nat) : Int) + (m : Int) + 1 = ((gx_cel i j (m + 1) : Nat) : Int) := by omega
    rw [e3, e1]
    refine np_W_ck ⟨by omega, by omega⟩ ?_
    have t1 := (hq (m + 1) (by omega)).1 (by omega)
    have t0 := (hq m (by omega)).2 (by omega)
    unfold gx_tr at t0 t1
    rw [t1, gx_add b0 (ga_sat_le _) (ga_sat_le _) t0]
    refine np_W_bind (np_W_some ?_)
    dsimp only
    refine np_W_mono (ih ((m : Int) + -1) _ (by omega) (by omega) (by omega) (fun q q1 => ?_)) (fun o ho => ⟨gx_fr_trans (gx_fr_st _ _ _ _) ho.1, gx_otr_trans (gx_otr_st hij (by omega) _ _) ho.2.1, ho.2.2⟩)
    rw [gx_tr_st hij hij (by omega) q1]
    by_cases e : q = m
    · subst e
      rw [if_pos ⟨rfl, rfl, rfl⟩]
      refine ⟨fun _ => ?_, fun z => by omega⟩
      have ec : ((q : Int) + 1) = ((q + 1 : Nat) : Int) := by omega
      rw [gx_T_step L i j R (q : Int), ec, ga_sat_add, ga_sat_addr]
    · rw [if_neg (fun z => e z.2.2)]
      exact ⟨fun z => (hq q q1).1 (by omega), fun z => (hq q q1).2 (by omega)⟩
theorem gx_37 {L : Nat → Int} {i j : Nat} (hij : i < j) (hj : j ≤ 30) : ∀ (f k : Nat) (τ : np_S), k ≤ ga_R g → ga_R g - k < f → gx_C g n τ → gx_full g L τ j → (∀ r, r < ga_R g → L i ≤ ga_v g r → 0 < ga_P g (ga_C g) r (ga_l g r) i j → gx_wy τ j r (ga_l g r) = ga_sat (ga_P g (ga_C g) r (ga_l g r) i j)) → (∀ q : Nat, q ≤ 10 → gx_tr τ i j q = ga_sat (gx_T1 g L i j k q)) → np_W (f_Chart_sumTerms_37 f i j ((gx_cel i j 0 : Nat) : Int) k τ) (fun o => gx_fr [14] τ o.2 ∧ gx_otr i j τ o.2 ∧ ∀ q : Nat, q ≤ 10 → gx_tr o.2 i j q = ga_sat (gx_T g L i j (ga_R g) q)) := by
  intro f
  induction f with
  | zero => intro k τ _ h; omega
  | succ f ih =>
    intro k τ hk hf hC hfull hwy hq
    obtain ⟨hp, n30, hR, hrow, htok⟩ := id hC
    have R14 := hp.2.2.1
    show np_W (f_Chart_sumTerms_37_b _ i j _ k τ) _
    unfold f_Chart_sumTerms_37_b f_Chart_sumTerms_99
    rw [hR]
    refine np_W_ck ⟨⟨by omega, by omega⟩, ⟨by omega, by omega⟩⟩ ?_
    refine np_W_if (fun h => ?_) (fun h => ?_)
    · have ek : k = ga_R g := by omega
      subst ek
      refine gx_109 hij hj _ 20000 9 τ (by omega) (by omega) (by omega) (fun q q1 => ⟨fun z => ?_, fun z => hq q q1⟩)
      have e10 : q = 10 := by omega
      subst e10
      rw [hq 10 (by omega)]
      congr 2
      rw [gx_T_step]
      have : gx_T g L i j (ga_R g) (((10 : Nat) : Int) + 1) = 0 := by
        unfold gx_T
        refine ga_sum_zero (fun r r1 => ?_)
        have := (hp.1 r r1).2.1
        rw [if_neg (fun z => by have := z.2; omega)]
      rw [this]; rfl
    · have hkR : k < ga_R g := by omega
      obtain ⟨hl, hv⟩ := gx_len hC hkR
      rw [gx_lastDot hC hkR]
      refine np_W_bind (np_W_some ?_)
      dsimp only
      have hbit := hfull k (ga_l g k) hkR (by omega)
      refine np_W_seq (gx_reach (by omega) (by omega) hbit) (fun o ho => ?_)
      obtain ⟨v, τ2⟩ := o
      obtain ⟨e, hb⟩ := ho
      dsimp only at e hb ⊢
      subst e
      have s1 : ∀ q : Int, gx_T1 g L i j (k + 1) q = gx_T1 g L i j k q + (if L i ≤ ga_v g k ∧ ga_v g k = q then ga_P g (ga_C g) k (ga_l g k) i j else 0) := fun q => rfl
      refine np_W_ck (gs_bo_R hb) ?_
      refine np_W_if (fun z => ?_) (fun z => ?_)
      · refine ih (k + 1) τ2 (by omega) (by omega) hC hfull hwy (fun q q1 => ?_)
        rw [hq q q1, s1]
        have : (if L i ≤ ga_v g k ∧ ga_v g k = (q : Int) then ga_P g (ga_C g) k (ga_l g k) i j else 0) = 0 := by
          by_cases y : L i ≤ ga_v g k ∧ ga_v g k = (q : Int)
          · rw [if_pos y]
            refine Classical.byContradiction (fun w => ?_)
            exact absurd z ((gs_bo_1 hb).mpr ⟨Nat.le_refl _, by omega, y.1, by omega⟩)
          · rw [if_neg y]
        rw [this]; rfl
      · obtain ⟨_, y1, y2, y3⟩ := (gs_bo_1 hb).mp z
        refine np_W_ck ⟨by omega, by omega⟩ ?_
        rw [(hrow k hkR).2.1]
        have e1 : (j : Int) * 98 + ((7 * k + ga_l g k : Nat) : Int) = ((98 * j + (7 * k + ga_l g k) : Nat) : Int) := by omega
        rw [e1]
        refine np_W_ck ⟨by omega, by omega⟩ ?_
        have hw := hwy k hkR y2 y3
        unfold gx_wy at hw
        rw [hw]
        obtain ⟨m, hm⟩ : ∃ m : Nat, ga_v g k = m := ⟨(ga_v g k).toNat, by omega⟩
        rw [hm, gx_cel_s]
        have t0 := hq m (by omega)
        unfold gx_tr at t0
        rw [gx_add (gx_cel_lt hij hj (by omega)) (ga_sat_le _) (ga_sat_le _) t0]
        refine np_W_bind (np_W_some ?_)
        dsimp only
        have fr := gx_fr_st τ2 14 ((gx_cel i j m : Nat) : Int) ((ga_sat (ga_sat (gx_T1 g L i j k m) + ga_sat (ga_P g (ga_C g) k (ga_l g k) i j)) : Nat) : Int)
        refine np_W_mono (ih (k + 1) _ (by omega) (by omega) (gx_C_fr hC (gx_fr_mono fr (by simp))) ?_ ?_ (fun q q1 => ?_)) (fun o ho => ⟨gx_fr_trans fr ho.1, gx_otr_trans (gx_otr_st hij (by omega) _ _) ho.2.1, ho.2.2⟩)
        · intro r d r1 d1
          unfold gx_at
          rw [fr 12 (by decide)]
          exact hfull r d r1 d1
        · intro r r1 r2 r3
          unfold gx_wy
          rw [fr 13 (by decide)]
          exact hwy r r1 r2 r3
        · rw [gx_tr_st hij hij (by omega) q1, s1, hm]
          by_cases e : q = m
          · rw [if_pos ⟨rfl, rfl, e⟩, if_pos ⟨by rw [← hm]; exact y2, by omega⟩, ga_sat_add, ga_sat_addr, e]
          · rw [if_neg (fun z => e z.2.2), if_neg (fun z => e (by omega)), hq q q1]; rfl
theorem gx_11 {L : Nat → Int} {i j : Nat} (hij : i < j) (hj : j ≤ 30) : ∀ (f k : Nat) (τ : np_S), k ≤ 11 → 11 - k < f → gx_C g n τ → gx_full g L τ j → (∀ r, r < ga_R g → L i ≤ ga_v g r → 0 < ga_P g (ga_C g) r (ga_l g r) i j → gx_wy τ j r (ga_l g r) = ga_sat (ga_P g (ga_C g) r (ga_l g r) i j)) → (∀ q : Nat, q < k → gx_tr τ i j q = 0) → np_W (f_Chart_sumTerms_11 f i j ((gx_cel i j 0 : Nat) : Int) k τ) (fun o => gx_fr [14] τ o.2 ∧ gx_otr i j τ o.2 ∧ ∀ q : Nat, q ≤ 10 → gx_tr o.2 i j q = ga_sat (gx_T g L i j (ga_R g) q)) := by
  intro f
  induction f with
  | zero => intro k τ _ h; omega
  | succ f ih =>
    intro k τ hk hf hC hfull hwy hq
    have R14 := hC.1.2.2.1
    show np_W (f_Chart_sumTerms_11_b _ i j _ k τ) _
    unfold f_Chart_sumTerms_11_b
    refine np_W_ck ⟨⟨by omega, by omega⟩, by decide⟩ ?_
    refine np_W_if (fun h => ?_) (fun h => ?_)
    · refine gx_37 hij hj 20000 0 τ (by omega) (by omega) hC hfull hwy (fun q q1 => ?_)
      rw [hq q (by omega)]; rfl
    · have b0 := gx_cel_lt hij hj (l := k) (by omega)
      rw [gx_cel_s]
      refine np_W_ck ⟨by omega, by omega⟩ ?_
      have fr := gx_fr_st τ 14 ((gx_cel i j k : Nat) : Int) 0
      refine np_W_mono (ih (k + 1) _ (by omega) (by omega) (gx_C_fr hC (gx_fr_mono fr (by simp))) ?_ ?_ (fun q q1 => ?_)) (fun o ho => ⟨gx_fr_trans fr ho.1, gx_otr_trans (gx_otr_st hij (by omega) _ _) ho.2.1, ho.2.2⟩)
      · intro r d r1 d1
        unfold gx_at
        rw [fr 12 (by decide)]
        exact hfull r d r1 d1
      · intro r r1 r2 r3
        unfold gx_wy
        rw [fr 13 (by decide)]
        exact hwy r r1 r2 r3
      · rw [gx_tr_st hij hij (by omega) (by omega)]
        by_cases e : q = k
        · rw [if_pos ⟨rfl, rfl, e⟩]
        · rw [if_neg (fun z => e z.2.2), hq q (by omega)]
theorem gx_sum {σ : np_S} {L : Nat → Int} {i j : Nat} (hij : i < j) (hj : j ≤ 30) (hC : gx_C g n σ) (hfull : gx_full g L σ j) (hwy : ∀ r, r < ga_R g → L i ≤ ga_v g r → 0 < ga_P g (ga_C g) r (ga_l g r) i j → gx_wy σ j r (ga_l g r) = ga_sat (ga_P g (ga_C g) r (ga_l g r) i j)) : np_W (f_Chart_sumTerms i j σ) (fun o => gx_fr [14] σ o.2 ∧ gx_otr i j σ o.2 ∧ ∀ q : Nat, q ≤ 10 → gx_tr o.2 i j q = ga_sat (gx_T g L i j (ga_R g) q)) := by
  unfold f_Chart_sumTerms
  have e := gx_cell hj i 0 σ
  rw [show ((0 : Nat) : Int) = 0 from rfl] at e
  rw [e]
  refine np_W_bind (np_W_some ?_)
  dsimp only
  exact gx_11 hij hj 20000 0 σ (by omega) (by omega) hC hfull hwy (fun q q1 => by omega)
end
