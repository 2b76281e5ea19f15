/-! the reference's tables: countTerms, count -/
section
variable {g : ga_G} {n : Nat}
theorem gy_C_split (hp : gx_p g) {l i j : Nat} (hl : l ≤ 10) (h : j - i ≤ 39) : ga_C g l i j = ga_S g (ga_C g) 0 (ga_l g 0) i j + ga_S g (ga_C g) 1 (ga_l g 1) i j + ga_sum (ga_R g - 2) (fun k => if (l : Int) ≤ ga_v g (k + 2) then ga_S g (ga_C g) (k + 2) (ga_l g (k + 2)) i j else 0) := by
  obtain ⟨hok, R2, _, b, c, _⟩ := hp
  rw [ga_C_eq hok h]
  obtain ⟨q, hq⟩ : ∃ q, ga_R g = q + 2 := ⟨ga_R g - 2, by omega⟩
  rw [hq, ga_sum_front, ga_sum_front, if_pos (by rw [b.2.1]; omega), if_pos (by rw [c.2.1]; omega), Nat.add_sub_cancel, ← Nat.add_assoc]
theorem gy_83 {i j l A0 : Nat} (hij : i < j) (hj : j ≤ n) (hl : l ≤ 10) {σ : np_S} (hM : gy_M g n σ) (hrw : ∀ k, k + 2 < ga_R g → gy_rw σ (7 * k) i j = ga_sat (ga_S g (ga_C g) (k + 2) (ga_l g (k + 2)) i j)) (hA0 : ga_sat A0 = ga_sat (ga_S g (ga_C g) 0 (ga_l g 0) i j + ga_S g (ga_C g) 1 (ga_l g 1) i j)) (bA0 : A0 ≤ 2000000) {k2 : Int → Int → Int → np_S → Option np_O} {Q : np_O → Prop} (hQ : np_W (k2 i j (((l + 1 : Nat)) : Int) (np_st σ 37 (((gy_ix l i j : Nat)) : Int) ((ga_sat (ga_C g l i j) : Nat) : Int))) Q) : ∀ (f k A : Nat), k ≤ ga_R g - 2 → ga_R g - 2 - k < f → A = A0 + ga_sum k (fun k => if (l : Int) ≤ ga_v g (k + 2) then ga_sat (ga_S g (ga_C g) (k + 2) (ga_l g (k + 2)) i j) else 0) → A ≤ 2000000 + k * 1000000 → np_W (f_M_countTerms_83 k2 f i j l A k σ) Q := by
  obtain ⟨hgp, n30, hC, hMM, e2, e11, hrow, hwd⟩ := id hM
  have R14 := hgp.2.2.1
  have R2 := hgp.2.1
  intro f
  induction f with
  | zero => intro k A _ h; omega
  | succ f ih =>
    intro k A hk hf eA bA
    show np_W (f_M_countTerms_83_b k2 _ i j l A k σ) _
    unfold f_M_countTerms_83_b f_M_countTerms_124
    have e2' : σ 29 2 = ((ga_R g - 2 : Nat) : Int) := by rw [e2]; omega
    rw [e2']
    refine np_W_ck ⟨⟨by omega, by omega⟩, ⟨by omega, by omega⟩⟩ ?_
    refine np_W_if (fun z => ?_) (fun z => ?_)
    · have ek : k = ga_R g - 2 := by omega
      subst ek
      rw [gy_cell]
      refine np_W_bind (np_W_some ?_)
      dsimp only
      rw [gy_less (by omega)]
      refine np_W_bind (np_W_some ?_)
      dsimp only
      have b37 : gy_ix l i j < 10571 := by unfold gy_ix; omega
      refine np_W_ck ⟨by omega, by omega⟩ ?_
      have e3 : (l : Int) + 1 = ((l + 1 : Nat) : Int) := by omega
      have e4 : ga_sat A = ga_sat (ga_C g l i j) := by
        rw [gy_C_split hgp hl (by omega), eA, ← ga_sat_add, hA0, ga_sat_add, ← ga_sat_addr]
        rw [ga_sat_sum (g := fun k => if (l : Int) ≤ ga_v g (k + 2) then ga_S g (ga_C g) (k + 2) (ga_l g (k + 2)) i j else 0) (fun k _ => ?_), ga_sat_addr]
        by_cases y : (l : Int) ≤ ga_v g (k + 2)
        · rw [if_pos y, if_pos y, ga_sat_sat]
        · rw [if_neg y, if_neg y]
      rw [e3, e4]
      exact hQ
    · have hk2 : k + 2 < ga_R g := by omega
      have hv := (hgp.1 (k + 2) hk2).2.1
      have e33 := (hrow k hk2).2.1
      have e5 : (k : Int) + 1 = ((k + 1 : Nat) : Int) := by omega
      rw [e5]
      have bk := ga_sat_le (ga_S g (ga_C g) (k + 2) (ga_l g (k + 2)) i j)
      refine np_W_ck ⟨by omega, by omega⟩ ?_
      refine np_W_ck ⟨by rw [e33]; exact ⟨by omega, by omega⟩, ⟨by omega, by omega⟩⟩ ?_
      refine np_W_if (fun y => ?_) (fun y => ?_)
      · rw [e33] at y
        have s0 : A = A0 + ga_sum (k + 1) (fun k => if (l : Int) ≤ ga_v g (k + 2) then ga_sat (ga_S g (ga_C g) (k + 2) (ga_l g (k + 2)) i j) else 0) := by
          rw [eA]
          show _ = A0 + (ga_sum k _ + (if (l : Int) ≤ ga_v g (k + 2) then _ else 0))
          rw [if_neg (by omega)]; rfl
        have s1 : A ≤ 2000000 + (k + 1) * 1000000 := Nat.le_trans bA (Nat.add_le_add_left (Nat.mul_le_mul_right _ (Nat.le_succ k)) _)
        exact ih (k + 1) A (by omega) (by omega) s0 s1
      · rw [e33] at y
        have e6 : 7 * (k : Int) = ((7 * k : Nat) : Int) := by omega
        rw [e6, gy_cell]
        refine np_W_bind (np_W_some ?_)
        dsimp only
        have b38 : gy_ix (7 * k) i j < 80724 := by unfold gy_ix; omega
        have er := hrw k hk2
        unfold gy_rw at er
        refine np_W_ck ⟨by omega, by omega⟩ ?_
        refine np_W_ck (by rw [er]; exact ⟨by omega, by omega⟩) ?_
        rw [er]
        have := ih (k + 1) (A + ga_sat (ga_S g (ga_C g) (k + 2) (ga_l g (k + 2)) i j)) (by omega) (by omega) ?_ (by omega)
        · rw [Int.natCast_add] at this
          exact this
        · rw [eA]
          show _ = A0 + (ga_sum k _ + (if (l : Int) ≤ ga_v g (k + 2) then _ else 0))
          rw [if_pos (by omega), Nat.add_assoc]
def gy_otm (i j : Nat) (σ τ : np_S) : Prop := ∀ l i2 j2 : Nat, i2 ≤ 30 → j2 ≤ 30 → ¬ (i2 = i ∧ j2 = j) → gy_tm τ l i2 j2 = gy_tm σ l i2 j2
theorem gy_ct {i j : Nat} (hij : i < j) (hj : j ≤ n) : ∀ (f l : Nat) (σ : np_S), l ≤ 11 → 11 - l < f → gy_M g n σ → (∀ k, k + 2 < ga_R g → gy_rw σ (7 * k) i j = ga_sat (ga_S g (ga_C g) (k + 2) (ga_l g (k + 2)) i j)) → (i + 2 < j → gy_tm σ 0 (i + 1) (j - 1) = ga_sat (ga_C g 0 (i + 1) (j - 1))) → (∀ q, q < l → gy_tm σ q i j = ga_sat (ga_C g q i j)) → np_W (f_M_countTerms_2 f i j l σ) (fun o => gx_fr [37] σ o.2 ∧ gy_otm i j σ o.2 ∧ ∀ q, q ≤ 10 → gy_tm o.2 q i j = ga_sat (ga_C g q i j)) := by
  intro f
  induction f with
  | zero => intro l σ _ h; omega
  | succ f ih =>
    intro l σ hl hf hM hrw htm hq
    obtain ⟨hgp, n30, hC, hMM, e2, e11, hrow, hwd⟩ := id hM
    have R14 := hgp.2.2.1
    have R2 := hgp.2.1
    show np_W (f_M_countTerms_2_b _ i j l σ) _
    unfold f_M_countTerms_2_b f_M_countTerms_27
    refine np_W_ck ⟨⟨by omega, by omega⟩, by decide⟩ ?_
    refine np_W_if (fun z => np_W_some ⟨gx_fr_refl _ _, fun _ _ _ _ _ _ => rfl, fun q q1 => hq q (by omega)⟩) (fun z => ?_)
    have next : np_W (f_M_countTerms_2 f i j (((l + 1 : Nat)) : Int) (np_st σ 37 (((gy_ix l i j : Nat)) : Int) ((ga_sat (ga_C g l i j) : Nat) : Int))) (fun o => gx_fr [37] σ o.2 ∧ gy_otm i j σ o.2 ∧ ∀ q, q ≤ 10 → gy_tm o.2 q i j = ga_sat (ga_C g q i j)) := by
      have fr := gx_fr_st σ 37 (((gy_ix l i j : Nat)) : Int) ((ga_sat (ga_C g l i j) : Nat) : Int)
      have ot : gy_otm i j σ (np_st σ 37 (((gy_ix l i j : Nat)) : Int) ((ga_sat (ga_C g l i j) : Nat) : Int)) := by
        intro l2 i2 j2 h1 h2 h3
        rw [gy_tm_st (by omega) (by omega) h1 h2, if_neg (fun y => h3 y.2)]
      refine np_W_mono (ih (l + 1) _ (by omega) (by omega) (gy_M_fr hM fr (by decide)) (fun k hk => ?_) (fun h => ?_) (fun q q1 => ?_)) (fun o ho => ⟨gx_fr_trans fr ho.1, fun l2 i2 j2 h1 h2 h3 => (ho.2.1 l2 i2 j2 h1 h2 h3).trans (ot l2 i2 j2 h1 h2 h3), ho.2.2⟩)
      · unfold gy_rw
        rw [fr 38 (by decide)]
        exact hrw k hk
      · rw [ot 0 (i + 1) (j - 1) (by omega) (by omega) (by omega)]
        exact htm h
      · rw [gy_tm_st (by omega) (by omega) (by omega) (by omega)]
        by_cases e : q = l
        · rw [if_pos ⟨e, rfl, rfl⟩, e]
        · rw [if_neg (fun y => e y.1)]
          exact hq q (by omega)
    have h80 : ∀ A0 : Nat, ga_sat A0 = ga_sat (ga_S g (ga_C g) 0 (ga_l g 0) i j + ga_S g (ga_C g) 1 (ga_l g 1) i j) → A0 ≤ 2000000 → np_W (f_M_countTerms_80 (fun x1 x2 x3 σ => f_M_countTerms_2 f x1 x2 x3 σ) i j l A0 σ) (fun o => gx_fr [37] σ o.2 ∧ gy_otm i j σ o.2 ∧ ∀ q, q ≤ 10 → gy_tm o.2 q i j = ga_sat (ga_C g q i j)) := by
      intro A0 hA bA
      unfold f_M_countTerms_80
      exact gy_83 hij hj (by omega) hM hrw hA bA next 20000 0 A0 (by omega) (by omega) rfl (by omega)
    have h28 : ∀ b : Nat, ga_S g (ga_C g) 1 (ga_l g 1) i j = b → b ≤ 1 → np_W (f_M_countTerms_28 (fun x1 x2 x3 σ => f_M_countTerms_2 f x1 x2 x3 σ) i j l b σ) (fun o => gx_fr [37] σ o.2 ∧ gy_otm i j σ o.2 ∧ ∀ q, q ≤ 10 → gy_tm o.2 q i j = ga_sat (ga_C g q i j)) := by
      intro b hb1 hb2
      have s0 := gy_S0 hgp i j
      have none : ¬ (i + 2 < j ∧ ga_t g i = 40 ∧ ga_t g (j - 1) = 41) → np_W (f_M_countTerms_80 (fun x1 x2 x3 σ => f_M_countTerms_2 f x1 x2 x3 σ) i j l b σ) (fun o => gx_fr [37] σ o.2 ∧ gy_otm i j σ o.2 ∧ ∀ q, q ≤ 10 → gy_tm o.2 q i j = ga_sat (ga_C g q i j)) := by
        intro hno
        rw [if_neg hno] at s0
        exact h80 b (by rw [s0, hb1, Nat.zero_add]) (by omega)
      unfold f_M_countTerms_28
      refine np_W_ck ⟨⟨by omega, by omega⟩, ⟨by omega, by omega⟩⟩ ?_
      refine np_W_if (fun y => none (fun q => by have := q.1; omega)) (fun y => ?_)
      refine np_W_seq (gy_is hM (i := i) (by omega) (c := 40) (by decide)) (fun o ho => ?_)
      obtain ⟨v, τ⟩ := o
      obtain ⟨e, hb⟩ := ho
      dsimp only at e hb ⊢
      subst e
      have w40 := (hwd i (by omega)).2.1
      refine np_W_ck (gs_bo_R hb) ?_
      refine np_W_if (fun y2 => none (fun q => (gs_bo_1 hb).mpr ⟨by omega, w40.mpr q.2.1⟩ y2)) (fun y2 => ?_)
      have t40 := w40.mp ((gs_bo_1 hb).mp y2).2
      have e1 : (j : Int) - 1 = ((j - 1 : Nat) : Int) := by omega
      rw [e1]
      refine np_W_seq (gy_is hM (i := j - 1) (by omega) (c := 41) (by decide)) (fun o ho => ?_)
      obtain ⟨v2, τ2⟩ := o
      obtain ⟨e, hb2'⟩ := ho
      dsimp only at e hb2' ⊢
      subst e
      have w41 := (hwd (j - 1) (by omega)).2.2.1
      refine np_W_ck (gs_bo_R hb2') ?_
      refine np_W_if (fun y3 => none (fun q => (gs_bo_1 hb2').mpr ⟨by omega, w41.mpr q.2.2⟩ y3)) (fun y3 => ?_)
      have t41 := w41.mp ((gs_bo_1 hb2').mp y3).2
      have e3 : (i : Int) + 1 = ((i + 1 : Nat) : Int) := by omega
      have ec := gy_cell 0 (i + 1) (j - 1) τ2
      rw [show ((0 : Nat) : Int) = 0 from rfl] at ec
      rw [e3, ec]
      refine np_W_bind (np_W_some ?_)
      dsimp only
      have b37 : gy_ix 0 (i + 1) (j - 1) < 10571 := by unfold gy_ix; omega
      have ht := htm (by omega)
      unfold gy_tm at ht
      have bs := ga_sat_le (ga_C g 0 (i + 1) (j - 1))
      refine np_W_ck ⟨by omega, by omega⟩ ?_
      refine np_W_ck (by rw [ht]; exact ⟨by omega, by omega⟩) ?_
      rw [ht]
      have := h80 (b + ga_sat (ga_C g 0 (i + 1) (j - 1))) ?_ (by omega)
      · rw [Int.natCast_add] at this
        exact this
      · rw [s0, if_pos ⟨by omega, t40, t41⟩, hb1, ga_sat_addr, Nat.add_comm]
    have s1 := gy_S1 hgp i j
    refine np_W_ck ⟨⟨by omega, by omega⟩, ⟨by omega, by omega⟩⟩ ?_
    refine np_W_if (fun y => h28 0 (by rw [s1, if_neg (fun q => by have := q.1; omega)]) (by omega)) (fun y => ?_)
    refine np_W_seq (gy_atom hM (i := i) (by omega)) (fun o ho => ?_)
    obtain ⟨v, τ⟩ := o
    obtain ⟨e, hb⟩ := ho
    dsimp only at e hb ⊢
    subst e
    refine np_W_ck (gs_bo_R hb) ?_
    refine np_W_if (fun y2 => h28 0 (by rw [s1, if_neg (fun q => (gs_bo_1 hb).mpr q.2 y2)]) (by omega)) (fun y2 => h28 1 (by rw [s1, if_pos ⟨by omega, (gs_bo_1 hb).mp y2⟩]) (by omega))
def gy_D (n w i0 i j : Nat) : Prop := i ≤ j ∧ j ≤ n ∧ (j - i < w ∨ (j - i = w ∧ i < i0))
def gy_tms (g : ga_G) (D : Nat → Nat → Prop) (σ : np_S) : Prop := ∀ l i j : Nat, l ≤ 10 → i ≤ 30 → j ≤ 30 → (D i j → gy_tm σ l i j = ga_sat (ga_C g l i j)) ∧ (¬ D i j → gy_tm σ l i j = 0)
def gy_rws (g : ga_G) (D : Nat → Nat → Prop) (σ : np_S) : Prop := ∀ i j : Nat, D i j → ∀ k p, k + 2 < ga_R g → p ≤ ga_l g (k + 2) → gy_rw σ (7 * k + p) i j = ga_sat (ga_S g (ga_C g) (k + 2) (ga_l g (k + 2) - p) i j)
theorem gy_129 {w i j k : Nat} (hij : i + w = j) (hj : j ≤ n) (hk : k + 2 < ga_R g) {k24 : Int → np_S → Option np_O} {k34 : Int → Int → np_S → Option np_O} {k111 : Int → Int → Int → Int → np_S → Option np_O} {Q : np_O → Prop} : ∀ (f p : Nat) (σ : np_S), p ≤ ga_l g (k + 2) → p < f → gy_M g n σ → gy_tms g (gy_D n w (i + 1)) σ → gy_rws g (gy_D n w i) σ → (∀ p2, p < p2 → p2 ≤ ga_l g (k + 2) → gy_rw σ (7 * k + p2) i j = ga_sat (ga_S g (ga_C g) (k + 2) (ga_l g (k + 2) - p2) i j)) → (∀ ρ, gx_fr [38] σ ρ → (∀ a i2 j2, i2 ≤ 30 → j2 ≤ 30 → ¬ (i2 = i ∧ j2 = j ∧ 7 * k < a ∧ a ≤ 7 * k + ga_l g (k + 2)) → gy_rw ρ a i2 j2 = gy_rw σ a i2 j2) → (∀ p2, 1 ≤ p2 → p2 ≤ ga_l g (k + 2) → gy_rw ρ (7 * k + p2) i j = ga_sat (ga_S g (ga_C g) (k + 2) (ga_l g (k + 2) - p2) i j)) → np_W (k111 w i j (((k + 1 : Nat)) : Int) ρ) Q) → np_W (f_M_count_129 k24 k34 k111 f w i j k p σ) Q := by
  intro f
  induction f with
  | zero => intro p σ _ h; omega
  | succ f ih =>
    intro p σ hp hf hM htm hrws hp2 hQ
    obtain ⟨hgp, n30, hC, hMM, e2, e11, hrow, hwd⟩ := id hM
    have R14 := hgp.2.2.1
    have hlen := (hgp.1 (k + 2) hk).1
    show np_W (f_M_count_129_b k24 k34 k111 _ w i j k p σ) _
    unfold f_M_count_129_b
    refine np_W_ck ⟨by omega, by omega⟩ ?_
    refine np_W_if (fun z => ?_) (fun z => ?_)
    · have e5 : (k : Int) + 1 = ((k + 1 : Nat) : Int) := by omega
      rw [e5]
      exact hQ σ (gx_fr_refl _ _) (fun _ _ _ _ _ _ => rfl) (fun p2 a b => hp2 p2 (by omega) b)
    · have e6 : 7 * (k : Int) + (p : Int) = ((7 * k + p : Nat) : Int) := by omega
      rw [e6, gy_cell]
      refine np_W_bind (np_W_some ?_)
      dsimp only
      refine np_W_seq (gy_ways hM hk hp (by omega) hj (fun pl m m1 m2 => ?_) (fun h pl eh m m1 m2 => ?_)) (fun o ho => ?_)
      · exact hrws m j ⟨m2, hj, by omega⟩ k (p + 1) hk (by omega)
      · have hh := (hgp.1 (k + 2) hk).2.2.1 p pl
        refine Or.inl ((htm h i m (by omega) (by omega) (by omega)).1 ⟨by omega, by omega, ?_⟩)
        by_cases e : m = j
        · right; omega
        · left; omega
      obtain ⟨v, τ⟩ := o
      obtain ⟨e, hv⟩ := ho
      dsimp only at e hv ⊢
      subst e
      have b38 : gy_ix (7 * k + p) i j < 80724 := by unfold gy_ix; omega
      refine np_W_ck ⟨by omega, by omega⟩ ?_
      obtain ⟨q, hq⟩ : ∃ q, p = q + 1 := ⟨p - 1, by omega⟩
      have e7 : (p : Int) + -1 = (q : Int) := by omega
      rw [e7]
      have fr := gx_fr_st τ 38 (((gy_ix (7 * k + p) i j : Nat)) : Int) v
      refine ih q _ (by omega) (by omega) (gy_M_fr hM fr (by decide)) (fun l i2 j2 l1 i3 j3 => ?_) (fun i2 j2 hD k2 p2 hk2 hp3 => ?_) (fun p2 a b => ?_) (fun ρ r1 r2 r3 => hQ ρ (gx_fr_trans fr r1) (fun a i2 j2 i3 j3 hn => ?_) r3)
      · unfold gy_tm
        rw [fr 37 (by decide)]
        exact htm l i2 j2 l1 i3 j3
      · rw [gy_rw_st (by omega) (by omega) (by have := hD.1; have := hD.2.1; omega) (by have := hD.2.1; omega), if_neg (fun y => by have := hD.2.2; omega)]
        exact hrws i2 j2 hD k2 p2 hk2 hp3
      · rw [gy_rw_st (by omega) (by omega) (by omega) (by omega)]
        by_cases e : p2 = p
        · rw [if_pos ⟨by rw [e], rfl, rfl⟩, hv, e]
        · rw [if_neg (fun y => e (by omega))]
          exact hp2 p2 (by omega) b
      · rw [r2 a i2 j2 i3 j3 hn, gy_rw_st (by omega) (by omega) i3 j3, if_neg (fun y => hn ⟨y.2.1, y.2.2, by omega, by omega⟩)]
theorem gy_111 {w i j : Nat} (hij : i + w = j) (hj : j ≤ n) {k24 : Int → np_S → Option np_O} {k34 : Int → Int → np_S → Option np_O} {Q : np_O → Prop} : ∀ (f k : Nat) (σ : np_S), k + 2 ≤ ga_R g → ga_R g - 2 - k < f → gy_M g n σ → gy_tms g (gy_D n w (i + 1)) σ → gy_rws g (gy_D n w i) σ → (∀ k2, k2 + 2 < ga_R g → gy_rw σ (7 * k2) i j = ga_sat (ga_S g (ga_C g) (k2 + 2) (ga_l g (k2 + 2)) i j)) → (∀ k2 p2, k2 < k → k2 + 2 < ga_R g → 1 ≤ p2 → p2 ≤ ga_l g (k2 + 2) → gy_rw σ (7 * k2 + p2) i j = ga_sat (ga_S g (ga_C g) (k2 + 2) (ga_l g (k2 + 2) - p2) i j)) → (∀ ρ, gx_fr [38] σ ρ → gy_tms g (gy_D n w (i + 1)) ρ → gy_rws g (gy_D n w (i + 1)) ρ → np_W (k34 w (((i + 1 : Nat)) : Int) ρ) Q) → np_W (f_M_count_111 k24 k34 f w i j k σ) Q := by
  intro f
  induction f with
  | zero => intro k σ _ h; omega
  | succ f ih =>
    intro k σ hk hf hM htm hrws h0 hd hQ
    obtain ⟨hgp, n30, hC, hMM, e2, e11, hrow, hwd⟩ := id hM
    have R14 := hgp.2.2.1
    show np_W (f_M_count_111_b k24 k34 _ w i j k σ) _
    unfold f_M_count_111_b
    have e2' : σ 29 2 = ((ga_R g - 2 : Nat) : Int) := by rw [e2]; omega
    rw [e2']
    refine np_W_ck ⟨⟨by omega, by omega⟩, ⟨by omega, by omega⟩⟩ ?_
    refine np_W_if (fun z => ?_) (fun z => ?_)
    · have e3 : (i : Int) + 1 = ((i + 1 : Nat) : Int) := by omega
      rw [e3]
      refine hQ σ (gx_fr_refl _ _) htm (fun i2 j2 hD k2 p2 hk2 hp2 => ?_)
      by_cases e : i2 = i ∧ j2 = j
      · obtain ⟨rfl, rfl⟩ := e
        by_cases ep : p2 = 0
        · subst ep; exact h0 k2 hk2
        · exact hd k2 p2 (by omega) hk2 (by omega) hp2
      · exact hrws i2 j2 ⟨hD.1, hD.2.1, by have := hD.1; have := hD.2.2; omega⟩ k2 p2 hk2 hp2
    · have hk2 : k + 2 < ga_R g := by omega
      have hlen := (hgp.1 (k + 2) hk2).1
      refine np_W_ck ⟨by omega, by omega⟩ ?_
      rw [(hrow k hk2).1]
      refine gy_129 hij hj hk2 20000 (ga_l g (k + 2)) σ (Nat.le_refl _) (by omega) hM htm hrws (fun p2 a b => by omega) (fun ρ r1 r2 r3 => ?_)
      refine ih (k + 1) ρ (by omega) (by omega) (gy_M_fr hM r1 (by decide)) (fun l i2 j2 l1 i3 j3 => ?_) (fun i2 j2 hD k2 p2 hk2 hp3 => ?_) (fun k2 a => ?_) (fun k2 p2 a1 a2 a3 a4 => ?_) (fun ρ2 s1 s2 s3 => hQ ρ2 (gx_fr_trans r1 s1) s2 s3)
      · unfold gy_tm
        rw [r1 37 (by decide)]
        exact htm l i2 j2 l1 i3 j3
      · rw [r2 _ i2 j2 (by have := hD.1; have := hD.2.1; omega) (by have := hD.2.1; omega) (fun y => by have := hD.2.2; omega)]
        exact hrws i2 j2 hD k2 p2 hk2 hp3
      · rw [r2 _ i j (by omega) (by omega) (fun y => by omega)]
        exact h0 k2 a
      · by_cases e : k2 = k
        · subst e; exact r3 p2 a3 a4
        · have := (hgp.1 (k2 + 2) a2).1
          rw [r2 _ i j (by omega) (by omega) (fun y => by omega)]
          exact hd k2 p2 (by omega) a2 a3 a4
theorem gy_51 {w i j : Nat} (hij : i + w = j) (hj : j ≤ n) {k24 : Int → np_S → Option np_O} {k34 : Int → Int → np_S → Option np_O} {Q : np_O → Prop} : ∀ (f k : Nat) (σ : np_S), k + 2 ≤ ga_R g → ga_R g - 2 - k < f → gy_M g n σ → gy_tms g (gy_D n w i) σ → gy_rws g (gy_D n w i) σ → (∀ k2, k2 < k → k2 + 2 < ga_R g → gy_rw σ (7 * k2) i j = ga_sat (ga_S g (ga_C g) (k2 + 2) (ga_l g (k2 + 2)) i j)) → (∀ ρ, gx_fr [37, 38] σ ρ → gy_tms g (gy_D n w (i + 1)) ρ → gy_rws g (gy_D n w (i + 1)) ρ → np_W (k34 w (((i + 1 : Nat)) : Int) ρ) Q) → np_W (f_M_count_51 k24 k34 f w i j k σ) Q := by
  intro f
  induction f with
  | zero => intro k σ _ h; omega
  | succ f ih =>
    intro k σ hk hf hM htm hrws h0 hQ
    obtain ⟨hgp, n30, hC, hMM, e2, e11, hrow, hwd⟩ := id hM
    have R14 := hgp.2.2.1
    show np_W (f_M_count_51_b k24 k34 _ w i j k σ) _
    unfold f_M_count_51_b f_M_count_108 f_M_count_91
    have e2' : σ 29 2 = ((ga_R g - 2 : Nat) : Int) := by rw [e2]; omega
    rw [e2']
    refine np_W_ck ⟨⟨by omega, by omega⟩, ⟨by omega, by omega⟩⟩ ?_
    refine np_W_if (fun z => ?_) (fun z => ?_)
    · refine np_W_ck ⟨by omega, by omega⟩ ?_
      refine np_W_if (fun zw => ?_) (fun zw => ?_)
      · have w0 : w = 0 := by omega
        refine gy_111 hij hj 20000 0 σ (by have := hgp.2.1; omega) (by omega) hM (fun l i2 j2 l1 i3 j3 => ⟨fun hD => ?_, fun hD => (htm l i2 j2 l1 i3 j3).2 (fun y => hD ⟨y.1, y.2.1, by have := y.2.2; omega⟩)⟩) hrws (fun k2 a => h0 k2 (by omega) a) (fun k2 p2 a => by omega) (fun ρ r1 r2 r3 => hQ ρ (gx_fr_mono r1 (by simp)) r2 r3)
        by_cases e : i2 = i
        · have e2 : j2 = i2 := by have := hD.1; have := hD.2.2; omega
          rw [(htm l i2 j2 l1 i3 j3).2 (fun y => by have := y.2.2; omega), ga_C_ge hgp.1 (by omega)]; rfl
        · exact (htm l i2 j2 l1 i3 j3).1 ⟨hD.1, hD.2.1, by have := hD.2.2; omega⟩
      · unfold f_M_countTerms
        refine np_W_seq (gy_ct (i := i) (j := j) (by omega) hj 20000 0 σ (by omega) (by omega) hM (fun k2 a => h0 k2 (by omega) a) (fun h => (htm 0 (i + 1) (j - 1) (by omega) (by omega) (by omega)).1 ⟨by omega, by omega, by omega⟩) (fun q a => by omega)) (fun o ho => ?_)
        obtain ⟨v, τ⟩ := o
        obtain ⟨a1, a2, a3⟩ := ho
        dsimp only at a1 a2 a3 ⊢
        have rw38 : ∀ a i2 j2, gy_rw τ a i2 j2 = gy_rw σ a i2 j2 := fun a i2 j2 => by unfold gy_rw; rw [a1 38 (by decide)]
        refine gy_111 hij hj 20000 0 τ (by have := hgp.2.1; omega) (by omega) (gy_M_fr hM a1 (by decide)) (fun l i2 j2 l1 i3 j3 => ?_) (fun i2 j2 hD k2 p2 hk2 hp3 => by rw [rw38]; exact hrws i2 j2 hD k2 p2 hk2 hp3) (fun k2 a => by rw [rw38]; exact h0 k2 (by omega) a) (fun k2 p2 a => by omega) (fun ρ r1 r2 r3 => hQ ρ (gx_fr_trans (gx_fr_mono a1 (by simp)) (gx_fr_mono r1 (by simp))) r2 r3)
        by_cases e : i2 = i ∧ j2 = j
        · obtain ⟨rfl, rfl⟩ := e
          exact ⟨fun _ => a3 l l1, fun y => absurd ⟨by omega, hj, by omega⟩ y⟩
        · rw [a2 l i2 j2 i3 j3 e]
          exact ⟨fun hD => (htm l i2 j2 l1 i3 j3).1 ⟨hD.1, hD.2.1, by have := hD.1; have := hD.2.2; omega⟩, fun hD => (htm l i2 j2 l1 i3 j3).2 (fun y => hD ⟨y.1, y.2.1, by have := y.2.2; omega⟩)⟩
    · have hk2 : k + 2 < ga_R g := by omega
      have hlen := (hgp.1 (k + 2) hk2).1
      have e6 : 7 * (k : Int) = ((7 * k : Nat) : Int) := by omega
      have e5 : (k : Int) + 1 = ((k + 1 : Nat) : Int) := by omega
      rw [e6, gy_cell]
      refine np_W_bind (np_W_some ?_)
      dsimp only
      have b38 : gy_ix (7 * k) i j < 80724 := by unfold gy_ix; omega
      have put : ∀ v : Int, v = ga_sat (ga_S g (ga_C g) (k + 2) (ga_l g (k + 2)) i j) → np_W (np_ck ((0 : Int) ≤ ((gy_ix (7 * k) i j : Nat) : Int) ∧ ((gy_ix (7 * k) i j : Nat) : Int) < 80724) (f_M_count_51 k24 k34 f w i j ((k : Int) + 1) (np_st σ 38 (((gy_ix (7 * k) i j : Nat)) : Int) v))) Q := by
        intro v hv
        refine np_W_ck ⟨by omega, by omega⟩ ?_
        rw [e5]
        have fr := gx_fr_st σ 38 (((gy_ix (7 * k) i j : Nat)) : Int) v
        refine ih (k + 1) _ (by omega) (by omega) (gy_M_fr hM fr (by decide)) (fun l i2 j2 l1 i3 j3 => ?_) (fun i2 j2 hD k2 p2 hk2 hp3 => ?_) (fun k2 a b => ?_) (fun ρ r1 r2 r3 => hQ ρ (gx_fr_trans (gx_fr_mono fr (by simp)) r1) r2 r3)
        · unfold gy_tm
          rw [fr 37 (by decide)]
          exact htm l i2 j2 l1 i3 j3
        · rw [gy_rw_st (by omega) (by omega) (by have := hD.1; have := hD.2.1; omega) (by have := hD.2.1; omega), if_neg (fun y => by have := hD.2.2; omega)]
          exact hrws i2 j2 hD k2 p2 hk2 hp3
        · rw [gy_rw_st (by omega) (by omega) (by omega) (by omega)]
          by_cases e : k2 = k
          · subst e
            rw [if_pos ⟨rfl, rfl, rfl⟩, hv]
          · rw [if_neg (fun y => e (by omega))]
            exact h0 k2 (by omega) b
      refine np_W_ck ⟨by omega, by omega⟩ ?_
      refine np_W_if (fun zw => ?_) (fun zw => ?_)
      · have ez : (0 : Int) = ((0 : Nat) : Int) := rfl
        rw [ez]
        refine np_W_seq (gy_ways hM hk2 (p := 0) (by omega) (by omega) hj (fun pl m m1 m2 => ?_) (fun h pl eh m m1 m2 => ?_)) (fun o ho => ?_)
        · exact hrws m j ⟨m2, hj, by omega⟩ k (0 + 1) hk2 (by omega)
        · have hh := (hgp.1 (k + 2) hk2).2.2.1 0 pl
          by_cases e : m = j
          · subst e
            refine Or.inr ⟨(htm h i m (by omega) (by omega) (by omega)).2 (fun y => by have := y.2.2; omega), ga_S_kk _ _ ?_⟩
            obtain ⟨d2, f1, f2⟩ := (hgp.1 (k + 2) hk2).2.2.2.2
            have : d2 ≠ 0 := by
              intro y
              rw [y, eh] at f2
              omega
            omega
          · exact Or.inl ((htm h i m (by omega) (by omega) (by omega)).1 ⟨by omega, by omega, by omega⟩)
        obtain ⟨v, τ⟩ := o
        obtain ⟨e, hv⟩ := ho
        dsimp only at e hv ⊢
        subst e
        exact put v hv
      · have w0 : w = 0 := by omega
        refine put 0 ?_
        have : i = j := by omega
        subst this
        rw [ga_S_kk _ _ (by omega)]; rfl
end
