/-! counting the trees: countFrom, countTrees, isWhole -/
section
variable {g : ga_G} {n : Nat}
theorem gx_ch_fr {L : Nat → Int} {j : Nat} {σ τ : np_S} (h : gx_ch g L j σ) (k : τ 12 = σ 12) : gx_ch g L j τ := by
  obtain ⟨a, b, c, d, e⟩ := h
  refine ⟨a, b, c, d, fun i hi r d2 hr hd => ?_⟩
  unfold gx_at
  rw [k]
  exact e i hi r d2 hr hd
def gx_cf (g : ga_G) (L : Nat → Int) (n i j : Nat) (σ : np_S) : Prop := gx_C g n σ ∧ gx_ch g L n σ ∧ (∀ m, i ≤ m → m < j → gx_wok g L i m σ) ∧ gx_tok g L n (i + 1) σ ∧ ∀ j2 q : Nat, i < j2 → j2 < j → q ≤ 10 → L i ≤ q → gx_tr σ i j2 q = ga_sat (ga_C g q i j2)
theorem gx_46 {L : Nat → Int} {i j : Nat} (hij : i < j) (hj : j ≤ n) {k38 : Int → Int → Int → np_S → Option np_O} {Q : np_O → Prop} : ∀ (f k : Nat) (σ : np_S), k ≤ ga_R g → ga_R g - k < f → gx_cf g L n i j σ → (∀ r d2, r < k → 1 ≤ d2 → d2 ≤ ga_l g r → (2 ≤ d2 ∨ ga_h g r 0 = -1) → L i ≤ ga_v g r → 0 < ga_P g (ga_C g) r d2 i j → gx_wy σ j r d2 = ga_sat (ga_P g (ga_C g) r d2 i j)) → (∀ ρ, gx_fr [13, 14] σ ρ → (∀ i2 j2 l : Nat, i2 < j2 → l ≤ 10 → i2 ≠ i → gx_tr ρ i2 j2 l = gx_tr σ i2 j2 l) → gx_cf g L n i (j + 1) ρ → np_W (k38 i n (((j + 1 : Nat)) : Int) ρ) Q) → np_W (f_Chart_countFrom_46 k38 f i n j k σ) Q := by
  intro f
  induction f with
  | zero => intro k σ _ h; omega
  | succ f ih =>
    intro k σ hk hf hcf hd hQ
    obtain ⟨hC, hch, hw, ht, hT⟩ := id hcf
    obtain ⟨hp, n30, hR, hrow, htok⟩ := id hC
    have R14 := hp.2.2.1
    obtain ⟨hA, hB, hL0, hLn, hfull⟩ := id hch
    show np_W (f_Chart_countFrom_46_b k38 _ i n j k σ) _
    unfold f_Chart_countFrom_46_b
    rw [hR]
    refine np_W_ck ⟨⟨by omega, by omega⟩, ⟨by omega, by omega⟩⟩ ?_
    refine np_W_if (fun z => ?_) (fun z => ?_)
    · have ek : k = ga_R g := by omega
      subst ek
      refine np_W_seq (gx_sum hij (by omega) hC (hfull j hj) (fun r r1 r2 r3 => ?_)) (fun o ho => ?_)
      · have hl := (hp.1 r r1).1
        refine hd r (ga_l g r) r1 (by omega) (Nat.le_refl _) ?_ r2 r3
        by_cases e : 2 ≤ ga_l g r
        · exact Or.inl e
        · obtain ⟨d2, e1, e2⟩ := (hp.1 r r1).2.2.2.2
          have : d2 = 0 := by omega
          rw [this] at e2
          exact Or.inr e2
      obtain ⟨v, τ⟩ := o
      obtain ⟨a1, a2, a3⟩ := ho
      dsimp only at a1 a2 a3 ⊢
      have hC2 := gx_C_fr hC (gx_fr_mono a1 (by simp))
      refine np_W_seq (gx_fh_l hij (by omega) 20000 0 τ (by omega) (by omega) hC2) (fun o ho => ?_)
      obtain ⟨v2, ρ⟩ := o
      obtain ⟨b1, b2, b3⟩ := ho
      dsimp only at b1 b2 b3 ⊢
      have e1 : (j : Int) + 1 = ((j + 1 : Nat) : Int) := by omega
      rw [e1]
      have w13 : ∀ m r d, gx_wy τ m r d = gx_wy σ m r d := fun m r d => by unfold gx_wy; rw [a1 13 (by decide)]
      have t14 : ∀ i2 j2 l, gx_tr ρ i2 j2 l = gx_tr τ i2 j2 l := fun i2 j2 l => by unfold gx_tr; rw [b1 14 (by decide)]
      refine hQ ρ (gx_fr_trans (gx_fr_mono a1 (by simp)) (gx_fr_mono b1 (by simp))) (fun i2 j2 l h1 h2 h3 => ?_) ⟨gx_C_fr hC2 (gx_fr_mono b1 (by simp)), gx_ch_fr (gx_ch_fr hch (a1 12 (by decide))) (b1 12 (by decide)), fun m m1 m2 r d r1 d1 hv pos => ?_, fun i2 c1 c2 c3 j2 q c4 c5 c6 c7 => ?_, fun j2 q c1 c2 c3 c4 => ?_⟩
      · rw [t14, a2 i2 j2 l h1 h2 (fun y => h3 y.1)]
      · have hl := (hp.1 r r1).1
        by_cases em : m = j
        · subst em
          by_cases ed : d = 1 ∧ ga_h g r 0 ≠ -1
          · obtain ⟨ed1, ed2⟩ := ed
            subst ed1
            have hh := (hp.1 r r1).2.2.1 0 (by omega)
            obtain ⟨h0, eh⟩ : ∃ h : Nat, ga_h g r 0 = h := ⟨(ga_h g r 0).toNat, by omega⟩
            have hLi := hB i i r 0 (Nat.le_refl _) (by omega) r1 (by omega) hv (by rw [ga_P, if_pos rfl]; omega) ed2
            rw [b3 r h0 (by omega) r1 eh, a3 h0 (by omega), gx_T_C hp.1 (by omega) (by omega), gx_P1 (L := L) hij ed2, eh]
          · have hpos := ga_P_len _ _ _ pos
            have d1' : 1 ≤ d := by
              refine Classical.byContradiction (fun y => ?_)
              have d0 : d = 0 := by omega
              rw [d0, ga_P, if_neg (by omega)] at pos
              omega
            rw [b2 m r d (by omega) (by omega) (fun y => ed ⟨y.2.1, y.2.2.2.2⟩), w13]
            refine hd r d r1 d1' d1 ?_ hv pos
            by_cases e : d = 1
            · exact Or.inr (Classical.byContradiction (fun y => ed ⟨e, y⟩))
            · exact Or.inl (by omega)
        · rw [b2 m r d (by omega) (by omega) (fun y => em y.1), w13]
          exact hw m m1 (by omega) r d r1 d1 hv pos
      · rw [t14, a2 i2 j2 q c4 c6 (fun y => by have := y.1; omega)]
        exact ht i2 c1 c2 c3 j2 q c4 c5 c6 c7
      · rw [t14]
        by_cases e : j2 = j
        · subst e
          rw [a3 q c3, gx_T_C hp.1 (by omega) c4]
        · rw [a2 i j2 q c1 c3 (fun y => e y.2)]
          exact hT j2 q c1 (by omega) c3 c4
    · have hkR : k < ga_R g := by omega
      have e1 : (k : Int) + 1 = ((k + 1 : Nat) : Int) := by omega
      refine np_W_seq (gx_rule hij hj hkR hC hch hw ht) (fun o ho => ?_)
      obtain ⟨v, τ⟩ := o
      obtain ⟨a1, a2, a3⟩ := ho
      dsimp only at a1 a2 a3 ⊢
      rw [e1]
      have t14 : ∀ i2 j2 l, gx_tr τ i2 j2 l = gx_tr σ i2 j2 l := fun i2 j2 l => by unfold gx_tr; rw [a1 14 (by decide)]
      refine ih (k + 1) τ (by omega) (by omega) ⟨gx_C_fr hC (gx_fr_mono a1 (by simp)), gx_ch_fr hch (a1 12 (by decide)), fun m m1 m2 r d r1 d1 hv pos => ?_, fun i2 c1 c2 c3 j2 q c4 c5 c6 c7 => ?_, fun j2 q c1 c2 c3 c4 => ?_⟩ (fun r d2 c1 c2 c3 c4 c5 c6 => ?_) (fun ρ r1 r2 r3 => hQ ρ (gx_fr_trans (gx_fr_mono a1 (by simp)) r1) (fun i2 j2 l h1 h2 h3 => by rw [r2 i2 j2 l h1 h2 h3, t14]) r3)
      · have hl := (hp.1 r r1).1
        rw [a2 m r d (by omega) (by omega) (by omega)]
        exact hw m m1 m2 r d r1 d1 hv pos
      · rw [t14]; exact ht i2 c1 c2 c3 j2 q c4 c5 c6 c7
      · rw [t14]; exact hT j2 q c1 c2 c3 c4
      · by_cases e : r = k
        · subst e
          exact a3 d2 c2 c3 c4 c5 c6
        · have hl := (hp.1 r (by omega)).1
          rw [a2 j r d2 (by omega) (by omega) (fun y => e y.2)]
          exact hd r d2 (by omega) c2 c3 c4 c5 c6
theorem gx_38 {L : Nat → Int} {i : Nat} (hi : i < n) : ∀ (f j : Nat) (σ : np_S), i < j → j ≤ n + 1 → n + 1 - j < f → gx_cf g L n i j σ → np_W (f_Chart_countFrom_38 f i n j σ) (fun o => gx_fr [13, 14] σ o.2 ∧ gx_cf g L n i (n + 1) o.2) := by
  intro f
  induction f with
  | zero => intro j σ _ _ h; omega
  | succ f ih =>
    intro j σ hij hj hf hcf
    have n30 := hcf.1.2.1
    show np_W (f_Chart_countFrom_38_b _ i n j σ) _
    unfold f_Chart_countFrom_38_b
    refine np_W_ck ⟨⟨by omega, by omega⟩, ⟨by omega, by omega⟩⟩ ?_
    refine np_W_if (fun z => ?_) (fun z => ?_)
    · have e : j = n + 1 := by omega
      subst e
      exact np_W_some ⟨gx_fr_refl _ _, hcf⟩
    · refine gx_46 hij (by omega) 20000 0 σ (by omega) (by have := hcf.1.1.2.2.1; omega) hcf (fun r d2 a => by omega) (fun ρ r1 _ r3 => ?_)
      exact np_W_mono (ih (j + 1) ρ (by omega) (by omega) (by omega) r3) (fun o ho => ⟨gx_fr_trans r1 ho.1, ho.2⟩)
theorem gx_cf_2 {L : Nat → Int} {i : Nat} (hi : i < n) : ∀ (f k : Nat) (σ : np_S), k ≤ ga_R g → ga_R g - k < f → gx_C g n σ → gx_ch g L n σ → gx_tok g L n (i + 1) σ → (∀ r, r < k → gx_wy σ i r 0 = 1) → np_W (f_Chart_countFrom_2 f i n k σ) (fun o => gx_fr [13, 14] σ o.2 ∧ gx_cf g L n i (n + 1) o.2) := by
  intro f
  induction f with
  | zero => intro k σ _ h; omega
  | succ f ih =>
    intro k σ hk hf hC hch ht hw
    obtain ⟨hp, n30, hR, hrow, htok⟩ := id hC
    have R14 := hp.2.2.1
    show np_W (f_Chart_countFrom_2_b _ i n k σ) _
    unfold f_Chart_countFrom_2_b
    rw [hR]
    refine np_W_ck ⟨⟨by omega, by omega⟩, ⟨by omega, by omega⟩⟩ ?_
    refine np_W_if (fun z => ?_) (fun z => ?_)
    · have e1 : (i : Int) + 1 = ((i + 1 : Nat) : Int) := by omega
      rw [e1]
      refine gx_38 hi 20000 (i + 1) σ (by omega) (by omega) (by omega) ⟨hC, hch, fun m m1 m2 r d r1 d1 hv pos => ?_, ht, fun j2 q c1 c2 => by omega⟩
      have em : m = i := by omega
      subst em
      have hl := ga_P_len _ _ _ pos
      have d0 : d = 0 := by omega
      subst d0
      rw [hw r (by omega), ga_P, if_pos rfl]
      rfl
    · have e1 : (i : Int) * 98 + (k : Int) * 7 = ((98 * i + (7 * k + 0) : Nat) : Int) := by omega
      have e2 : (k : Int) + 1 = ((k + 1 : Nat) : Int) := by omega
      rw [e1, e2]
      refine np_W_ck ⟨by omega, by omega⟩ ?_
      have fr := gx_fr_st σ 13 (((98 * i + (7 * k + 0) : Nat)) : Int) 1
      refine np_W_mono (ih (k + 1) _ (by omega) (by omega) (gx_C_fr hC (gx_fr_mono fr (by simp))) (gx_ch_fr hch (fr 12 (by decide))) (fun i2 c1 c2 c3 j2 q c4 c5 c6 c7 => ?_) (fun r r1 => ?_)) (fun o ho => ⟨gx_fr_trans (gx_fr_mono fr (by simp)) ho.1, ho.2⟩)
      · unfold gx_tr
        rw [fr 14 (by decide)]
        exact ht i2 c1 c2 c3 j2 q c4 c5 c6 c7
      · rw [gx_wy_st (by omega) (by omega) (by omega) (by omega)]
        by_cases e : r = k
        · rw [if_pos ⟨rfl, e, rfl⟩]
        · rw [if_neg (fun y => e y.2.1)]
          exact hw r (by omega)
theorem gx_ct_l {L : Nat → Int} : ∀ (f s : Nat) (σ : np_S), s ≤ n → s < f → gx_C g n σ → gx_ch g L n σ → gx_tok g L n s σ → np_W (f_Chart_countTrees_4 f n ((s : Int) - 1) σ) (fun o => gx_fr [13, 14] σ o.2 ∧ gx_tok g L n 0 o.2 ∧ (1 ≤ n → o.1 = ga_sat (ga_C g 0 0 n))) := by
  intro f
  induction f with
  | zero => intro s σ _ h; omega
  | succ f ih =>
    intro s σ hs hf hC hch ht
    obtain ⟨hp, n30, hR, hrow, htok⟩ := id hC
    have R14 := hp.2.2.1
    obtain ⟨hA, hB, hL0, hLn, hfull⟩ := id hch
    show np_W (f_Chart_countTrees_4_b _ n ((s : Int) - 1) σ) _
    unfold f_Chart_countTrees_4_b f_Chart_countTrees_52 f_Chart_countTrees_25
    refine np_W_ck ⟨by omega, by omega⟩ ?_
    refine np_W_if (fun z => ?_) (fun z => ?_)
    · have e0 : s = 0 := by omega
      subst e0
      refine np_W_ck ⟨⟨by omega, by omega⟩, by decide⟩ ?_
      refine np_W_if (fun z1 => ?_) (fun z1 => np_W_some ⟨gx_fr_refl _ _, ht, fun y => by omega⟩)
      have ec := gx_cell (j := n) n30 0 0 σ
      rw [show ((0 : Nat) : Int) = 0 from rfl] at ec
      rw [ec]
      refine np_W_bind (np_W_some ?_)
      dsimp only
      have b := gx_cel_lt (i := 0) (j := n) (l := 0) (by omega) n30 (by omega)
      refine np_W_ck ⟨by omega, by omega⟩ ?_
      exact np_W_some ⟨gx_fr_refl _ _, ht, fun _ => ht 0 (by omega) (by omega) (by omega) n 0 (by omega) (by omega) (by omega) hL0⟩
    · obtain ⟨i, hi⟩ : ∃ i, s = i + 1 := ⟨s - 1, by omega⟩
      subst hi
      have e1 : (((i + 1 : Nat)) : Int) - 1 = (i : Int) := by omega
      have e2 : (i : Int) + -1 = (i : Int) - 1 := by omega
      rw [e1, e2]
      have R2 := hp.2.1
      have hbit := hfull i (by omega) 1 0 (by omega) (by omega)
      have hv1 := hp.2.2.2.2.1.2.1
      refine np_W_seq (gx_reach (i := i) (j := i) (q := 7) (by omega) (by omega) hbit) (fun o ho => ?_)
      obtain ⟨v, τ⟩ := o
      obtain ⟨e, hb⟩ := ho
      dsimp only at e hb ⊢
      subst e
      refine np_W_ck (gs_bo_R hb) ?_
      refine np_W_if (fun y => ?_) (fun y => ?_)
      · refine ih i τ (by omega) (by omega) hC hch (fun i2 c1 c2 c3 => ?_)
        by_cases e : i2 = i
        · subst e
          exact absurd y ((gs_bo_1 hb).mpr ⟨by omega, Nat.le_refl _, by rw [hv1]; exact c3, by rw [ga_P, if_pos rfl]; omega⟩)
        · exact ht i2 (by omega) c2 c3
      · unfold f_Chart_countFrom
        refine np_W_seq (gx_cf_2 (L := L) (i := i) (by omega) 20000 0 τ (by omega) (by omega) hC hch ht (fun r a => by omega)) (fun o ho => ?_)
        obtain ⟨v2, ρ⟩ := o
        obtain ⟨a1, b1, b2, b3, b4, b5⟩ := ho
        dsimp only at a1 b1 b2 b3 b4 b5 ⊢
        refine np_W_mono (ih i ρ (by omega) (by omega) b1 b2 (fun i2 c1 c2 c3 j2 q c4 c5 c6 c7 => ?_)) (fun o ho => ⟨gx_fr_trans a1 ho.1, ho.2⟩)
        by_cases e : i2 = i
        · subst e
          exact b5 j2 q c4 (by omega) c6 c7
        · exact b4 i2 (by omega) c2 c3 j2 q c4 c5 c6 c7
theorem gx_count {σ : np_S} {L : Nat → Int} (hC : gx_C g n σ) (hch : gx_ch g L n σ) : np_W (f_Chart_countTrees n σ) (fun o => gx_fr [13, 14] σ o.2 ∧ gx_tok g L n 0 o.2 ∧ (1 ≤ n → o.1 = ga_sat (ga_C g 0 0 n))) :=
  gx_ct_l 20000 n σ (Nat.le_refl _) (by have := hC.2.1; omega) hC hch (fun i c1 c2 => by omega)
theorem gx_whole {σ : np_S} {L : Nat → Int} (hC : gx_C g n σ) (hch : gx_ch g L n σ) : np_W (f_Chart_isWhole n σ) (fun o => o.2 = σ ∧ gs_bo o.1 (0 < ga_C g 0 0 n)) := by
  obtain ⟨hp, n30, hR, hrow, htok⟩ := id hC
  obtain ⟨hA, hB, hL0, hLn, hfull⟩ := id hch
  unfold f_Chart_isWhole f_Chart_isWhole_15
  have hh := gx_high (i := 0) (j := n) (by omega) n30 hC (Q := fun r i => ga_l g r ≤ ga_l g r ∧ gx_it g L n r (ga_l g r) i) (fun r r1 => hfull n (Nat.le_refl _) r (ga_l g r) r1 (by have := (hp.1 r r1).1; omega))
  rw [show ((0 : Nat) : Int) = 0 from rfl] at hh
  refine np_W_seq hh (fun o ho => ?_)
  obtain ⟨H, τ⟩ := o
  obtain ⟨e, hH⟩ := ho
  dsimp only at e hH ⊢
  subst e
  have hHR : np_R H := by
    rcases hH.1 with z | ⟨r, r1, _, z⟩
    · rw [z]; decide
    · have := (gx_len hC (r := r) (by omega)).2
      exact ⟨by omega, by omega⟩
  have key : H ≠ -1 ↔ 0 < ga_C g 0 0 n := by
    rw [ga_C_pos hp.1 (by omega)]
    constructor
    · intro z
      rcases hH.1 with y | ⟨r, r1, r2, y⟩
      · exact absurd y z
      · exact ⟨r, r1, (hp.1 r r1).2.1.1, r2.2.2.2⟩
    · rintro ⟨r, r1, r2, r3⟩
      have := hH.2 r r1 ⟨Nat.le_refl _, by omega, by omega, r3⟩
      omega
  refine np_W_ck ⟨hHR, by decide⟩ ?_
  refine np_W_if (fun z => np_W_ck (by decide) (np_W_some ⟨rfl, Or.inr ⟨rfl, fun y => key.mpr y z⟩⟩)) (fun z => np_W_ck (by decide) (np_W_some ⟨rfl, Or.inl ⟨rfl, key.mp z⟩⟩))
end
