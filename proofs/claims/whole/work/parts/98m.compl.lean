/-! the chart: complete -/
section
variable {g : ga_G} {n : Nat} {σ : np_S}
def gx_hi (g : ga_G) (B : Nat → Prop) (k : Nat) (H : Int) : Prop := (H = -1 ∨ ∃ r, r < k ∧ B r ∧ H = ga_v g r) ∧ ∀ r, r < k → B r → ga_v g r ≤ H
theorem gx_high_l {i j : Nat} (hi : i < 31) (hj : j ≤ 30) (hC : gx_C g n σ) {Q : Nat → Nat → Prop} (hQ : ∀ r, r < ga_R g → gx_bit (gx_at σ j r (ga_l g r)) (Q r)) : ∀ (f k : Nat) (H : Int), k ≤ ga_R g → ga_R g - k < f → gx_hi g (fun r => Q r i) k H → np_W (f_Chart_highestTerm_5 f i j H k σ) (fun o => o.2 = σ ∧ gx_hi g (fun r => Q r i) (ga_R g) o.1) := by
  obtain ⟨hp, n30, hR, hrow, htok⟩ := id hC
  have R14 := hp.2.2.1
  intro f
  induction f with
  | zero => intro k H _ h; omega
  | succ f ih =>
    intro k H hk hf hH
    show np_W (f_Chart_highestTerm_5_b _ i j H k σ) _
    unfold f_Chart_highestTerm_5_b f_Chart_highestTerm_60
    rw [hR]
    refine np_W_ck ⟨⟨by omega, by omega⟩, ⟨by omega, by omega⟩⟩ ?_
    refine np_W_if (fun h => np_W_some ⟨rfl, ?_⟩) (fun h => ?_)
    · have ek : k = ga_R g := by omega
      rw [ek] at hH; exact hH
    · have hkR : k < ga_R g := by omega
      obtain ⟨hl, hv⟩ := gx_len hC hkR
      have hHR : np_R H := by
        rcases hH.1 with z | ⟨r, r1, _, z⟩
        · rw [z]; decide
        · have := (gx_len hC (r := r) (by omega)).2
          exact ⟨by omega, by omega⟩
      rw [(hrow k hkR).2.1]
      have next : ∀ H2 : Int, gx_hi g (fun r => Q r i) (k + 1) H2 → np_W (f_Chart_highestTerm_5 f i j H2 ((k : Int) + 1) σ) (fun o => o.2 = σ ∧ gx_hi g (fun r => Q r i) (ga_R g) o.1) := fun H2 h2 => ih (k + 1) H2 (by omega) (by omega) h2
      refine np_W_ck ⟨by omega, by omega⟩ ?_
      refine np_W_ck ⟨⟨by omega, by omega⟩, hHR⟩ ?_
      refine np_W_if (fun z => next H ⟨?_, fun r r1 r2 => ?_⟩) (fun z => ?_)
      · rcases hH.1 with y | ⟨r, r1, y⟩
        · exact Or.inl y
        · exact Or.inr ⟨r, by omega, y⟩
      · by_cases e : r = k
        · rw [e]; exact z
        · exact hH.2 r (by omega) r2
      · rw [gx_lastDot hC hkR]
        refine np_W_bind (np_W_some ?_)
        dsimp only
        refine np_W_seq (gx_reach hi (by omega) (hQ k hkR)) (fun o ho => ?_)
        obtain ⟨v, τ⟩ := o
        obtain ⟨e, hb⟩ := ho
        dsimp only at e hb ⊢
        subst e
        refine np_W_ck (gs_bo_R hb) ?_
        refine np_W_if (fun y => next H ⟨?_, fun r r1 r2 => ?_⟩) (fun y => ?_)
        · rcases hH.1 with y | ⟨r, r1, y⟩
          · exact Or.inl y
          · exact Or.inr ⟨r, by omega, y⟩
        · by_cases e : r = k
          · rw [e] at r2; exact absurd y ((gs_bo_1 hb).mpr r2)
          · exact hH.2 r (by omega) r2
        · refine np_W_ck ⟨by omega, by omega⟩ ?_
          rw [(hrow k hkR).2.1]
          refine next _ ⟨Or.inr ⟨k, by omega, (gs_bo_1 hb).mp y, rfl⟩, fun r r1 r2 => ?_⟩
          by_cases e : r = k
          · rw [e]; exact Int.le_refl _
          · have := hH.2 r (by omega) r2
            omega
theorem gx_high {i j : Nat} (hi : i < 31) (hj : j ≤ 30) (hC : gx_C g n σ) {Q : Nat → Nat → Prop} (hQ : ∀ r, r < ga_R g → gx_bit (gx_at σ j r (ga_l g r)) (Q r)) : np_W (f_Chart_highestTerm i j σ) (fun o => o.2 = σ ∧ gx_hi g (fun r => Q r i) (ga_R g) o.1) :=
  gx_high_l hi hj hC hQ 20000 0 (-1) (by omega) (by have := hC.1.2.2.1; omega) ⟨Or.inl rfl, fun r r1 _ => by omega⟩
theorem gx_fill_l {i j : Nat} (hij : i < j) (hj : j ≤ 30) {H : Int} (hH : np_R H) : ∀ (f q : Nat) (τ : np_S), q ≤ 7 * ga_R g → 7 * ga_R g - q < f → gx_C g n τ → np_W (f_Chart_fillHoles_15 f H (((98 * i : Nat)) : Int) (((98 * j : Nat)) : Int) q τ) (fun o => gx_fr [12] τ o.2 ∧ gx_oth j τ o.2 ∧ (∀ r, r < ga_R g → gx_at o.2 j r 0 = gx_at τ j r 0) ∧ ∀ r d, r < ga_R g → d < 6 → (q ≤ 7 * r + d ∧ d < ga_l g r ∧ ga_h g r d ≠ -1 ∧ ga_h g r d ≤ H → gx_at o.2 j r (d + 1) = np_ori (gx_at τ j r (d + 1)) (gx_at τ i r d)) ∧ (¬ (q ≤ 7 * r + d ∧ d < ga_l g r ∧ ga_h g r d ≠ -1 ∧ ga_h g r d ≤ H) → gx_at o.2 j r (d + 1) = gx_at τ j r (d + 1))) := by
  intro f
  induction f with
  | zero => intro q τ _ h; omega
  | succ f ih =>
    intro q τ hq hf hC
    obtain ⟨hp, n30, hR, hrow, htok⟩ := id hC
    have R14 := hp.2.2.1
    show np_W (f_Chart_fillHoles_15_b _ H _ _ q τ) _
    unfold f_Chart_fillHoles_15_b f_Chart_fillHoles_76
    rw [gx_dots hC]
    refine np_W_bind (np_W_some ?_)
    dsimp only
    refine np_W_ck ⟨⟨by omega, by omega⟩, ⟨by omega, by omega⟩⟩ ?_
    refine np_W_if (fun h => np_W_some ⟨gx_fr_refl _ _, fun _ _ => rfl, fun _ _ => rfl, fun r d r1 d1 => ⟨fun a => ?_, fun _ => rfl⟩⟩) (fun h => ?_)
    · have := (hp.1 r r1).1
      omega
    · have hr : q / 7 < ga_R g := by omega
      have hd : q % 7 < 7 := by omega
      have eq : 7 * (q / 7) + q % 7 = q := by omega
      have el := (hp.1 (q / 7) hr).1
      obtain ⟨h5, h4, hdd⟩ := hrow (q / 7) hr
      have hdq := hdd (q % 7) hd
      have e3 : 7 * ((q / 7 : Nat) : Int) + ((q % 7 : Nat) : Int) = (q : Int) := by omega
      rw [e3] at hdq
      have h2 : -1 ≤ τ 2 (q : Int) ∧ τ 2 (q : Int) ≤ 10 ∧ (τ 2 (q : Int) ≠ -1 ↔ (q % 7 < ga_l g (q / 7) ∧ ga_h g (q / 7) (q % 7) ≠ -1)) ∧ (τ 2 (q : Int) ≠ -1 → τ 2 (q : Int) = ga_h g (q / 7) (q % 7)) := by
        rcases hdq.2 with ⟨c1, c2, _⟩ | ⟨c1, c2, _⟩
        · have := (hp.1 (q / 7) hr).2.2.1 (q % 7) c1
          rw [c2]
          exact ⟨this.1, this.2, ⟨fun z => ⟨c1, z⟩, fun z => z.2⟩, fun _ => rfl⟩
        · rw [c2]
          exact ⟨by omega, by omega, ⟨fun z => absurd rfl z, fun z => by omega⟩, fun z => absurd rfl z⟩
      have skip : (¬ (q % 7 < ga_l g (q / 7) ∧ ga_h g (q / 7) (q % 7) ≠ -1 ∧ ga_h g (q / 7) (q % 7) ≤ H)) → np_W (f_Chart_fillHoles_15 f H (((98 * i : Nat)) : Int) (((98 * j : Nat)) : Int) ((q : Int) + 1) τ) (fun o => gx_fr [12] τ o.2 ∧ gx_oth j τ o.2 ∧ (∀ r, r < ga_R g → gx_at o.2 j r 0 = gx_at τ j r 0) ∧ ∀ r d, r < ga_R g → d < 6 → (q ≤ 7 * r + d ∧ d < ga_l g r ∧ ga_h g r d ≠ -1 ∧ ga_h g r d ≤ H → gx_at o.2 j r (d + 1) = np_ori (gx_at τ j r (d + 1)) (gx_at τ i r d)) ∧ (¬ (q ≤ 7 * r + d ∧ d < ga_l g r ∧ ga_h g r d ≠ -1 ∧ ga_h g r d ≤ H) → gx_at o.2 j r (d + 1) = gx_at τ j r (d + 1))) := by
        intro hno
        refine np_W_mono (ih (q + 1) τ (by omega) (by omega) hC) (fun o ho => ⟨ho.1, ho.2.1, ho.2.2.1, fun r d r1 d1 => ⟨fun a => ?_, fun a => ?_⟩⟩)
        · refine (ho.2.2.2 r d r1 d1).1 ⟨?_, a.2⟩
          by_cases z : 7 * r + d = q
          · have zr : q / 7 = r := by omega
            have zd : q % 7 = d := by omega
            rw [zr, zd] at hno
            exact absurd a.2 hno
          · omega
        · exact (ho.2.2.2 r d r1 d1).2 (fun c => a ⟨by omega, c.2⟩)
      refine np_W_ck ⟨by omega, by omega⟩ ?_
      refine np_W_ck ⟨⟨by omega, by omega⟩, by decide⟩ ?_
      refine np_W_if (fun z => skip (fun a => h2.2.2.1.mpr ⟨a.1, a.2.1⟩ z)) (fun z => ?_)
      have ez := h2.2.2.2 z
      refine np_W_ck ⟨⟨by omega, by omega⟩, hH⟩ ?_
      refine np_W_if (fun z2 => skip (fun a => by have := a.2.2; omega)) (fun z2 => ?_)
      have hm := h2.2.2.1.mp z
      have e1 : ((98 * i : Nat) : Int) + q = ((98 * i + (7 * (q / 7) + q % 7) : Nat) : Int) := by omega
      have e2 : ((98 * j : Nat) : Int) + q + 1 = ((98 * j + (7 * (q / 7) + (q % 7 + 1)) : Nat) : Int) := by omega
      rw [e1, e2]
      refine np_W_ck ⟨by omega, by omega⟩ ?_
      refine np_W_ck ⟨by omega, by omega⟩ ?_
      refine np_W_ck ⟨by omega, by omega⟩ ?_
      refine np_W_mono (ih (q + 1) _ (by omega) (by omega) (gx_C_fr hC (gx_fr_mono (gx_fr_st _ _ _ _) (by simp)))) (fun o ho => ⟨gx_fr_trans (gx_fr_st _ _ _ _) ho.1, gx_oth_trans (gx_oth_st _ _ _ _ (by omega)) ho.2.1, fun r r1 => ?_, fun r d r1 d1 => ?_⟩)
      · rw [ho.2.2.1 r r1]
        unfold gx_at
        rw [gx_st_at _ _ _ _ _ _ (by omega) (by omega), if_neg (by omega)]
      · have hi := ho.2.2.2 r d r1 d1
        have ai : ∀ (v : Int), gx_at (np_st τ 12 (((98 * j + (7 * (q / 7) + (q % 7 + 1)) : Nat)) : Int) v) i r d = gx_at τ i r d := by
          intro v
          unfold gx_at
          rw [gx_st_at _ _ _ _ _ _ (by omega) (by omega), if_neg (by omega)]
        have aj : ∀ (v : Int), gx_at (np_st τ 12 (((98 * j + (7 * (q / 7) + (q % 7 + 1)) : Nat)) : Int) v) j r (d + 1) = if 7 * r + d = q then v else gx_at τ j r (d + 1) := by
          intro v
          unfold gx_at
          rw [gx_st_at _ _ _ _ _ _ (by omega) (by omega)]
          by_cases zz : 7 * r + d = q
          · rw [if_pos zz, if_pos (by omega)]
          · rw [if_neg zz, if_neg (by omega)]
        rw [ai, aj] at hi
        by_cases zz : 7 * r + d = q
        · have zr : q / 7 = r := by omega
          have zd : q % 7 = d := by omega
          rw [if_pos zz] at hi
          rw [zr, zd] at hm ez hi
          refine ⟨fun _ => ?_, fun a => absurd ⟨by omega, hm.1, hm.2, by omega⟩ a⟩
          rw [hi.2 (by omega)]
          rfl
        · rw [if_neg zz] at hi
          exact ⟨fun a => hi.1 ⟨by omega, a.2⟩, fun a => hi.2 (fun c => a ⟨by omega, c.2⟩)⟩
/-- what complete has put down when all places from s on are done -/
def gx_cmp (g : ga_G) (L : Nat → Int) (j s : Nat) (τ : np_S) : Prop := (∀ r : Nat, r < ga_R g → gx_bit (gx_at τ (j + 1) r 0) (fun _ => False)) ∧ ∀ r d : Nat, r < ga_R g → d < 6 → gx_bit (gx_at τ (j + 1) r (d + 1)) (fun i => d < ga_l g r ∧ i ≤ j ∧ L i ≤ ga_v g r ∧ ((ga_h g r d = -1 ∧ ga_w g r d = ga_t g j ∧ 0 < ga_P g (ga_C g) r d i j) ∨ (ga_h g r d ≠ -1 ∧ ∃ m, s ≤ m ∧ m ≤ j ∧ 0 < ga_P g (ga_C g) r d i m ∧ 0 < ga_C g (ga_h g r d) m (j + 1))))
theorem gx_cmp_end (hg : ga_ok g) {L : Nat → Int} {j i : Nat} (hij : i ≤ j) {r : Nat} (hr : r < ga_R g) {d : Nat} (hd : d + 1 = ga_l g r) : ((d < ga_l g r ∧ i ≤ j ∧ L i ≤ ga_v g r ∧ ((ga_h g r d = -1 ∧ ga_w g r d = ga_t g j ∧ 0 < ga_P g (ga_C g) r d i j) ∨ (ga_h g r d ≠ -1 ∧ ∃ m, i + 1 ≤ m ∧ m ≤ j ∧ 0 < ga_P g (ga_C g) r d i m ∧ 0 < ga_C g (ga_h g r d) m (j + 1)))) ↔ L i ≤ ga_v g r ∧ 0 < ga_P g (ga_C g) r (ga_l g r) i (j + 1)) := by
  rw [← hd]
  constructor
  · rintro ⟨_, _, a, ⟨c1, c2, c3⟩ | ⟨c1, m, c2, c3, c4, c5⟩⟩
    · exact ⟨a, (ga_P_word c1).mpr ⟨c2.symm, c3⟩⟩
    · exact ⟨a, (ga_P_hole c1).mpr ⟨m, by omega, c4, c5⟩⟩
  · rintro ⟨a, c⟩
    refine ⟨by omega, hij, a, ?_⟩
    by_cases hw : ga_h g r d = -1
    · obtain ⟨c1, c2⟩ := (ga_P_word hw).mp c
      exact Or.inl ⟨hw, c1.symm, c2⟩
    · obtain ⟨m, c1, c2, c3⟩ := (ga_P_hole hw).mp c
      have hl := ga_P_len _ _ _ c2
      have d1 : 1 ≤ d := by
        refine Classical.byContradiction (fun z => ?_)
        obtain ⟨d2, e1, e2⟩ := (hg r hr).2.2.2.2
        have : d2 = d := by omega
        rw [this] at e2
        exact hw e2
      exact Or.inr ⟨hw, m, by omega, by omega, c2, c3⟩
theorem gx_compl_l {L : Nat → Int} {j : Nat} (hj : j < 30) (hB : ga_LB g L j) : ∀ (f s : Nat) (τ : np_S), s ≤ j + 1 → s < f → gx_C g n τ → (∀ i, i ≤ j → gx_full g L τ i) → gx_cmp g L j s τ → np_W (f_Chart_complete_4 f (((j + 1 : Nat)) : Int) ((s : Int) - 1) τ) (fun o => gx_fr [12] τ o.2 ∧ gx_oth (j + 1) τ o.2 ∧ gx_cmp g L j 0 o.2) := by
  intro f
  induction f with
  | zero => intro s τ _ h; omega
  | succ f ih =>
    intro s τ hs hf hC hfull hc
    obtain ⟨hp, n30, hR, hrow, htok⟩ := id hC
    have R14 := hp.2.2.1
    show np_W (f_Chart_complete_4_b _ _ ((s : Int) - 1) τ) _
    unfold f_Chart_complete_4_b f_Chart_complete_27
    refine np_W_ck ⟨by omega, by omega⟩ ?_
    refine np_W_if (fun h => np_W_some ⟨gx_fr_refl _ _, fun _ _ => rfl, ?_⟩) (fun h => ?_)
    · have : s = 0 := by omega
      rw [this] at hc; exact hc
    · obtain ⟨i, hi⟩ : ∃ i, s = i + 1 := ⟨s - 1, by omega⟩
      subst hi
      have e1 : (((i + 1 : Nat)) : Int) - 1 = (i : Int) := by omega
      rw [e1]
      have e2 : (i : Int) + -1 = (i : Int) - 1 := by omega
      rw [e2]
      refine np_W_seq (gx_high (i := i) (j := j + 1) (by omega) (by omega) hC (Q := fun r i0 => ga_l g r - 1 < ga_l g r ∧ i0 ≤ j ∧ L i0 ≤ ga_v g r ∧ ((ga_h g r (ga_l g r - 1) = -1 ∧ ga_w g r (ga_l g r - 1) = ga_t g j ∧ 0 < ga_P g (ga_C g) r (ga_l g r - 1) i0 j) ∨ (ga_h g r (ga_l g r - 1) ≠ -1 ∧ ∃ m, i + 1 ≤ m ∧ m ≤ j ∧ 0 < ga_P g (ga_C g) r (ga_l g r - 1) i0 m ∧ 0 < ga_C g (ga_h g r (ga_l g r - 1)) m (j + 1)))) (fun r r1 => ?_)) (fun o ho => ?_)
      · have hl := (hp.1 r r1).1
        have := hc.2 r (ga_l g r - 1) r1 (by omega)
        rw [show ga_l g r - 1 + 1 = ga_l g r by omega] at this
        exact this
      obtain ⟨H, τ2⟩ := o
      obtain ⟨e, hH⟩ := ho
      dsimp only at e hH ⊢
      subst e
      have hreach : ∀ r, r < ga_R g → (_ ↔ L i ≤ ga_v g r ∧ 0 < ga_P g (ga_C g) r (ga_l g r) i (j + 1)) := fun r r1 => gx_cmp_end hp.1 (L := L) (j := j) (i := i) (by omega) r1 (d := ga_l g r - 1) (by have := (hp.1 r r1).1; omega)
      have hHR : np_R H := by
        rcases hH.1 with z | ⟨r, r1, _, z⟩
        · rw [z]; decide
        · have := (gx_len hC (r := r) (by omega)).2
          exact ⟨by omega, by omega⟩
      -- a hole that waits at i is filled just where its level is no more than H
      have key : ∀ r d i0, r < ga_R g → d < ga_l g r → ga_h g r d ≠ -1 → i0 ≤ i → L i0 ≤ ga_v g r → 0 < ga_P g (ga_C g) r d i0 i → (ga_h g r d ≤ H ↔ 0 < ga_C g (ga_h g r d) i (j + 1)) := by
        intro r d i0 r1 d1 hw a1 a2 a3
        have hLi := hB i0 i r d a1 (by omega) r1 d1 a2 a3 hw
        have hh := (hp.1 r r1).2.2.1 d d1
        rw [ga_C_pos hp.1 (by omega)]
        constructor
        · intro hle
          rcases hH.1 with z | ⟨r2, r3, r4, z⟩
          · omega
          · exact ⟨r2, r3, by omega, ((hreach r2 r3).mp r4).2⟩
        · rintro ⟨r2, r3, r4, r5⟩
          have := hH.2 r2 r3 ((hreach r2 r3).mpr ⟨by omega, r5⟩)
          omega
      refine np_W_ck ⟨hHR, by decide⟩ ?_
      refine np_W_if (fun z => ?_) (fun z => ?_)
      · refine ih i τ2 (by omega) (by omega) hC hfull ⟨hc.1, fun r d r1 d1 => gx_bit_iff (hc.2 r d r1 d1) (fun i0 => ⟨fun ⟨a1, a2, a3, a4⟩ => ⟨a1, a2, a3, ?_⟩, fun ⟨a1, a2, a3, a4⟩ => ⟨a1, a2, a3, ?_⟩⟩)⟩
        · rcases a4 with a4 | ⟨c1, m, c2, c3⟩
          · exact Or.inl a4
          · exact Or.inr ⟨c1, m, by omega, c3⟩
        · rcases a4 with a4 | ⟨c1, m, c2, c3, c4, c5⟩
          · exact Or.inl a4
          · by_cases em : m = i
            · subst em
              have hl := ga_P_len _ _ _ c4
              have := (key r d i0 r1 a1 c1 (by omega) a3 c4).mpr c5
              have hh := (hp.1 r r1).2.2.1 d a1
              rw [z] at this
              exact absurd (Int.le_antisymm this hh.1) c1
            · exact Or.inr ⟨c1, m, by omega, c3, c4, c5⟩
      · unfold f_Chart_fillHoles
        have e3 : (i : Int) * 98 = ((98 * i : Nat) : Int) := by omega
        have e4 : (((j + 1 : Nat)) : Int) * 98 = ((98 * (j + 1) : Nat) : Int) := by omega
        rw [e3, e4]
        refine np_W_seq (gx_fill_l (i := i) (j := j + 1) (by omega) (by omega) hHR 20000 0 τ2 (by omega) (by omega) hC) (fun o ho => ?_)
        obtain ⟨v, ρ⟩ := o
        obtain ⟨f1, f2, f3, f4⟩ := ho
        dsimp only at f1 f2 f3 f4 ⊢
        refine np_W_mono (ih i ρ (by omega) (by omega) (gx_C_fr hC (gx_fr_mono f1 (by simp))) (fun i2 hi2 => gx_full_oth R14 (hfull i2 hi2) f2 (by omega)) ⟨fun r r1 => ?_, fun r d r1 d1 => ?_⟩) (fun o ho => ⟨gx_fr_trans f1 ho.1, gx_oth_trans f2 ho.2.1, ho.2.2⟩)
        · rw [f3 r r1]; exact hc.1 r r1
        · by_cases hfl : d < ga_l g r ∧ ga_h g r d ≠ -1 ∧ ga_h g r d ≤ H
          · rw [(f4 r d r1 d1).1 ⟨by omega, hfl⟩]
            refine gx_bit_iff (gx_bit_or (hc.2 r d r1 d1) (hfull i (by omega) r d r1 (by omega))) (fun i0 => ⟨?_, ?_⟩)
            · rintro (⟨a1, a2, a3, a4⟩ | ⟨a1, a2, a3, a4⟩)
              · refine ⟨a1, a2, a3, ?_⟩
                rcases a4 with a4 | ⟨c1, m, c2, c3⟩
                · exact Or.inl a4
                · exact Or.inr ⟨c1, m, by omega, c3⟩
              · exact ⟨hfl.1, by omega, a3, Or.inr ⟨hfl.2.1, i, by omega, by omega, a4, (key r d i0 r1 hfl.1 hfl.2.1 a2 a3 a4).mp hfl.2.2⟩⟩
            · rintro ⟨a1, a2, a3, a4⟩
              rcases a4 with a4 | ⟨c1, m, c2, c3, c4, c5⟩
              · exact Or.inl ⟨a1, a2, a3, Or.inl a4⟩
              · by_cases em : m = i
                · subst em
                  have hl := ga_P_len _ _ _ c4
                  exact Or.inr ⟨by omega, by omega, a3, c4⟩
                · exact Or.inl ⟨a1, a2, a3, Or.inr ⟨c1, m, by omega, c3, c4, c5⟩⟩
          · rw [(f4 r d r1 d1).2 (fun c => hfl c.2)]
            refine gx_bit_iff (hc.2 r d r1 d1) (fun i0 => ⟨fun ⟨a1, a2, a3, a4⟩ => ⟨a1, a2, a3, ?_⟩, fun ⟨a1, a2, a3, a4⟩ => ⟨a1, a2, a3, ?_⟩⟩)
            · rcases a4 with a4 | ⟨c1, m, c2, c3⟩
              · exact Or.inl a4
              · exact Or.inr ⟨c1, m, by omega, c3⟩
            · rcases a4 with a4 | ⟨c1, m, c2, c3, c4, c5⟩
              · exact Or.inl a4
              · by_cases em : m = i
                · subst em
                  have hl := ga_P_len _ _ _ c4
                  exact absurd ⟨a1, c1, (key r d i0 r1 a1 c1 (by omega) a3 c4).mpr c5⟩ hfl
                · exact Or.inr ⟨c1, m, by omega, c3, c4, c5⟩
/-- the next row, but for what predict puts at its first dots -/
def gx_part (g : ga_G) (L : Nat → Int) (j : Nat) (τ : np_S) : Prop := (∀ r : Nat, r < ga_R g → gx_bit (gx_at τ (j + 1) r 0) (fun _ => False)) ∧ ∀ r d : Nat, r < ga_R g → d < 6 → gx_bit (gx_at τ (j + 1) r (d + 1)) (fun i => d < ga_l g r ∧ i ≤ j ∧ L i ≤ ga_v g r ∧ 0 < ga_P g (ga_C g) r (d + 1) i (j + 1))
theorem gx_compl {L : Nat → Int} {j : Nat} (hj : j < 30) (hB : ga_LB g L j) (hC : gx_C g n σ) (hfull : ∀ i, i ≤ j → gx_full g L σ i) (hs : gx_scn g L j (7 * ga_R g) σ) : np_W (f_Chart_complete (((j + 1 : Nat)) : Int) σ) (fun o => gx_fr [12] σ o.2 ∧ gx_oth (j + 1) σ o.2 ∧ gx_part g L j o.2) := by
  unfold f_Chart_complete
  refine np_W_mono (gx_compl_l hj hB 20000 (j + 1) σ (by omega) (by omega) hC hfull ⟨hs.1, fun r d r1 d1 => gx_bit_iff (hs.2 r d r1 d1) (fun i => ⟨?_, ?_⟩)⟩) (fun o ho => ⟨ho.1, ho.2.1, ho.2.2.1, fun r d r1 d1 => gx_bit_iff (ho.2.2.2 r d r1 d1) (fun i => ⟨?_, ?_⟩)⟩)
  · rintro ⟨_, a1, a2, a3, a4, a5, a6⟩
    exact ⟨a1, a4, a5, Or.inl ⟨a2, a3, a6⟩⟩
  · rintro ⟨a1, a2, a3, ⟨a4, a5, a6⟩ | ⟨_, m, a5, a6, _⟩⟩
    · exact ⟨by omega, a1, a4, a5, a2, a3, a6⟩
    · omega
  · rintro ⟨a1, a2, a3, ⟨a4, a5, a6⟩ | ⟨a4, m, a5, a6, a7, a8⟩⟩
    · exact ⟨a1, a2, a3, (ga_P_word a4).mpr ⟨a5.symm, a6⟩⟩
    · exact ⟨a1, a2, a3, (ga_P_hole a4).mpr ⟨m, by omega, a7, a8⟩⟩
  · rintro ⟨a1, a2, a3, a4⟩
    refine ⟨a1, a2, a3, ?_⟩
    by_cases hw : ga_h g r d = -1
    · obtain ⟨c1, c2⟩ := (ga_P_word hw).mp a4
      exact Or.inl ⟨hw, c1.symm, c2⟩
    · obtain ⟨m, c1, c2, c3⟩ := (ga_P_hole hw).mp a4
      exact Or.inr ⟨hw, m, by omega, by omega, c2, c3⟩
end
