/-! the chart: leastWanted, predict, follow -/
section
variable {g : ga_G} {n : Nat} {σ : np_S}
def gx_min (g : ga_G) (B : Nat → Nat → Prop) (q : Nat) (w : Int) : Prop := (w = 11 ∨ ∃ r d, 7 * r + d < q ∧ r < ga_R g ∧ d < ga_l g r ∧ ga_h g r d ≠ -1 ∧ ga_h g r d = w ∧ B r d) ∧ ∀ r d, 7 * r + d < q → r < ga_R g → d < ga_l g r → ga_h g r d ≠ -1 → B r d → w ≤ ga_h g r d
theorem gx_least_l {j : Nat} (hj : j ≤ 30) (hC : gx_C g n σ) {Q : Nat → Nat → Nat → Prop} (hQ : ∀ r d, r < ga_R g → d < 7 → gx_bit (gx_at σ j r d) (Q r d)) : ∀ (f q : Nat) (w : Int), q ≤ 7 * ga_R g → 7 * ga_R g - q < f → gx_min g (fun r d => ∃ i, Q r d i) q w → np_W (f_Chart_leastWanted_5 f j w q σ) (fun o => o.2 = σ ∧ gx_min g (fun r d => ∃ i, Q r d i) (7 * ga_R g) o.1) := by
  obtain ⟨hp, n30, hR, hrow, htok⟩ := id hC
  have R14 := hp.2.2.1
  intro f
  induction f with
  | zero => intro q w _ h; omega
  | succ f ih =>
    intro q w hq hf hw
    show np_W (f_Chart_leastWanted_5_b _ j w q σ) _
    unfold f_Chart_leastWanted_5_b f_Chart_leastWanted_56
    rw [gx_dots hC]
    refine np_W_bind (np_W_some ?_)
    dsimp only
    refine np_W_ck ⟨⟨by omega, by omega⟩, ⟨by omega, by omega⟩⟩ ?_
    refine np_W_if (fun h => np_W_some ⟨rfl, ?_⟩) (fun h => ?_)
    · have eq : q = 7 * ga_R g := by omega
      rw [eq] at hw; exact hw
    · have hr : q / 7 < ga_R g := by omega
      have hd : q % 7 < 7 := by omega
      have eq : 7 * (q / 7) + q % 7 = q := by omega
      have el := (hp.1 (q / 7) hr).1
      obtain ⟨h5, h4, hdd⟩ := hrow (q / 7) hr
      have hdq := hdd (q % 7) hd
      have e3 : 7 * ((q / 7 : Nat) : Int) + ((q % 7 : Nat) : Int) = (q : Int) := by omega
      rw [e3] at hdq
      have hwR : np_R w := by
        rcases hw.1 with z | ⟨r, d, _, r1, d1, _, z, _⟩
        · rw [z]; decide
        · have := (hp.1 r r1).2.2.1 d d1
          exact ⟨by omega, by omega⟩
      have skip : (¬ (q % 7 < ga_l g (q / 7) ∧ ga_h g (q / 7) (q % 7) ≠ -1 ∧ (∃ i, Q (q / 7) (q % 7) i) ∧ ga_h g (q / 7) (q % 7) < w)) → np_W (f_Chart_leastWanted_5 f j w ((q : Int) + 1) σ) (fun o => o.2 = σ ∧ gx_min g (fun r d => ∃ i, Q r d i) (7 * ga_R g) o.1) := by
        intro hno
        refine ih (q + 1) w (by omega) (by omega) ⟨?_, fun r d a r1 d1 a2 a3 => ?_⟩
        · rcases hw.1 with z | ⟨r, d, a, z⟩
          · exact Or.inl z
          · exact Or.inr ⟨r, d, by omega, z⟩
        · by_cases z : 7 * r + d = q
          · have := (hp.1 r r1).1
            have zr : q / 7 = r := by omega
            have zd : q % 7 = d := by omega
            rw [zr, zd] at hno
            refine Classical.byContradiction (fun y => hno ⟨d1, a2, a3, by omega⟩)
          · exact hw.2 r d (by omega) r1 d1 a2 a3
      refine np_W_ck ⟨by omega, by omega⟩ ?_
      rcases hdq.2 with ⟨c1, c2, _⟩ | ⟨c1, c2, _⟩
      · have hh := (hp.1 (q / 7) hr).2.2.1 (q % 7) c1
        refine np_W_ck ⟨⟨by rw [c2]; omega, by rw [c2]; omega⟩, by decide⟩ ?_
        refine np_W_if (fun z => skip (fun a => a.2.1 (by rw [← c2]; exact z))) (fun z => ?_)
        refine np_W_ck ⟨⟨by rw [c2]; omega, by rw [c2]; omega⟩, hwR⟩ ?_
        refine np_W_if (fun z2 => skip (fun a => by have := a.2.2.2; rw [c2] at z2; exact absurd this (by omega))) (fun z2 => ?_)
        rw [c2] at z z2
        have e1 : (j : Int) * 98 + q = ((98 * j + (7 * (q / 7) + q % 7) : Nat) : Int) := by omega
        rw [e1]
        have hbit := hQ (q / 7) (q % 7) hr hd
        unfold gx_at at hbit
        refine np_W_ck ⟨by omega, by omega⟩ ?_
        refine np_W_ck (gx_bit_R hbit) ?_
        refine np_W_if (fun z3 => skip (fun a => (gx_bit_ne hbit).mpr a.2.2.1 z3)) (fun z3 => ?_)
        rw [c2]
        refine ih (q + 1) _ (by omega) (by omega) ⟨Or.inr ⟨q / 7, q % 7, by omega, hr, c1, z, rfl, (gx_bit_ne hbit).mp z3⟩, fun r d a r1 d1 a2 a3 => ?_⟩
        by_cases y : 7 * r + d = q
        · have := (hp.1 r r1).1
          have zr : q / 7 = r := by omega
          have zd : q % 7 = d := by omega
          rw [zr, zd]; exact Int.le_refl _
        · have := hw.2 r d (by omega) r1 d1 a2 a3
          omega
      · refine np_W_ck ⟨by rw [c2]; decide, by decide⟩ ?_
        exact np_W_if (fun _ => skip (fun a => by have := a.1; omega)) (fun z => absurd c2 z)
theorem gx_least {j : Nat} (hj : j ≤ 30) (hC : gx_C g n σ) {Q : Nat → Nat → Nat → Prop} (hQ : ∀ r d, r < ga_R g → d < 7 → gx_bit (gx_at σ j r d) (Q r d)) : np_W (f_Chart_leastWanted j σ) (fun o => o.2 = σ ∧ gx_min g (fun r d => ∃ i, Q r d i) (7 * ga_R g) o.1) :=
  gx_least_l hj hC hQ 20000 0 11 (by omega) (by have := hC.1.2.2.1; omega) ⟨Or.inl rfl, fun r d a => by omega⟩
def gx_lf (g : ga_G) (w : Int) (k : Nat) (y : Int) : Prop := y ≤ w ∧ (y = w ∨ ∃ r, r < k ∧ r < ga_R g ∧ w ≤ ga_v g r ∧ ga_h g r 0 ≠ -1 ∧ y = ga_h g r 0) ∧ ∀ r, 2 ≤ r → r < k → w ≤ ga_v g r → ga_h g r 0 ≠ -1 → y ≤ ga_h g r 0
theorem gx_first_l (hC : gx_C g n σ) {w : Int} (hw : np_R w) : ∀ (f k : Nat) (y : Int), 2 ≤ k → k ≤ ga_R g → ga_R g - k < f → gx_lf g w k y → np_W (f_Chart_leastFirstHole_4 f w y k σ) (fun o => o.2 = σ ∧ gx_lf g w (ga_R g) o.1) := by
  obtain ⟨hp, n30, hR, hrow, htok⟩ := id hC
  have R14 := hp.2.2.1
  intro f
  induction f with
  | zero => intro k y _ _ h; omega
  | succ f ih =>
    intro k y k2 hk hf hy
    show np_W (f_Chart_leastFirstHole_4_b _ w y k σ) _
    unfold f_Chart_leastFirstHole_4_b f_Chart_leastFirstHole_57
    rw [hR]
    refine np_W_ck ⟨⟨by omega, by omega⟩, ⟨by omega, by omega⟩⟩ ?_
    refine np_W_if (fun h => np_W_some ⟨rfl, ?_⟩) (fun h => ?_)
    · have ek : k = ga_R g := by omega
      rw [ek] at hy; exact hy
    · have hkR : k < ga_R g := by omega
      obtain ⟨hl, hv⟩ := gx_len hC hkR
      obtain ⟨h5, h4, hdd⟩ := hrow k hkR
      have hd0 := hdd 0 (by decide)
      have hh := (hp.1 k hkR).2.2.1 0 (by omega)
      have e2 : σ 2 ((k : Int) * 7) = ga_h g k 0 := by
        rcases hd0.2 with ⟨_, c2, _⟩ | ⟨c1, _⟩
        · rw [← c2]; congr 1; omega
        · omega
      have hyR : np_R y := by
        rcases hy.2.1 with z | ⟨r, _, r1, _, _, z⟩
        · rw [z]; exact hw
        · have := (hp.1 r r1).2.2.1 0 (by have := (hp.1 r r1).1; omega)
          exact ⟨by omega, by omega⟩
      have next : ∀ y2 : Int, gx_lf g w (k + 1) y2 → np_W (f_Chart_leastFirstHole_4 f w y2 ((k : Int) + 1) σ) (fun o => o.2 = σ ∧ gx_lf g w (ga_R g) o.1) := fun y2 h2 => ih (k + 1) y2 (by omega) (by omega) (by omega) h2
      have skip : ¬ (w ≤ ga_v g k ∧ ga_h g k 0 ≠ -1 ∧ ga_h g k 0 < y) → gx_lf g w (k + 1) y := by
        intro hno
        refine ⟨hy.1, ?_, fun r a1 a2 a3 a4 => ?_⟩
        · rcases hy.2.1 with z | ⟨r, r1, z⟩
          · exact Or.inl z
          · exact Or.inr ⟨r, by omega, z⟩
        · by_cases z : r = k
          · subst z
            exact Classical.byContradiction (fun q => hno ⟨a3, a4, by omega⟩)
          · exact hy.2.2 r a1 (by omega) a3 a4
      refine np_W_ck ⟨by omega, by omega⟩ ?_
      refine np_W_ck ⟨by omega, by omega⟩ ?_
      rw [h4, e2]
      refine np_W_ck ⟨⟨by omega, by omega⟩, hw⟩ ?_
      refine np_W_if (fun z => next y (skip (fun a => by omega))) (fun z => ?_)
      refine np_W_ck ⟨⟨by omega, by omega⟩, by decide⟩ ?_
      refine np_W_if (fun z => next y (skip (fun a => a.2.1 z))) (fun z2 => ?_)
      refine np_W_ck ⟨⟨by omega, by omega⟩, hyR⟩ ?_
      refine np_W_if (fun z => next y (skip (fun a => by omega))) (fun z3 => ?_)
      have hyw := hy.1
      refine next _ ⟨by omega, Or.inr ⟨k, by omega, hkR, by omega, z2, rfl⟩, fun r a1 a2 a3 a4 => ?_⟩
      by_cases e : r = k
      · rw [e]; exact Int.le_refl _
      · have := hy.2.2 r a1 (by omega) a3 a4
        omega
theorem gx_first (hC : gx_C g n σ) {w : Int} (hw : np_R w) : np_W (f_Chart_leastFirstHole w σ) (fun o => o.2 = σ ∧ gx_lf g w (ga_R g) o.1) :=
  gx_first_l hC hw 20000 2 w (by omega) (by have := hC.1.2.1; omega) (by have := hC.1.2.2.1; omega) ⟨Int.le_refl _, Or.inl rfl, fun r a1 a2 => by omega⟩
theorem gx_set_l {j : Nat} (hj : j ≤ 30) {x : Int} (hx : np_R x) : ∀ (f k : Nat) (τ : np_S), k ≤ ga_R g → ga_R g - k < f → gx_C g n τ → np_W (f_Chart_predict_52 f j x k τ) (fun o => gx_fr [12] τ o.2 ∧ gx_oth j τ o.2 ∧ (∀ r, r < ga_R g → (k ≤ r ∧ x ≤ ga_v g r → gx_at o.2 j r 0 = np_shli 1 j) ∧ (¬ (k ≤ r ∧ x ≤ ga_v g r) → gx_at o.2 j r 0 = gx_at τ j r 0)) ∧ ∀ r d, r < ga_R g → d < 6 → gx_at o.2 j r (d + 1) = gx_at τ j r (d + 1)) := by
  intro f
  induction f with
  | zero => intro k τ _ h; omega
  | succ f ih =>
    intro k τ hk hf hC
    obtain ⟨hp, n30, hR, hrow, htok⟩ := id hC
    have R14 := hp.2.2.1
    show np_W (f_Chart_predict_52_b _ j x k τ) _
    unfold f_Chart_predict_52_b f_Chart_predict_96
    rw [hR]
    refine np_W_ck ⟨⟨by omega, by omega⟩, ⟨by omega, by omega⟩⟩ ?_
    refine np_W_if (fun h => np_W_some ⟨gx_fr_refl _ _, fun _ _ => rfl, fun r r1 => ⟨fun a => by omega, fun _ => rfl⟩, fun _ _ _ _ => rfl⟩) (fun h => ?_)
    have hkR : k < ga_R g := by omega
    obtain ⟨hl, hv⟩ := gx_len hC hkR
    refine np_W_ck ⟨by omega, by omega⟩ ?_
    rw [(hrow k hkR).2.1]
    refine np_W_ck ⟨⟨by omega, by omega⟩, hx⟩ ?_
    refine np_W_if (fun z => ?_) (fun z => ?_)
    · refine np_W_mono (ih (k + 1) τ (by omega) (by omega) hC) (fun o ho => ⟨ho.1, ho.2.1, fun r r1 => ⟨fun a => (ho.2.2.1 r r1).1 ⟨?_, a.2⟩, fun a => (ho.2.2.1 r r1).2 (fun c => a ⟨by omega, c.2⟩)⟩, ho.2.2.2⟩)
      by_cases e : r = k
      · subst e; omega
      · omega
    · have e1 : (j : Int) * 98 + (k : Int) * 7 = ((98 * j + (7 * k + 0) : Nat) : Int) := by omega
      rw [e1]
      refine np_W_ck ⟨by omega, by omega⟩ ?_
      have a0 : ∀ r, r < ga_R g → gx_at (np_st τ 12 (((98 * j + (7 * k + 0) : Nat)) : Int) (np_shli 1 j)) j r 0 = if r = k then np_shli 1 j else gx_at τ j r 0 := by
        intro r r1
        unfold gx_at
        rw [gx_st_at _ _ _ _ _ _ (by omega) (by omega)]
        by_cases e : r = k
        · rw [if_pos e, if_pos (by omega)]
        · rw [if_neg e, if_neg (by omega)]
      refine np_W_mono (ih (k + 1) _ (by omega) (by omega) (gx_C_fr hC (gx_fr_mono (gx_fr_st _ _ _ _) (by simp)))) (fun o ho => ⟨gx_fr_trans (gx_fr_st _ _ _ _) ho.1, gx_oth_trans (gx_oth_st _ _ _ _ (by omega)) ho.2.1, fun r r1 => ?_, fun r d r1 d1 => ?_⟩)
      · have hi := ho.2.2.1 r r1
        rw [a0 r r1] at hi
        by_cases e : r = k
        · rw [if_pos e] at hi
          refine ⟨fun _ => hi.2 (by omega), fun a => absurd ⟨by omega, ?_⟩ a⟩
          rw [e]; omega
        · rw [if_neg e] at hi
          exact ⟨fun a => hi.1 ⟨by omega, a.2⟩, fun a => hi.2 (fun c => a ⟨by omega, c.2⟩)⟩
      · rw [ho.2.2.2 r d r1 d1]
        unfold gx_at
        rw [gx_st_at _ _ _ _ _ _ (by omega) (by omega), if_neg (by omega)]
/-- x is the least level that is wanted where w is -/
def gx_cl (g : ga_G) (w x : Int) : Prop := x ≤ w ∧ 0 ≤ x ∧ (∀ r, r < ga_R g → x ≤ ga_v g r → ga_h g r 0 ≠ -1 → x ≤ ga_h g r 0) ∧ (∀ Q : Int → Prop, Q w → (∀ y r, Q y → r < ga_R g → y ≤ ga_v g r → ga_h g r 0 ≠ -1 → Q (ga_h g r 0)) → Q x)
def gx_prd (g : ga_G) (j : Nat) (w : Int) (σ τ : np_S) : Prop := ∃ x, gx_cl g w x ∧ gx_fr [12] σ τ ∧ gx_oth j σ τ ∧ (∀ r, r < ga_R g → (x ≤ ga_v g r → gx_at τ j r 0 = np_shli 1 j) ∧ (¬ x ≤ ga_v g r → gx_at τ j r 0 = gx_at σ j r 0)) ∧ ∀ r d, r < ga_R g → d < 6 → gx_at τ j r (d + 1) = gx_at σ j r (d + 1)
theorem gx_pred_l {j : Nat} (hj : j ≤ 30) (hC : gx_C g n σ) {w : Int} (hw0 : 0 ≤ w) (hw11 : w ≤ 11) : ∀ (f t : Nat) (b x : Int), t ≤ 11 → 11 - t < f → (b = 0 ∨ b = 1) → x ≤ w → 0 ≤ x → (∀ Q : Int → Prop, Q w → (∀ y r, Q y → r < ga_R g → y ≤ ga_v g r → ga_h g r 0 ≠ -1 → Q (ga_h g r 0)) → Q x) → (b = 1 → t = 0 ∨ x ≤ 10 - t) → (b = 0 → ∀ r, r < ga_R g → x ≤ ga_v g r → ga_h g r 0 ≠ -1 → x ≤ ga_h g r 0) → np_W (f_Chart_predict_8 f j x b t σ) (fun o => gx_prd g j w σ o.2) := by
  obtain ⟨hp, n30, hR, hrow, htok⟩ := id hC
  have R14 := hp.2.2.1
  intro f
  induction f with
  | zero => intro t b x _ h; omega
  | succ f ih =>
    intro t b x t11 hf hb hxw hx0 hQ h1 h0
    have fin : (∀ r, r < ga_R g → x ≤ ga_v g r → ga_h g r 0 ≠ -1 → x ≤ ga_h g r 0) → np_W (f_Chart_predict_49 j x σ) (fun o => gx_prd g j w σ o.2) := by
      intro hcl
      unfold f_Chart_predict_49
      refine np_W_mono (gx_set_l hj (x := x) ⟨by omega, by omega⟩ 20000 0 σ (by omega) (by omega) hC) (fun o ho => ⟨x, ⟨hxw, hx0, hcl, hQ⟩, ho.1, ho.2.1, fun r r1 => ⟨fun a => (ho.2.2.1 r r1).1 ⟨by omega, a⟩, fun a => (ho.2.2.1 r r1).2 (fun c => a c.2)⟩, ho.2.2.2⟩)
    show np_W (f_Chart_predict_8_b _ j x b t σ) _
    unfold f_Chart_predict_8_b f_Chart_predict_41
    refine np_W_ck ⟨⟨by omega, by omega⟩, by decide⟩ ?_
    refine np_W_if (fun z => fin ?_) (fun z => ?_)
    · rcases hb with e | e
      · exact h0 e
      · have := h1 e; omega
    refine np_W_ck (by rcases hb with e | e <;> rw [e] <;> decide) ?_
    refine np_W_if (fun z2 => fin (h0 z2)) (fun z2 => ?_)
    have b1 := h1 (by omega)
    refine np_W_seq (gx_first hC (w := x) ⟨by omega, by omega⟩) (fun o ho => ?_)
    obtain ⟨y, τ⟩ := o
    obtain ⟨e, y1, y2, y3⟩ := ho
    dsimp only at e y1 y2 y3 ⊢
    subst e
    have hy0 : 0 ≤ y := by
      rcases y2 with q | ⟨r, _, r1, _, r3, q⟩
      · omega
      · have := (hp.1 r r1).2.2.1 0 (by have := (hp.1 r r1).1; omega)
        omega
    have hQy : ∀ Q : Int → Prop, Q w → (∀ y r, Q y → r < ga_R g → y ≤ ga_v g r → ga_h g r 0 ≠ -1 → Q (ga_h g r 0)) → Q y := by
      intro Q q1 q2
      rcases y2 with q | ⟨r, _, r1, r2, r3, q⟩
      · rw [q]; exact hQ Q q1 q2
      · rw [q]; exact q2 x r (hQ Q q1 q2) r1 r2 r3
    refine np_W_ck ⟨⟨by omega, by omega⟩, ⟨by omega, by omega⟩⟩ ?_
    refine np_W_if (fun z3 => ?_) (fun z3 => ?_)
    · have eyx : y = x := by omega
      refine ih (t + 1) 0 y (by omega) (by omega) (Or.inl rfl) (by omega) hy0 hQy (fun e => absurd e (by decide)) (fun _ r r1 r2 r3 => ?_)
      have hr2 : 2 ≤ r := by
        refine Classical.byContradiction (fun q => ?_)
        have : r = 0 ∨ r = 1 := by omega
        rcases this with e | e
        · rw [e] at r3; exact r3 hp.2.2.2.1.2.2.1
        · rw [e] at r3; exact r3 hp.2.2.2.2.1.2.2.1
      exact y3 r hr2 r1 (by omega) r3
    · refine ih (t + 1) 1 y (by omega) (by omega) (Or.inr rfl) (by omega) hy0 hQy (fun _ => Or.inr ?_) (fun e => absurd e (by decide))
      rcases y2 with q | ⟨r, _, r1, r2, r3, q⟩
      · omega
      · have := (hp.1 r r1).2.1
        omega
theorem gx_pred {j : Nat} (hj : j ≤ 30) (hC : gx_C g n σ) {w : Int} (hw0 : 0 ≤ w) (hw11 : w ≤ 11) : np_W (f_Chart_predict j w σ) (fun o => gx_prd g j w σ o.2) :=
  gx_pred_l hj hC hw0 hw11 20000 0 1 w (by omega) (by omega) (Or.inr rfl) (Int.le_refl _) hw0 (fun Q q _ => q) (fun _ => Or.inl rfl) (fun e => absurd e (by decide))
def gx_ch (g : ga_G) (L : Nat → Int) (j : Nat) (σ : np_S) : Prop := ga_LA g L j ∧ ga_LB g L j ∧ L 0 ≤ 0 ∧ (∀ i, i ≤ j → 0 ≤ L i) ∧ ∀ i, i ≤ j → gx_full g L σ i
theorem gx_follow_l (hn : n ≤ 30) : ∀ (f j : Nat) (L : Nat → Int) (τ : np_S), j ≤ n → n - j < f → gx_C g n τ → gx_ch g L j τ → (∀ k, k < j → ga_VB g (k + 1) 0 0) → np_W (f_Chart_follow_13 f n j τ) (fun o => gx_fr [12] τ o.2 ∧ ∃ m : Nat, o.1 = m ∧ m ≤ n ∧ (∀ k, k < m → ga_VB g (k + 1) 0 0) ∧ (m < n → ¬ ga_VB g (m + 1) 0 0) ∧ (m = n → ∃ L, gx_ch g L n o.2)) := by
  intro f
  induction f with
  | zero => intro j L τ _ h; omega
  | succ f ih =>
    intro j L τ hj hf hC hch hVB
    obtain ⟨hp, n30, hR, hrow, htok⟩ := id hC
    have R14 := hp.2.2.1
    obtain ⟨hA, hB, hL0, hLn, hfull⟩ := id hch
    show np_W (f_Chart_follow_13_b _ n j τ) _
    unfold f_Chart_follow_13_b
    refine np_W_ck ⟨⟨by omega, by omega⟩, ⟨by omega, by omega⟩⟩ ?_
    refine np_W_if (fun h => ?_) (fun h => ?_)
    · have e : j = n := by omega
      subst e
      exact np_W_some ⟨gx_fr_refl _ _, j, rfl, Nat.le_refl _, hVB, fun z => absurd z (Nat.lt_irrefl _), fun _ => ⟨L, hch⟩⟩
    have e1 : (j : Int) + 1 = ((j + 1 : Nat) : Int) := by omega
    have jn : j + 1 ≤ n := by omega
    have jf : n - (j + 1) < f := by omega
    rw [e1]
    refine np_W_seq (gx_empty (σ := τ) (j := j + 1) (by omega)) (fun o ho => ?_)
    obtain ⟨v, τ1⟩ := o
    obtain ⟨a1, a2, a3⟩ := ho
    dsimp only at a1 a2 a3 ⊢
    have hC1 := gx_C_fr hC (gx_fr_mono a1 (by simp))
    refine np_W_ck ⟨by omega, by omega⟩ ?_
    have hV := ga_viable (g := g) hp.1 (j := j) (by omega) hA hB hL0
    rw [(hC1.2.2.2.2 j (by omega)).1]
    refine np_W_seq (gx_scan (j := j) (L := L) (by omega) hC1 (gx_full_oth R14 (hfull j (Nat.le_refl _)) a2 (by omega)) a3) (fun o ho => ?_)
    obtain ⟨bv, τ2⟩ := o
    obtain ⟨b1, b2, b3, b4⟩ := ho
    dsimp only at b1 b2 b3 b4 ⊢
    have hC2 := gx_C_fr hC1 (gx_fr_mono b1 (by simp))
    have hfnd : (∃ r d i, r < ga_R g ∧ d < ga_l g r ∧ ga_h g r d = -1 ∧ ga_w g r d = ga_t g j ∧ gx_it g L j r d i) ↔ ga_found g L j := by
      constructor
      · rintro ⟨r, d, i, c1, c2, c3, c4, c5, c6, c7⟩
        exact ⟨i, r, d, c5, c1, c2, c6, c7, c3, c4⟩
      · rintro ⟨i, r, d, c5, c1, c2, c6, c7, c3, c4⟩
        exact ⟨r, d, i, c1, c2, c3, c4, c5, c6, c7⟩
    have b4 := gs_bo_iff b4 (hfnd.trans hV.symm)
    refine np_W_ck (gs_bo_R b4) ?_
    refine np_W_if (fun z => ?_) (fun z => ?_)
    · refine np_W_seq (gx_compl (j := j) (L := L) (by omega) hB hC2 (fun i hi => gx_full_oth R14 (gx_full_oth R14 (hfull i hi) a2 (by omega)) b2 (by omega)) b3) (fun o ho => ?_)
      obtain ⟨v3, τ3⟩ := o
      obtain ⟨c1, c2, c3⟩ := ho
      dsimp only at c1 c2 c3 ⊢
      have hC3 := gx_C_fr hC2 (gx_fr_mono c1 (by simp))
      have hQ : ∀ r d, r < ga_R g → d < 7 → gx_bit (gx_at τ3 (j + 1) r d) (fun i => 1 ≤ d ∧ d ≤ ga_l g r ∧ i ≤ j ∧ L i ≤ ga_v g r ∧ 0 < ga_P g (ga_C g) r d i (j + 1)) := by
        intro r d r1 d1
        cases d with
        | zero => exact gx_bit_iff (c3.1 r r1) (fun i => ⟨False.elim, fun a => by omega⟩)
        | succ d => exact gx_bit_iff (c3.2 r d r1 (by omega)) (fun i => ⟨fun a => ⟨by omega, by omega, a.2⟩, fun a => ⟨by omega, a.2.2⟩⟩)
      refine np_W_seq (gx_least (j := j + 1) (by omega) hC3 hQ) (fun o ho => ?_)
      obtain ⟨w, τ4⟩ := o
      obtain ⟨e, hw1, hw2⟩ := ho
      dsimp only at e hw1 hw2 ⊢
      subst e
      have hw0 : 0 ≤ w ∧ w ≤ 11 := by
        rcases hw1 with q | ⟨r, d, _, r1, d1, r2, q, _⟩
        · omega
        · have := (hp.1 r r1).2.2.1 d d1
          omega
      refine np_W_seq (gx_pred (j := j + 1) (by omega) hC3 hw0.1 hw0.2) (fun o ho => ?_)
      obtain ⟨v5, τ5⟩ := o
      obtain ⟨x, ⟨x1, x2, x3, x4⟩, d1, d2, d3, d4⟩ := ho
      dsimp only at d1 d2 d3 d4 ⊢
      have hC5 := gx_C_fr hC3 (gx_fr_mono d1 (by simp))
      have eL : ∀ i, i ≤ j → (fun i => if i = j + 1 then x else L i) i = L i := fun i hi => if_neg (by omega)
      have eL2 : (fun i => if i = j + 1 then x else L i) (j + 1) = x := if_pos rfl
      obtain ⟨hA2, hB2⟩ := ga_L_next (g := g) hp.1 (L := L) (j := j) (w := w) (x := x) hA hB
        (fun i0 r d a1 a2 a3 a4 a5 a6 => by
          have d0 : 1 ≤ d := by
            refine Classical.byContradiction (fun q => ?_)
            have q0 : d = 0 := by omega
            rw [q0, ga_P, if_neg (by omega)] at a5
            omega
          have := (hp.1 r a2).1
          exact hw2 r d (by omega) a2 a3 a6 ⟨i0, d0, by omega, a1, a4, a5⟩)
        (by
          rcases hw1 with q | ⟨r, d, _, r1, d1, r2, q, i, _, _, i1, i2, i3⟩
          · exact Or.inl q
          · exact Or.inr ⟨i, r, d, i1, r1, d1, i2, i3, r2, q⟩)
        x1 x3 x4 (L2 := fun i => if i = j + 1 then x else L i) eL eL2
      refine np_W_mono (ih (j + 1) (fun i => if i = j + 1 then x else L i) τ5 jn jf hC5 ⟨hA2, hB2, ?_, fun i hi => ?_, fun i hi => ?_⟩ (fun k hk => ?_)) (fun o ho => ⟨gx_fr_trans a1 (gx_fr_trans b1 (gx_fr_trans c1 (gx_fr_trans d1 ho.1))), ho.2⟩)
      · rw [eL 0 (by omega)]; exact hL0
      · by_cases e : i = j + 1
        · rw [e, eL2]; exact x2
        · rw [eL i (by omega)]; exact hLn i (by omega)
      · by_cases e : i = j + 1
        · subst e
          intro r d r1 dd1
          cases d with
          | zero =>
            by_cases hv : x ≤ ga_v g r
            · rw [(d3 r r1).1 hv]
              refine gx_bit_iff (gx_bit_one (by omega)) (fun i => ⟨?_, ?_⟩)
              · rintro rfl
                refine ⟨by omega, Nat.le_refl _, by rw [eL2]; exact hv, ?_⟩
                rw [ga_P, if_pos rfl]; omega
              · rintro ⟨_, q1, q2, q3⟩
                have := ga_P_len _ _ _ q3
                rw [ga_P] at q3
                refine Classical.byContradiction (fun q => ?_)
                rw [if_neg q] at q3
                omega
            · rw [(d3 r r1).2 hv]
              refine gx_bit_iff (c3.1 r r1) (fun i => ⟨False.elim, ?_⟩)
              rintro ⟨_, q1, q2, q3⟩
              rw [ga_P] at q3
              by_cases q : i = j + 1
              · rw [q, eL2] at q2; exact hv q2
              · rw [if_neg q] at q3; omega
          | succ d =>
            rw [d4 r d r1 (by omega)]
            refine gx_bit_iff (c3.2 r d r1 (by omega)) (fun i => ⟨?_, ?_⟩)
            · rintro ⟨q1, q2, q3, q4⟩
              exact ⟨by omega, by omega, by rw [eL i q2]; exact q3, q4⟩
            · rintro ⟨q1, q2, q3, q4⟩
              have := ga_P_len _ _ _ q4
              have hij : i ≤ j := by omega
              rw [eL i hij] at q3
              exact ⟨by omega, hij, q3, q4⟩
        · have hij : i ≤ j := by omega
          have f1 := gx_full_oth R14 (gx_full_oth R14 (gx_full_oth R14 (gx_full_oth R14 (hfull i hij) a2 (by omega)) b2 (by omega)) c2 (by omega)) d2 (by omega)
          intro r d r1 dd1
          refine gx_bit_iff (f1 r d r1 dd1) (fun i2 => ⟨?_, ?_⟩)
          · rintro ⟨q1, q2, q3, q4⟩
            exact ⟨q1, q2, by rw [eL i2 (by omega)]; exact q3, q4⟩
          · rintro ⟨q1, q2, q3, q4⟩
            rw [eL i2 (by omega)] at q3
            exact ⟨q1, q2, q3, q4⟩
      · by_cases e : k = j
        · rw [e]; exact (gs_bo_1 b4).mp z
        · exact hVB k (by omega)
    · refine np_W_some ⟨gx_fr_trans a1 b1, j, rfl, by omega, hVB, fun _ q => z ((gs_bo_1 b4).mpr q), fun q => by omega⟩
theorem gx_follow (hC : gx_C g n σ) : np_W (f_Chart_follow n σ) (fun o => gx_fr [12] σ o.2 ∧ ∃ m : Nat, o.1 = m ∧ m ≤ n ∧ (∀ k, k < m → ga_VB g (k + 1) 0 0) ∧ (m < n → ¬ ga_VB g (m + 1) 0 0) ∧ (m = n → ∃ L, gx_ch g L n o.2)) := by
  obtain ⟨hp, n30, hR, hrow, htok⟩ := id hC
  have R14 := hp.2.2.1
  unfold f_Chart_follow
  refine np_W_seq (gx_empty (σ := σ) (j := 0) (by omega)) (fun o ho => ?_)
  obtain ⟨v, τ1⟩ := o
  obtain ⟨a1, a2, a3⟩ := ho
  dsimp only at a1 a2 a3 ⊢
  have hC1 := gx_C_fr hC (gx_fr_mono a1 (by simp))
  refine np_W_seq (gx_pred (j := 0) (by omega) hC1 (w := 0) (by omega) (by omega)) (fun o ho => ?_)
  obtain ⟨v2, τ2⟩ := o
  obtain ⟨x, ⟨x1, x2, x3, x4⟩, d1, d2, d3, d4⟩ := ho
  dsimp only at d1 d2 d3 d4 ⊢
  have ex : x = 0 := by omega
  subst ex
  have hC2 := gx_C_fr hC1 (gx_fr_mono d1 (by simp))
  refine np_W_mono (gx_follow_l n30 20000 0 (fun _ => 0) τ2 (by omega) (by omega) hC2 ⟨?_, ?_, Int.le_refl _, fun _ _ => Int.le_refl _, ?_⟩ (fun k hk => by omega)) (fun o ho => ⟨gx_fr_trans a1 (gx_fr_trans d1 ho.1), ho.2⟩)
  · intro i hi m him hv
    have : i = 0 := by omega
    subst this
    exact hv
  · intro i0 i r d hi hj hr hd hL hP hne
    have := (hp.1 r hr).2.2.1 d hd
    show 0 ≤ ga_h g r d
    omega
  · intro i hi
    have : i = 0 := by omega
    subst this
    intro r d r1 dd1
    have hv := (hp.1 r r1).2.1
    cases d with
    | zero =>
      rw [(d3 r r1).1 hv.1]
      refine gx_bit_iff (gx_bit_one (by omega)) (fun i => ⟨?_, ?_⟩)
      · rintro rfl
        exact ⟨by omega, Nat.le_refl _, hv.1, by rw [ga_P, if_pos rfl]; omega⟩
      · rintro ⟨_, q1, _⟩
        omega
    | succ d =>
      rw [d4 r d r1 (by omega)]
      have : gx_at τ1 0 r (d + 1) = 0 := by
        unfold gx_at
        exact a3 _ (by omega)
      rw [this]
      refine gx_bit_iff gx_bit_0 (fun i => ⟨False.elim, ?_⟩)
      rintro ⟨_, q1, _, q3⟩
      have := ga_P_len _ _ _ q3
      omega
end
