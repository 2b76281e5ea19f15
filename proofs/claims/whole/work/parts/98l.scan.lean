/-! the chart: rows of items; scan -/
/-- rule r, from place i on, has its first d parts behind it at place j -/
def gx_it (g : ga_G) (L : Nat → Int) (j r d i : Nat) : Prop := i ≤ j ∧ L i ≤ ga_v g r ∧ 0 < ga_P g (ga_C g) r d i j
def gx_at (σ : np_S) (j r d : Nat) : Int := σ 12 (((98 * j + (7 * r + d) : Nat)) : Int)
def gx_full (g : ga_G) (L : Nat → Int) (σ : np_S) (j : Nat) : Prop := ∀ r d : Nat, r < ga_R g → d < 7 → gx_bit (gx_at σ j r d) (fun i => d ≤ ga_l g r ∧ gx_it g L j r d i)
/-- cell 12 outside of row j -/
def gx_oth (j : Nat) (σ τ : np_S) : Prop := ∀ x : Nat, (x < 98 * j ∨ 98 * j + 98 ≤ x) → τ 12 (x : Int) = σ 12 (x : Int)
theorem gx_oth_trans {j : Nat} {σ τ ρ : np_S} (h : gx_oth j σ τ) (k : gx_oth j τ ρ) : gx_oth j σ ρ := fun x hx => (k x hx).trans (h x hx)
theorem gx_full_oth {g : ga_G} {L : Nat → Int} {σ τ : np_S} {j k : Nat} (hR : ga_R g ≤ 14) (h : gx_full g L σ j) (ho : gx_oth k σ τ) (hjk : j ≠ k) : gx_full g L τ j := by
  intro r d hr hd
  have : gx_at τ j r d = gx_at σ j r d := by
    unfold gx_at
    exact ho _ (by omega)
  rw [this]
  exact h r d hr hd
theorem gx_st_at (σ : np_S) (j q j2 q2 : Nat) (v : Int) (hq : q < 98) (hq2 : q2 < 98) : np_st σ 12 (((98 * j + q : Nat)) : Int) v 12 (((98 * j2 + q2 : Nat)) : Int) = if j2 = j ∧ q2 = q then v else σ 12 (((98 * j2 + q2 : Nat)) : Int) := by
  rw [np_st_rd, if_pos rfl]
  by_cases h : j2 = j ∧ q2 = q
  · rw [if_pos h, if_pos (by omega)]
  · rw [if_neg h, if_neg (by omega)]
theorem gx_oth_st (σ : np_S) (j q : Nat) (v : Int) (hq : q < 98) : gx_oth j σ (np_st σ 12 (((98 * j + q : Nat)) : Int) v) := by
  intro x hx
  rw [np_st_rd, if_pos rfl, if_neg (by omega)]
section
variable {g : ga_G} {n : Nat} {σ : np_S}
theorem gx_empty {j : Nat} (hj : j ≤ 30) : np_W (f_Chart_emptyRow j σ) (fun o => gx_fr [12] σ o.2 ∧ gx_oth j σ o.2 ∧ ∀ q : Nat, q < 98 → o.2 12 (((98 * j + q : Nat)) : Int) = 0) := by
  unfold f_Chart_emptyRow
  rw [gf_fill_12 σ (by omega) (by omega) (by omega)]
  refine np_W_bind (np_W_some (np_W_some ⟨fun k hk => ?_, fun x hx => ?_, fun q hq => ?_⟩))
  · exact gf_fill_o _ _ _ _ (fun z => hk (by rw [z]; exact List.mem_singleton.mpr rfl))
  · dsimp only
    unfold gf_fill
    rw [if_neg (by omega)]
  · dsimp only
    unfold gf_fill
    rw [if_pos ⟨rfl, by omega, by omega⟩]
/-- what scan has put down behind dots below q -/
def gx_scn (g : ga_G) (L : Nat → Int) (j q : Nat) (τ : np_S) : Prop := (∀ r : Nat, r < ga_R g → gx_bit (gx_at τ (j + 1) r 0) (fun _ => False)) ∧ ∀ r d : Nat, r < ga_R g → d < 6 → gx_bit (gx_at τ (j + 1) r (d + 1)) (fun i => 7 * r + d < q ∧ d < ga_l g r ∧ ga_h g r d = -1 ∧ ga_w g r d = ga_t g j ∧ gx_it g L j r d i)
theorem gx_scan_l {L : Nat → Int} {j : Nat} (hj : j < n) : ∀ (f q : Nat) (b : Int) (τ : np_S), q ≤ 7 * ga_R g → 7 * ga_R g - q < f → gx_C g n τ → gx_full g L τ j → gx_scn g L j q τ → gs_bo b (∃ r d i, 7 * r + d < q ∧ r < ga_R g ∧ d < ga_l g r ∧ ga_h g r d = -1 ∧ ga_w g r d = ga_t g j ∧ gx_it g L j r d i) → np_W (f_Chart_scan_19 f (ga_t g j) (((98 * j : Nat)) : Int) (((98 * (j + 1) : Nat)) : Int) b q τ) (fun o => gx_fr [12] τ o.2 ∧ gx_oth (j + 1) τ o.2 ∧ gx_scn g L j (7 * ga_R g) o.2 ∧ gs_bo o.1 (∃ r d i, r < ga_R g ∧ d < ga_l g r ∧ ga_h g r d = -1 ∧ ga_w g r d = ga_t g j ∧ gx_it g L j r d i)) := by
  intro f
  induction f with
  | zero => intro q b τ _ h; omega
  | succ f ih =>
    intro q b τ hq hf hC hfull hs hb
    obtain ⟨hp, n30, hR, hrow, htok⟩ := id hC
    have R14 := hp.2.2.1
    show np_W (f_Chart_scan_19_b _ (ga_t g j) _ _ b q τ) _
    unfold f_Chart_scan_19_b f_Chart_scan_84
    rw [gx_dots hC]
    refine np_W_bind (np_W_some ?_)
    dsimp only
    refine np_W_ck ⟨⟨by omega, by omega⟩, ⟨by omega, by omega⟩⟩ ?_
    refine np_W_if (fun h => ?_) (fun h => ?_)
    · have eq : q = 7 * ga_R g := by omega
      subst eq
      refine np_W_ck (gs_bo_01 hb) (np_W_some ⟨gx_fr_refl _ _, fun _ _ => rfl, hs, gs_bo_iff hb ⟨?_, ?_⟩⟩)
      · rintro ⟨r, d, i, _, a⟩; exact ⟨r, d, i, a⟩
      · rintro ⟨r, d, i, a1, a2, a⟩
        have := (hp.1 r a1).1
        exact ⟨r, d, i, by omega, a1, a2, a⟩
    · have hr : q / 7 < ga_R g := by omega
      have hd : q % 7 < 7 := by omega
      have eq : 7 * (q / 7) + q % 7 = q := by omega
      have el := (hp.1 (q / 7) hr).1
      have e1 : ((98 * j : Nat) : Int) + q = ((98 * j + q : Nat) : Int) := by omega
      have hbit := hfull (q / 7) (q % 7) hr hd
      unfold gx_at at hbit
      rw [eq] at hbit
      rw [e1]
      have next : ∀ (b2 : Int) (ρ : np_S), gx_fr [12] τ ρ → gx_oth (j + 1) τ ρ → gx_scn g L j (q + 1) ρ → gs_bo b2 (∃ r d i, 7 * r + d < q + 1 ∧ r < ga_R g ∧ d < ga_l g r ∧ ga_h g r d = -1 ∧ ga_w g r d = ga_t g j ∧ gx_it g L j r d i) → np_W (f_Chart_scan_19 f (ga_t g j) (((98 * j : Nat)) : Int) (((98 * (j + 1) : Nat)) : Int) b2 ((q : Int) + 1) ρ) (fun o => gx_fr [12] τ o.2 ∧ gx_oth (j + 1) τ o.2 ∧ gx_scn g L j (7 * ga_R g) o.2 ∧ gs_bo o.1 (∃ r d i, r < ga_R g ∧ d < ga_l g r ∧ ga_h g r d = -1 ∧ ga_w g r d = ga_t g j ∧ gx_it g L j r d i)) := by
        intro b2 ρ r1 r2 r3 r4
        refine np_W_mono (ih (q + 1) b2 ρ (by omega) (by omega) (gx_C_fr hC (gx_fr_mono r1 (by simp))) (gx_full_oth R14 hfull r2 (by omega)) r3 r4) (fun o ho => ⟨gx_fr_trans r1 ho.1, gx_oth_trans r2 ho.2.1, ho.2.2⟩)
      have skip : (¬ (q % 7 < ga_l g (q / 7) ∧ ga_h g (q / 7) (q % 7) = -1 ∧ ga_w g (q / 7) (q % 7) = ga_t g j ∧ ∃ i, gx_it g L j (q / 7) (q % 7) i)) → np_W (f_Chart_scan_19 f (ga_t g j) (((98 * j : Nat)) : Int) (((98 * (j + 1) : Nat)) : Int) b ((q : Int) + 1) τ) (fun o => gx_fr [12] τ o.2 ∧ gx_oth (j + 1) τ o.2 ∧ gx_scn g L j (7 * ga_R g) o.2 ∧ gs_bo o.1 (∃ r d i, r < ga_R g ∧ d < ga_l g r ∧ ga_h g r d = -1 ∧ ga_w g r d = ga_t g j ∧ gx_it g L j r d i)) := by
        intro hno
        refine next b τ (gx_fr_refl _ _) (fun _ _ => rfl) ⟨hs.1, fun r d r1 d1 => gx_bit_iff (hs.2 r d r1 d1) (fun i => ⟨fun ⟨a, c⟩ => ⟨by omega, c⟩, fun ⟨a, c⟩ => ⟨?_, c⟩⟩)⟩ (gs_bo_iff hb ⟨fun ⟨r, d, i, a, c⟩ => ⟨r, d, i, by omega, c⟩, fun ⟨r, d, i, a, c⟩ => ⟨r, d, i, ?_, c⟩⟩)
        · by_cases z : 7 * r + d = q
          · have zr : q / 7 = r := by omega
            have zd : q % 7 = d := by omega
            rw [zr, zd] at hno
            exact absurd ⟨c.1, c.2.1, c.2.2.1, i, c.2.2.2⟩ hno
          · omega
        · by_cases z : 7 * r + d = q
          · have d6 := (hp.1 r c.1).1
            have zr : q / 7 = r := by omega
            have zd : q % 7 = d := by omega
            rw [zr, zd] at hno
            exact absurd ⟨c.2.1, c.2.2.1, c.2.2.2.1, i, c.2.2.2.2⟩ hno
          · omega
      refine np_W_ck ⟨by omega, by omega⟩ ?_
      refine np_W_ck (gx_bit_R hbit) ?_
      refine np_W_if (fun z => skip ?_) (fun z => ?_)
      · rintro ⟨a1, a2, a3, i, a4⟩
        exact (gx_bit_ne hbit).mpr ⟨i, by omega, a4⟩ z
      · refine np_W_ck ⟨by omega, by omega⟩ ?_
        obtain ⟨h5, h4, hdd⟩ := hrow (q / 7) hr
        have hdq := hdd (q % 7) hd
        have e3 : 7 * ((q / 7 : Nat) : Int) + ((q % 7 : Nat) : Int) = (q : Int) := by omega
        rw [e3] at hdq
        refine np_W_ck ⟨hdq.1, (htok j hj).2.2⟩ ?_
        refine np_W_ck (np_cmpR _ _) ?_
        refine np_W_if (fun z2 => skip ?_) (fun z2 => ?_)
        · rintro ⟨a1, a2, a3, i, a4⟩
          rcases hdq.2 with ⟨c1, c2, ⟨c3, c4⟩ | ⟨c3, c4⟩⟩ | ⟨c1, c2⟩
          · exact z2 (np_cmp0.mpr (by rw [c4, a3]))
          · exact c3 a2
          · omega
        · have z3 : τ 3 (q : Int) = ga_t g j := np_cmp0.mp (Classical.not_not.mp z2)
          have hm : q % 7 < ga_l g (q / 7) ∧ ga_h g (q / 7) (q % 7) = -1 ∧ ga_w g (q / 7) (q % 7) = ga_t g j := by
            rcases hdq.2 with ⟨c1, c2, ⟨c3, c4⟩ | ⟨c3, c4⟩⟩ | ⟨c1, c2, c3⟩
            · exact ⟨c1, c3, by rw [← c4, z3]⟩
            · rw [c4] at z3; exact absurd z3.symm (htok j hj).2.1
            · rw [c3] at z3; exact absurd z3.symm (htok j hj).2.1
          have e2 : ((98 * (j + 1) : Nat) : Int) + q + 1 = ((98 * (j + 1) + (q + 1) : Nat) : Int) := by omega
          rw [e2]
          refine np_W_ck ⟨by omega, by omega⟩ ?_
          refine np_W_ck ⟨by omega, by omega⟩ ?_
          refine next 1 _ (gx_fr_st _ _ _ _) (gx_oth_st _ _ _ _ (by omega)) ⟨fun r r1 => ?_, fun r d r1 d1 => ?_⟩ ?_
          · unfold gx_at
            rw [gx_st_at _ _ _ _ _ _ (by omega) (by omega), if_neg (by omega)]
            exact hs.1 r r1
          · unfold gx_at
            rw [gx_st_at _ _ _ _ _ _ (by omega) (by omega)]
            by_cases zz : 7 * r + d = q
            · have zr : q / 7 = r := by omega
              have zd : q % 7 = d := by omega
              rw [if_pos (by omega)]
              rw [zr, zd] at hbit hm
              exact gx_bit_iff hbit (fun i => ⟨fun a => ⟨by omega, hm.1, hm.2.1, hm.2.2, a.2⟩, fun a => ⟨by omega, a.2.2.2.2⟩⟩)
            · rw [if_neg (by omega)]
              exact gx_bit_iff (hs.2 r d r1 d1) (fun i => ⟨fun ⟨a, c⟩ => ⟨by omega, c⟩, fun ⟨a, c⟩ => ⟨by omega, c⟩⟩)
          · obtain ⟨i, hi⟩ := (gx_bit_ne hbit).mp z
            exact Or.inl ⟨rfl, q / 7, q % 7, i, by omega, hr, hm.1, hm.2.1, hm.2.2, hi.2⟩
theorem gx_scan {L : Nat → Int} {j : Nat} (hj : j < n) (hC : gx_C g n σ) (hfull : gx_full g L σ j) (h0 : ∀ q : Nat, q < 98 → σ 12 (((98 * (j + 1) + q : Nat)) : Int) = 0) : np_W (f_Chart_scan j (ga_t g j) σ) (fun o => gx_fr [12] σ o.2 ∧ gx_oth (j + 1) σ o.2 ∧ gx_scn g L j (7 * ga_R g) o.2 ∧ gs_bo o.1 (∃ r d i, r < ga_R g ∧ d < ga_l g r ∧ ga_h g r d = -1 ∧ ga_w g r d = ga_t g j ∧ gx_it g L j r d i)) := by
  have R14 := hC.1.2.2.1
  unfold f_Chart_scan
  have e1 : (j : Int) * 98 = ((98 * j : Nat) : Int) := by omega
  have e2 : ((98 * j : Nat) : Int) + 98 = ((98 * (j + 1) : Nat) : Int) := by omega
  rw [e1, e2]
  refine gx_scan_l hj 20000 0 0 σ (by omega) (by omega) hC hfull ⟨fun r r1 => ?_, fun r d r1 d1 => ?_⟩ (Or.inr ⟨rfl, fun ⟨r, d, i, a, _⟩ => by omega⟩)
  · unfold gx_at
    rw [h0 _ (by omega)]; exact gx_bit_0
  · unfold gx_at
    rw [h0 _ (by omega)]
    exact gx_bit_iff gx_bit_0 (fun i => ⟨False.elim, fun a => by omega⟩)
end
