/-! counting the trees: the class's countTrees -/
section
variable {g : ga_G} {n : Nat}
/-- the ways of row m, from origin i -/
def gx_wok (g : ga_G) (L : Nat → Int) (i m : Nat) (σ : np_S) : Prop := ∀ r d, r < ga_R g → d ≤ ga_l g r → L i ≤ ga_v g r → 0 < ga_P g (ga_C g) r d i m → gx_wy σ m r d = ga_sat (ga_P g (ga_C g) r d i m)
/-- the trees of all rows of words that begin at s or behind it -/
def gx_tok (g : ga_G) (L : Nat → Int) (n s : Nat) (σ : np_S) : Prop := ∀ i, s ≤ i → i < n → L i ≤ 10 → ∀ j q : Nat, i < j → j ≤ n → q ≤ 10 → L i ≤ q → gx_tr σ i j q = ga_sat (ga_C g q i j)
theorem gx_split {σ : np_S} {L : Nat → Int} (hC : gx_C g n σ) (hch : gx_ch g L n σ) {i j r d h : Nat} (hij : i < j) (hj : j ≤ n) (hr : r < ga_R g) (hd : d < ga_l g r) (hd1 : 1 ≤ d) (hh : ga_h g r d = h) (hv : L i ≤ ga_v g r) (hw : ∀ m, i ≤ m → m < j → gx_wok g L i m σ) (ht : gx_tok g L n (i + 1) σ) : ∀ (f m : Nat) (A : Nat), i < m → m ≤ j → j - m < f → A = ga_sum m (fun m => if i < m then ga_sat (ga_P g (ga_C g) r d i m) * ga_sat (ga_C g h m j) else 0) → A ≤ m * 1000000000000 → np_W (f_Chart_countSplits_8 f (((7 * r + d : Nat)) : Int) h i j A m σ) (fun o => o.2 = σ ∧ o.1 = ga_sat (ga_P g (ga_C g) r (d + 1) i j)) := by
  obtain ⟨hp, n30, hR, hrow, htok⟩ := id hC
  have R14 := hp.2.2.1
  obtain ⟨hA, hB, hL0, hLn, hfull⟩ := id hch
  have hlen := (hp.1 r hr).1
  have hh10 := (hp.1 r hr).2.2.1 d hd
  have hne : ga_h g r d ≠ -1 := by omega
  intro f
  induction f with
  | zero => intro m A _ _ h; omega
  | succ f ih =>
    intro m A im mj hf eA bA
    show np_W (f_Chart_countSplits_8_b _ _ h i j A m σ) _
    unfold f_Chart_countSplits_8_b f_Chart_countSplits_60
    refine np_W_ck ⟨⟨by omega, by omega⟩, ⟨by omega, by omega⟩⟩ ?_
    refine np_W_if (fun z => ?_) (fun z => ?_)
    · have e : m = j := by omega
      subst e
      refine np_W_ck ⟨⟨by omega, by omega⟩, by decide⟩ ?_
      refine np_W_some ⟨rfl, ?_⟩
      dsimp only
      have e1 : ga_sat A = ga_sat (ga_P g (ga_C g) r (d + 1) i m) := by
        rw [eA]
        show _ = ga_sat (if ga_h g r d = -1 then _ else ga_sum m (fun k => if i ≤ k then ga_P g (ga_C g) r d i k * ga_C g (ga_h g r d) k m else 0))
        rw [if_neg hne]
        refine ga_sat_sum (fun k hk => ?_)
        by_cases k1 : i < k
        · rw [if_pos k1, if_pos (by omega), ga_sat_mul, hh]
        · rw [if_neg k1]
          by_cases k2 : i ≤ k
          · rw [if_pos k2]
            have : ga_P g (ga_C g) r d i k = 0 := by
              refine Classical.byContradiction (fun y => ?_)
              have := ga_P_len _ _ _ (Nat.pos_of_ne_zero y)
              omega
            rw [this, Nat.zero_mul]
          · rw [if_neg k2]
      rw [← e1]
      unfold np_min ga_sat
      by_cases y : A ≤ 1000000
      · rw [if_pos y, if_neg (by omega)]
      · rw [if_neg y, if_pos (by omega)]; decide
    · have hbit := hfull m (by omega) r d hr (by omega)
      have e1 : (m : Int) + 1 = ((m + 1 : Nat) : Int) := by omega
      have s1 : ga_sum (m + 1) (fun m => if i < m then ga_sat (ga_P g (ga_C g) r d i m) * ga_sat (ga_C g h m j) else 0) = A + ga_sat (ga_P g (ga_C g) r d i m) * ga_sat (ga_C g h m j) := by
        show ga_sum m _ + (if i < m then _ else _) = _
        rw [if_pos im, eA]
      refine np_W_seq (gx_reach (by omega) (by omega) hbit) (fun o ho => ?_)
      obtain ⟨v, τ2⟩ := o
      obtain ⟨e, hb⟩ := ho
      dsimp only at e hb ⊢
      subst e
      rw [e1]
      refine np_W_ck (gs_bo_R hb) ?_
      refine np_W_if (fun y => ?_) (fun y => ?_)
      · have p0 : ga_P g (ga_C g) r d i m = 0 := by
          refine Classical.byContradiction (fun w => ?_)
          exact absurd y ((gs_bo_1 hb).mpr ⟨by omega, by omega, hv, by omega⟩)
        have s0 : A = ga_sum (m + 1) (fun m => if i < m then ga_sat (ga_P g (ga_C g) r d i m) * ga_sat (ga_C g h m j) else 0) := by
          rw [s1, p0]
          show A = A + 0 * _
          rw [Nat.zero_mul]; rfl
        exact ih (m + 1) A (by omega) (by omega) (by omega) s0 (Nat.le_trans bA (Nat.mul_le_mul_right _ (Nat.le_succ m)))
      · obtain ⟨_, _, _, pos⟩ := (gs_bo_1 hb).mp y
        have wv := hw m (by omega) (by omega) r d hr (by omega) hv pos
        unfold gx_wy at wv
        have Lm := hB i m r d (by omega) (by omega) hr hd hv pos hne
        have tv := ht m (by omega) (by omega) (by omega) j h (by omega) hj (by omega) (by omega)
        unfold gx_tr at tv
        have e2 : (m : Int) * 98 + ((7 * r + d : Nat) : Int) = ((98 * m + (7 * r + d) : Nat) : Int) := by omega
        have s2 := ga_sat_le (ga_P g (ga_C g) r d i m)
        have s3 := ga_sat_le (ga_C g h m j)
        have bc := gx_cel_lt (i := m) (j := j) (l := h) (by omega) (by omega) (by omega)
        rw [e2]
        refine np_W_ck ⟨by omega, by omega⟩ ?_
        refine np_W_ck (by rw [wv]; exact ⟨by omega, by omega⟩) ?_
        rw [wv, gx_cell (by omega)]
        refine np_W_bind (np_W_some ?_)
        dsimp only
        refine np_W_ck ⟨by omega, by omega⟩ ?_
        refine np_W_ck (by rw [tv]; exact ⟨by omega, by omega⟩) ?_
        rw [tv]
        have hmul : ga_sat (ga_P g (ga_C g) r d i m) * ga_sat (ga_C g h m j) ≤ 1000000000000 := by
          have := Nat.mul_le_mul s2 s3
          exact this
        have := ih (m + 1) (A + ga_sat (ga_P g (ga_C g) r d i m) * ga_sat (ga_C g h m j)) (by omega) (by omega) (by omega) s1.symm (by omega)
        rw [Int.natCast_add, Int.natCast_mul] at this
        exact this
def gx_owy (j r : Nat) (σ τ : np_S) : Prop := ∀ m r2 d : Nat, r2 < 14 → d < 7 → ¬ (m = j ∧ r2 = r) → gx_wy τ m r2 d = gx_wy σ m r2 d
theorem gx_rule_l {L : Nat → Int} {i j r : Nat} (hij : i < j) (hj : j ≤ n) (hr : r < ga_R g) : ∀ (f d : Nat) (σ : np_S), 1 ≤ d → d ≤ ga_l g r + 1 → ga_l g r + 1 - d < f → gx_C g n σ → gx_ch g L n σ → (∀ m, i ≤ m → m < j → gx_wok g L i m σ) → gx_tok g L n (i + 1) σ → (∀ d2, 1 ≤ d2 → d2 < d → (2 ≤ d2 ∨ ga_h g r 0 = -1) → L i ≤ ga_v g r → 0 < ga_P g (ga_C g) r d2 i j → gx_wy σ j r d2 = ga_sat (ga_P g (ga_C g) r d2 i j)) → np_W (f_Chart_countRule_22 f i j (((7 * r : Nat)) : Int) (((7 * r + ga_l g r : Nat)) : Int) (((7 * r + d : Nat)) : Int) σ) (fun o => gx_fr [13] σ o.2 ∧ gx_owy j r σ o.2 ∧ (∀ d2, 1 ≤ d2 → d2 ≤ ga_l g r → (2 ≤ d2 ∨ ga_h g r 0 = -1) → L i ≤ ga_v g r → 0 < ga_P g (ga_C g) r d2 i j → gx_wy o.2 j r d2 = ga_sat (ga_P g (ga_C g) r d2 i j))) := by
  intro f
  induction f with
  | zero => intro d σ _ _ h; omega
  | succ f ih =>
    intro d σ d1 dl hf hC hch hw ht hd
    obtain ⟨hp, n30, hR, hrow, htok⟩ := id hC
    have R14 := hp.2.2.1
    obtain ⟨hA, hB, hL0, hLn, hfull⟩ := id hch
    have hlen := (hp.1 r hr).1
    show np_W (f_Chart_countRule_22_b _ i j _ _ _ σ) _
    unfold f_Chart_countRule_22_b f_Chart_countRule_124
    refine np_W_ck ⟨⟨by omega, by omega⟩, ⟨by omega, by omega⟩⟩ ?_
    refine np_W_if (fun z => np_W_some ⟨gx_fr_refl _ _, fun _ _ _ _ _ _ => rfl, fun d2 a b => hd d2 a (by omega)⟩) (fun z => ?_)
    have hbit := hfull j hj r d hr (by omega)
    have e1 : ((7 * r + d : Nat) : Int) + 1 = ((7 * r + (d + 1) : Nat) : Int) := by omega
    -- going on with the row as it is
    have skip : (L i ≤ ga_v g r → 0 < ga_P g (ga_C g) r d i j → (2 ≤ d ∨ ga_h g r 0 = -1) → False) → np_W (f_Chart_countRule_22 f i j (((7 * r : Nat)) : Int) (((7 * r + ga_l g r : Nat)) : Int) (((7 * r + (d + 1) : Nat)) : Int) σ) (fun o => gx_fr [13] σ o.2 ∧ gx_owy j r σ o.2 ∧ (∀ d2, 1 ≤ d2 → d2 ≤ ga_l g r → (2 ≤ d2 ∨ ga_h g r 0 = -1) → L i ≤ ga_v g r → 0 < ga_P g (ga_C g) r d2 i j → gx_wy o.2 j r d2 = ga_sat (ga_P g (ga_C g) r d2 i j))) := by
      intro hno
      refine ih (d + 1) σ (by omega) (by omega) (by omega) hC hch hw ht (fun d2 a1 a2 a3 a4 a5 => ?_)
      by_cases e : d2 = d
      · rw [e] at a3 a5; exact absurd (hno a4 a5 a3) id
      · exact hd d2 a1 (by omega) a3 a4 a5
    have put : ∀ v : Int, (L i ≤ ga_v g r → 0 < ga_P g (ga_C g) r d i j → v = ga_sat (ga_P g (ga_C g) r d i j)) → np_W (f_Chart_countRule_22 f i j (((7 * r : Nat)) : Int) (((7 * r + ga_l g r : Nat)) : Int) (((7 * r + (d + 1) : Nat)) : Int) (np_st σ 13 (((98 * j + (7 * r + d) : Nat)) : Int) v)) (fun o => gx_fr [13] σ o.2 ∧ gx_owy j r σ o.2 ∧ (∀ d2, 1 ≤ d2 → d2 ≤ ga_l g r → (2 ≤ d2 ∨ ga_h g r 0 = -1) → L i ≤ ga_v g r → 0 < ga_P g (ga_C g) r d2 i j → gx_wy o.2 j r d2 = ga_sat (ga_P g (ga_C g) r d2 i j))) := by
      intro v hv
      have fr := gx_fr_st σ 13 (((98 * j + (7 * r + d) : Nat)) : Int) v
      have ow : gx_owy j r σ (np_st σ 13 (((98 * j + (7 * r + d) : Nat)) : Int) v) := by
        intro m r2 d2 r3 d3 hn
        rw [gx_wy_st (by omega) (by omega) r3 d3, if_neg (fun y => hn ⟨y.1, y.2.1⟩)]
      have hch2 : gx_ch g L n (np_st σ 13 (((98 * j + (7 * r + d) : Nat)) : Int) v) := by
        refine ⟨hA, hB, hL0, hLn, fun i2 hi2 r2 d2 r3 d3 => ?_⟩
        unfold gx_at
        rw [fr 12 (by decide)]
        exact hfull i2 hi2 r2 d2 r3 d3
      refine np_W_mono (ih (d + 1) _ (by omega) (by omega) (by omega) (gx_C_fr hC (gx_fr_mono fr (by simp))) hch2 (fun m m1 m2 r2 d2 r3 d3 a1 a2 => ?_) (fun i2 a1 a2 a3 j2 q a4 a5 a6 a7 => ?_) (fun d2 a1 a2 a3 a4 a5 => ?_)) (fun o ho => ⟨gx_fr_trans fr ho.1, fun m r2 d2 r3 d3 hn => (ho.2.1 m r2 d2 r3 d3 hn).trans (ow m r2 d2 r3 d3 hn), ho.2.2⟩)
      · have := (hp.1 r2 r3).1
        rw [ow m r2 d2 (by omega) (by omega) (by omega)]
        exact hw m m1 m2 r2 d2 r3 d3 a1 a2
      · unfold gx_tr
        rw [fr 14 (by decide)]
        exact ht i2 a1 a2 a3 j2 q a4 a5 a6 a7
      · rw [gx_wy_st (by omega) (by omega) (by omega) (by omega)]
        by_cases e : d2 = d
        · rw [if_pos ⟨rfl, rfl, e⟩, e]
          rw [e] at a5
          exact hv a4 a5
        · rw [if_neg (fun y => e y.2.2)]
          exact hd d2 a1 (by omega) a3 a4 a5
    refine np_W_seq (gx_reach (by omega) (by omega) hbit) (fun o ho => ?_)
    obtain ⟨v, τ2⟩ := o
    obtain ⟨e, hb⟩ := ho
    dsimp only at e hb ⊢
    subst e
    rw [e1]
    refine np_W_ck (gs_bo_R hb) ?_
    refine np_W_if (fun y => skip (fun a1 a2 _ => absurd y ((gs_bo_1 hb).mpr ⟨by omega, by omega, a1, a2⟩))) (fun y => ?_)
    obtain ⟨_, _, hv, pos⟩ := (gs_bo_1 hb).mp y
    obtain ⟨k, hk⟩ : ∃ k, d = k + 1 := ⟨d - 1, by omega⟩
    subst hk
    obtain ⟨h5, h4, hdd⟩ := hrow r hr
    have hdq := hdd k (by omega)
    have e3 : ((7 * r + (k + 1) : Nat) : Int) - 1 = 7 * (r : Int) + (k : Int) := by omega
    have e2 : τ2 2 (((7 * r + (k + 1) : Nat) : Int) - 1) = ga_h g r k := by
      rw [e3]
      rcases hdq.2 with ⟨_, c2, _⟩ | ⟨c1, _⟩
      · exact c2
      · omega
    have hh := (hp.1 r hr).2.2.1 k (by omega)
    refine np_W_ck ⟨by omega, by omega⟩ ?_
    refine np_W_ck ⟨by rw [e2]; exact ⟨by omega, by omega⟩, by decide⟩ ?_
    refine np_W_if (fun hne => ?_) (fun hne => ?_) <;> rw [e2] at hne
    · refine np_W_ck ⟨⟨by omega, by omega⟩, ⟨by omega, by omega⟩⟩ ?_
      refine np_W_if (fun y2 => skip (fun _ _ a => ?_)) (fun y2 => ?_)
      · have k0 : k = 0 := by omega
        rw [k0] at hne
        rcases a with a | a
        · omega
        · exact hne a
      · obtain ⟨h, eh⟩ : ∃ h : Nat, ga_h g r k = h := ⟨(ga_h g r k).toNat, by omega⟩
        rw [e2, e3, eh]
        unfold f_Chart_countSplits
        have e4 : 7 * (r : Int) + (k : Int) = ((7 * r + k : Nat) : Int) := by omega
        rw [e4]
        refine np_W_seq (gx_split hC hch hij hj hr (by omega) (by omega) eh hv hw ht 20000 (i + 1) 0 (by omega) (by omega) (by omega) ?_ (by omega)) (fun o ho => ?_)
        · symm
          refine ga_sum_zero (fun m hm => ?_)
          rw [if_neg (by omega)]
        obtain ⟨w, τ3⟩ := o
        obtain ⟨e, hval⟩ := ho
        dsimp only at e hval ⊢
        subst e
        have e5 : (j : Int) * 98 + ((7 * r + (k + 1) : Nat) : Int) = ((98 * j + (7 * r + (k + 1)) : Nat) : Int) := by omega
        rw [e5]
        refine np_W_ck ⟨by omega, by omega⟩ ?_
        exact put w (fun _ _ => hval)
    · have hne := Classical.not_not.mp hne
      obtain ⟨j2, hj2⟩ : ∃ j2, j = j2 + 1 := ⟨j - 1, by omega⟩
      subst hj2
      have hwd := (ga_P_word hne).mp pos
      have e6 : (((j2 + 1 : Nat) : Int) - 1) * 98 + ((7 * r + (k + 1) : Nat) : Int) - 1 = ((98 * j2 + (7 * r + k) : Nat) : Int) := by omega
      have e5 : ((j2 + 1 : Nat) : Int) * 98 + ((7 * r + (k + 1) : Nat) : Int) = ((98 * (j2 + 1) + (7 * r + (k + 1)) : Nat) : Int) := by omega
      rw [e6, e5]
      refine np_W_ck ⟨by omega, by omega⟩ ?_
      refine np_W_ck ⟨by omega, by omega⟩ ?_
      refine put _ (fun _ _ => ?_)
      have hl := ga_P_len _ _ _ hwd.2
      have := hw j2 (by omega) (by omega) r k hr (by omega) hv hwd.2
      unfold gx_wy at this
      rw [this]
      congr 2
      show _ = if ga_h g r k = -1 then (if i < j2 + 1 ∧ ga_t g (j2 + 1 - 1) = ga_w g r k then ga_P g (ga_C g) r k i (j2 + 1 - 1) else 0) else _
      rw [if_pos hne, Nat.add_sub_cancel, if_pos ⟨hij, hwd.1⟩]
theorem gx_rule {σ : np_S} {L : Nat → Int} {i j r : Nat} (hij : i < j) (hj : j ≤ n) (hr : r < ga_R g) (hC : gx_C g n σ) (hch : gx_ch g L n σ) (hw : ∀ m, i ≤ m → m < j → gx_wok g L i m σ) (ht : gx_tok g L n (i + 1) σ) : np_W (f_Chart_countRule r i j σ) (fun o => gx_fr [13] σ o.2 ∧ gx_owy j r σ o.2 ∧ (∀ d2, 1 ≤ d2 → d2 ≤ ga_l g r → (2 ≤ d2 ∨ ga_h g r 0 = -1) → L i ≤ ga_v g r → 0 < ga_P g (ga_C g) r d2 i j → gx_wy o.2 j r d2 = ga_sat (ga_P g (ga_C g) r d2 i j))) := by
  unfold f_Chart_countRule
  rw [gx_lastDot hC hr]
  refine np_W_bind (np_W_some ?_)
  dsimp only
  have e1 : (r : Int) * 7 = ((7 * r : Nat) : Int) := by omega
  have e2 : ((7 * r : Nat) : Int) + 1 = ((7 * r + 1 : Nat) : Int) := by omega
  rw [e1, e2]
  exact gx_rule_l hij hj hr 20000 1 σ (by omega) (by omega) (by have := (hC.1.1 r hr).1; omega) hC hch hw ht (fun d2 a b => by omega)
theorem gx_fh_l {i j : Nat} (hij : i < j) (hj : j ≤ 30) : ∀ (f k : Nat) (σ : np_S), k ≤ ga_R g → ga_R g - k < f → gx_C g n σ → np_W (f_Chart_countFirstHoles_2 f i j k σ) (fun o => gx_fr [13] σ o.2 ∧ (∀ m r d : Nat, r < 14 → d < 7 → ¬ (m = j ∧ d = 1 ∧ k ≤ r ∧ r < ga_R g ∧ ga_h g r 0 ≠ -1) → gx_wy o.2 m r d = gx_wy σ m r d) ∧ ∀ r h : Nat, k ≤ r → r < ga_R g → ga_h g r 0 = h → gx_wy o.2 j r 1 = gx_tr σ i j h) := by
  intro f
  induction f with
  | zero => intro k σ _ h; omega
  | succ f ih =>
    intro k σ hk hf hC
    obtain ⟨hp, n30, hR, hrow, htok⟩ := id hC
    have R14 := hp.2.2.1
    show np_W (f_Chart_countFirstHoles_2_b _ i j k σ) _
    unfold f_Chart_countFirstHoles_2_b f_Chart_countFirstHoles_64
    rw [hR]
    refine np_W_ck ⟨⟨by omega, by omega⟩, ⟨by omega, by omega⟩⟩ ?_
    refine np_W_if (fun h => np_W_some ⟨gx_fr_refl _ _, fun _ _ _ _ _ _ => rfl, fun r h a b => by omega⟩) (fun h => ?_)
    have hkR : k < ga_R g := by omega
    obtain ⟨hl, hv⟩ := gx_len hC hkR
    obtain ⟨h5, h4, hdd⟩ := hrow k hkR
    have hd0 := hdd 0 (by decide)
    have hh := (hp.1 k hkR).2.2.1 0 (by omega)
    have e2 : σ 2 ((k : Int) * 7) = ga_h g k 0 := by
      rcases hd0.2 with ⟨_, c2, _⟩ | ⟨c1, _⟩
      · rw [← c2]; congr 1; omega
      · omega
    rw [e2]
    refine np_W_ck ⟨by omega, by omega⟩ ?_
    refine np_W_ck ⟨⟨by omega, by omega⟩, by decide⟩ ?_
    refine np_W_if (fun z => ?_) (fun z => ?_)
    · refine np_W_mono (ih (k + 1) σ (by omega) (by omega) hC) (fun o ho => ⟨ho.1, fun m r d r1 d1 hn => ho.2.1 m r d r1 d1 (fun y => hn ⟨y.1, y.2.1, by omega, y.2.2.2⟩), fun r h a b c => ho.2.2 r h ?_ b c⟩)
      by_cases e : r = k
      · rw [e, z] at c; omega
      · omega
    · obtain ⟨h0, eh⟩ : ∃ h : Nat, ga_h g k 0 = h := ⟨(ga_h g k 0).toNat, by omega⟩
      have bc := gx_cel_lt (i := i) (j := j) (l := h0) hij hj (by omega)
      rw [eh, gx_cell hj]
      refine np_W_bind (np_W_some ?_)
      dsimp only
      refine np_W_ck ⟨by omega, by omega⟩ ?_
      have e5 : (j : Int) * 98 + (k : Int) * 7 + 1 = ((98 * j + (7 * k + 1) : Nat) : Int) := by omega
      rw [e5]
      refine np_W_ck ⟨by omega, by omega⟩ ?_
      have fr := gx_fr_st σ 13 (((98 * j + (7 * k + 1) : Nat)) : Int) (σ 14 ((gx_cel i j h0 : Nat) : Int))
      refine np_W_mono (ih (k + 1) _ (by omega) (by omega) (gx_C_fr hC (gx_fr_mono fr (by simp)))) (fun o ho => ⟨gx_fr_trans fr ho.1, fun m r d r1 d1 hn => ?_, fun r hq a b c => ?_⟩)
      · rw [ho.2.1 m r d r1 d1 (fun y => hn ⟨y.1, y.2.1, by omega, y.2.2.2⟩), gx_wy_st (by omega) (by omega) r1 d1]
        rw [if_neg (fun y => hn ⟨y.1, y.2.2, by omega, by omega, by rw [y.2.1]; exact z⟩)]
      · by_cases e : r = k
        · subst e
          have : hq = h0 := by omega
          subst this
          rw [ho.2.1 j r 1 (by omega) (by omega) (fun y => by have := y.2.2.1; omega), gx_wy_st (by omega) (by omega) (by omega) (by omega), if_pos ⟨rfl, rfl, rfl⟩]
          rfl
        · rw [ho.2.2 r hq (by omega) b c]
          unfold gx_tr
          rw [fr 14 (by decide)]
theorem gx_P1 {L : Nat → Int} {r i j : Nat} (hij : i < j) (hne : ga_h g r 0 ≠ -1) : ga_P g (ga_C g) r 1 i j = ga_C g (ga_h g r 0) i j := by
  show (if ga_h g r 0 = -1 then _ else ga_sum j (fun m => if i ≤ m then ga_P g (ga_C g) r 0 i m * ga_C g (ga_h g r 0) m j else 0)) = _
  rw [if_neg hne, ga_sum_one hij (fun m hm hmi => ?_)]
  · rw [if_pos (Nat.le_refl _), ga_P, if_pos rfl, Nat.one_mul]
  · by_cases h : i ≤ m
    · rw [if_pos h, ga_P, if_neg (fun z => hmi z.symm), Nat.zero_mul]
    · rw [if_neg h]
end
