/-! the reference: canBegin -/
section
variable {g : ga_G} {n : Nat}
theorem gz_b_st {l i l2 i2 : Nat} (hi : i < 31) (hi2 : i2 < 31) (σ : np_S) (v : Int) : gz_b (np_st σ 39 (((31 * l + i : Nat)) : Int) v) l2 i2 = if l2 = l ∧ i2 = i then v else gz_b σ l2 i2 := by
  unfold gz_b
  rw [np_st_rd, if_pos rfl]
  by_cases h : l2 = l ∧ i2 = i
  · rw [if_pos h, if_pos (by omega)]
  · rw [if_neg h, if_neg (by omega)]
theorem gz_p_st {l i l2 i2 : Nat} (hi : i < 31) (hi2 : i2 < 31) (σ : np_S) (v : Int) : gz_p (np_st σ 40 (((31 * l + i : Nat)) : Int) v) l2 i2 = if l2 = l ∧ i2 = i then v else gz_p σ l2 i2 := by
  unfold gz_p
  rw [np_st_rd, if_pos rfl]
  by_cases h : l2 = l ∧ i2 = i
  · rw [if_pos h, if_pos (by omega)]
  · rw [if_neg h, if_neg (by omega)]
theorem gz_done_fr {σ τ : np_S} (h : gy_done g n σ) (k : gx_fr [39, 40] σ τ) : gy_done g n τ := by
  refine ⟨fun l i j a b c => ?_, fun i j a k2 p b c => ?_⟩
  · unfold gy_tm
    rw [k 37 (by decide)]
    exact h.1 l i j a b c
  · unfold gy_rw
    rw [k 38 (by decide)]
    exact h.2 i j a k2 p b c
/-- all places from s to m are done -/
def gz_St (g : ga_G) (m s : Nat) (σ : np_S) : Prop := (∀ h i : Nat, h ≤ 10 → s ≤ i → i ≤ m → gs_bo (gz_b σ h i) (i = m ∨ ga_VB g m h i)) ∧ gz_P g m s σ
/-- places below s: nothing yet -/
def gz_Z (s : Nat) (σ : np_S) : Prop := ∀ h i : Nat, h ≤ 10 → i < s → gz_b σ h i = 0
/-- round q at place i, levels below l done -/
def gz_Rd (g : ga_G) (m i q l : Nat) (σ : np_S) : Prop := ∃ B : Int → Prop, (∀ h : Nat, h ≤ 10 → gs_bo (gz_b σ h i) (B h)) ∧ (∀ h, B h → ga_VB g m h i) ∧ (∀ h : Nat, h ≤ 10 → ga_tk g m i q h → B h) ∧ (∀ h : Nat, h < l → h ≤ 10 → ga_tk g m i (q + 1) h → B h)
theorem gz_140 {m i q : Nat} (hm : m ≤ n) (him : i < m) {k125 : Int → Int → np_S → Option np_O} {k131 : Int → Int → Int → np_S → Option np_O} {Q : np_O → Prop} : ∀ (f l : Nat) (σ : np_S), l ≤ 11 → 11 - l < f → gy_M g n σ → gy_done g n σ → gz_St g m (i + 1) σ → gz_Z i σ → gz_Rd g m i q l σ → (∀ ρ, gx_fr [39] σ ρ → gz_St g m (i + 1) ρ → gz_Z i ρ → gz_Rd g m i (q + 1) 0 ρ → np_W (k131 m i (((q + 1 : Nat)) : Int) ρ) Q) → np_W (f_M_canBegin_140 k125 k131 f m i q l σ) Q := by
  intro f
  induction f with
  | zero => intro l σ _ h; omega
  | succ f ih =>
    intro l σ hl hf hM hd hS hZ hR hQ
    obtain ⟨hgp, n30, hC, hMM, e2, e11, hrow, hwd⟩ := id hM
    obtain ⟨B, hB1, hB2, hB3, hB4⟩ := id hR
    show np_W (f_M_canBegin_140_b k125 k131 _ m i q l σ) _
    unfold f_M_canBegin_140_b
    refine np_W_ck ⟨⟨by omega, by omega⟩, by decide⟩ ?_
    refine np_W_if (fun z => ?_) (fun z => ?_)
    · have e1 : (q : Int) + 1 = ((q + 1 : Nat) : Int) := by omega
      rw [e1]
      exact hQ σ (gx_fr_refl _ _) hS hZ ⟨B, hB1, hB2, fun h h1 h2 => hB4 h (by omega) h1 h2, fun h a => by omega⟩
    · have hb1 := hS.1 0 (i + 1) (by omega) (by omega) (by omega)
      refine np_W_seq (gz_term hM hd hm him (l := l) (by omega) hS.2 hB1 hb1) (fun o ho => ?_)
      obtain ⟨v, τ⟩ := o
      obtain ⟨e, hb⟩ := ho
      dsimp only at e hb ⊢
      subst e
      have e3 : 31 * (l : Int) + (i : Int) = ((31 * l + i : Nat) : Int) := by omega
      have e4 : (l : Int) + 1 = ((l + 1 : Nat) : Int) := by omega
      rw [e3, e4]
      refine np_W_ck ⟨⟨by omega, by omega⟩, gs_bo_01 hb⟩ ?_
      have fr := gx_fr_st τ 39 (((31 * l + i : Nat)) : Int) v
      refine ih (l + 1) _ (by omega) (by omega) (gy_M_fr hM fr (by decide)) (gz_done_fr hd (gx_fr_mono fr (by simp))) ⟨fun h i2 a b c => ?_, fun k p e a b c d => ?_⟩ (fun h i2 a b => ?_) ⟨fun h => (h = l ∧ gz_tt g m i B l (ga_R g)) ∨ (h ≠ l ∧ B h), fun h h1 => ?_, fun h h1 => ?_, fun h h1 h2 => ?_, fun h h1 h2 h3 => ?_⟩ (fun ρ r1 r2 r3 r4 => hQ ρ (gx_fr_trans fr r1) r2 r3 r4)
      · rw [gz_b_st (by omega) (by omega), if_neg (by omega)]
        exact hS.1 h i2 a b c
      · unfold gz_p
        rw [fr 40 (by decide)]
        exact hS.2 k p e a b c d
      · rw [gz_b_st (by omega) (by omega), if_neg (by omega)]
        exact hZ h i2 a b
      · rw [gz_b_st (by omega) (by omega)]
        by_cases e : h = l
        · rw [if_pos ⟨e, rfl⟩]
          refine gs_bo_iff hb ⟨fun y => Or.inl ⟨by rw [e], y⟩, fun y => ?_⟩
          rcases y with ⟨_, y⟩ | ⟨y, _⟩
          · exact y
          · exact absurd (by rw [e]) y
        · rw [if_neg (fun y => e y.1)]
          refine gs_bo_iff (hB1 h h1) ⟨fun y => Or.inr ⟨by omega, y⟩, fun y => ?_⟩
          rcases y with ⟨y, _⟩ | ⟨_, y⟩
          · exact absurd (by omega) e
          · exact y
      · rcases h1 with ⟨e, r, r1, r2, r3⟩ | ⟨_, y⟩
        · rw [e]
          refine ga_VB_iff.mpr ⟨him, r, r1, r2, gz_vp_mono hgp.1 r1 (fun l2 i2 _ _ w => ?_) _ _ (Nat.le_refl _) r3⟩
          rcases w with ⟨w1, w2⟩ | ⟨_, w2⟩
          · rw [w1]; exact hB2 l2 w2
          · exact w2
        · exact hB2 h y
      · have new : ga_tk g m i (q + 1) (l : Int) → gz_tt g m i B l (ga_R g) := by
          rintro ⟨r, r1, r2, r3⟩
          refine ⟨r, r1, r2, gz_vp_mono hgp.1 r1 (fun l2 i2 l0 l10 w => ?_) _ _ (Nat.le_refl _) r3⟩
          rcases w with ⟨w1, w2⟩ | w
          · refine Or.inl ⟨w1, ?_⟩
            have := hB3 l2.toNat (by omega) (by rw [Int.toNat_of_nonneg l0]; exact w2)
            rw [Int.toNat_of_nonneg l0] at this
            exact this
          · exact Or.inr w
        by_cases e : h = l
        · exact Or.inl ⟨by rw [e], new (by rw [e] at h2; exact ga_tk_up _ _ h2)⟩
        · exact Or.inr ⟨by omega, hB3 h h1 h2⟩
      · have new : ga_tk g m i (q + 1) (l : Int) → gz_tt g m i B l (ga_R g) := by
          rintro ⟨r, r1, r2, r3⟩
          refine ⟨r, r1, r2, gz_vp_mono hgp.1 r1 (fun l2 i2 l0 l10 w => ?_) _ _ (Nat.le_refl _) r3⟩
          rcases w with ⟨w1, w2⟩ | w
          · refine Or.inl ⟨w1, ?_⟩
            have := hB3 l2.toNat (by omega) (by rw [Int.toNat_of_nonneg l0]; exact w2)
            rw [Int.toNat_of_nonneg l0] at this
            exact this
          · exact Or.inr w
        by_cases e : h = l
        · exact Or.inl ⟨by rw [e], new (by rw [e] at h3; exact h3)⟩
        · exact Or.inr ⟨by omega, hB4 h (by omega) h2 h3⟩
theorem gz_192 {m i k : Nat} (hm : m ≤ n) (him : i < m) (hk : k + 2 < ga_R g) {k125 : Int → Int → np_S → Option np_O} {k181 : Int → Int → Int → np_S → Option np_O} {Q : np_O → Prop} : ∀ (f p : Nat) (σ : np_S), p ≤ ga_l g (k + 2) + 1 → ga_l g (k + 2) + 1 - p < f → gy_M g n σ → gy_done g n σ → gz_St g m (i + 1) σ → gz_Z i σ → (∀ h : Nat, h ≤ 10 → gs_bo (gz_b σ h i) (ga_VB g m h i)) → (∀ p2, p2 < p → gs_bo (gz_p σ (7 * k + p2) i) (ga_vp g m (ga_VB g m) (k + 2) (ga_l g (k + 2) - p2) i)) → (∀ ρ, gx_fr [40] σ ρ → (∀ a i2, i2 < 31 → ¬ (i2 = i ∧ 7 * k ≤ a ∧ a ≤ 7 * k + ga_l g (k + 2)) → gz_p ρ a i2 = gz_p σ a i2) → (∀ p2, p2 ≤ ga_l g (k + 2) → gs_bo (gz_p ρ (7 * k + p2) i) (ga_vp g m (ga_VB g m) (k + 2) (ga_l g (k + 2) - p2) i)) → np_W (k181 m i (((k + 1 : Nat)) : Int) ρ) Q) → np_W (f_M_canBegin_192 k125 k181 f m i k p σ) Q := by
  intro f
  induction f with
  | zero => intro p σ _ h; omega
  | succ f ih =>
    intro p σ hp hf hM hd hS hZ hB hp2 hQ
    obtain ⟨hgp, n30, hC, hMM, e2, e11, hrow, hwd⟩ := id hM
    have R14 := hgp.2.2.1
    have hlen := (hgp.1 (k + 2) hk).1
    have e32 := (hrow k hk).1
    show np_W (f_M_canBegin_192_b k125 k181 _ m i k p σ) _
    unfold f_M_canBegin_192_b
    refine np_W_ck ⟨by omega, by omega⟩ ?_
    refine np_W_ck ⟨⟨by omega, by omega⟩, by rw [e32]; exact ⟨by omega, by omega⟩⟩ ?_
    refine np_W_if (fun z => ?_) (fun z => ?_)
    · rw [e32] at z
      have e1 : (k : Int) + 1 = ((k + 1 : Nat) : Int) := by omega
      rw [e1]
      exact hQ σ (gx_fr_refl _ _) (fun _ _ _ _ => rfl) (fun p2 a => hp2 p2 (by omega))
    · rw [e32] at z
      refine np_W_seq (gz_may hM hd hm hk (p := p) (by omega) him hS.2 (B := fun h => ga_VB g m h i) hB) (fun o ho => ?_)
      obtain ⟨v, τ⟩ := o
      obtain ⟨e, hb⟩ := ho
      dsimp only at e hb ⊢
      subst e
      have hb := gs_bo_iff hb (ga_vp_congr (r := k + 2) (ga_l g (k + 2) - p) i (vb2 := ga_VB g m) (fun h i2 _ => ⟨fun y => by
        rcases y with ⟨y1, y2⟩ | ⟨_, y2⟩
        · rw [y1]; exact y2
        · exact y2, fun y => by
        by_cases e : i2 = i
        · exact Or.inl ⟨e, by rw [← e]; exact y⟩
        · exact Or.inr ⟨e, y⟩⟩))
      have e3 : 31 * (7 * (k : Int) + (p : Int)) + (i : Int) = ((31 * (7 * k + p) + i : Nat) : Int) := by omega
      have e4 : (p : Int) + 1 = ((p + 1 : Nat) : Int) := by omega
      rw [e3, e4]
      refine np_W_ck ⟨⟨by omega, by omega⟩, gs_bo_01 hb⟩ ?_
      have fr := gx_fr_st τ 40 (((31 * (7 * k + p) + i : Nat)) : Int) v
      refine ih (p + 1) _ (by omega) (by omega) (gy_M_fr hM fr (by decide)) (gz_done_fr hd (gx_fr_mono fr (by simp))) ⟨fun h i2 a b c => ?_, fun k2 p2 e a b c d => ?_⟩ (fun h i2 a b => ?_) (fun h h1 => ?_) (fun p2 a => ?_) (fun ρ r1 r2 r3 => hQ ρ (gx_fr_trans fr r1) (fun a i2 i3 hn => ?_) r3)
      · unfold gz_b
        rw [fr 39 (by decide)]
        exact hS.1 h i2 a b c
      · rw [gz_p_st (by omega) (by omega), if_neg (by omega)]
        exact hS.2 k2 p2 e a b c d
      · unfold gz_b
        rw [fr 39 (by decide)]
        exact hZ h i2 a b
      · unfold gz_b
        rw [fr 39 (by decide)]
        exact hB h h1
      · rw [gz_p_st (by omega) (by omega)]
        by_cases e : p2 = p
        · rw [if_pos ⟨by rw [e], rfl⟩, e]; exact hb
        · rw [if_neg (fun y => e (by omega))]
          exact hp2 p2 (by omega)
      · rw [r2 a i2 i3 hn, gz_p_st (by omega) i3, if_neg (fun y => hn ⟨y.2, by omega, by omega⟩)]
theorem gz_181 {m i : Nat} (hm : m ≤ n) (him : i < m) {k125 : Int → Int → np_S → Option np_O} {Q : np_O → Prop} : ∀ (f k : Nat) (σ : np_S), k + 2 ≤ ga_R g → ga_R g - 2 - k < f → gy_M g n σ → gy_done g n σ → gz_St g m (i + 1) σ → gz_Z i σ → (∀ h : Nat, h ≤ 10 → gs_bo (gz_b σ h i) (ga_VB g m h i)) → (∀ k2 p2, k2 < k → k2 + 2 < ga_R g → p2 ≤ ga_l g (k2 + 2) → gs_bo (gz_p σ (7 * k2 + p2) i) (ga_vp g m (ga_VB g m) (k2 + 2) (ga_l g (k2 + 2) - p2) i)) → (∀ ρ, gx_fr [40] σ ρ → gz_St g m i ρ → gz_Z i ρ → np_W (k125 m ((i : Int) - 1) ρ) Q) → np_W (f_M_canBegin_181 k125 f m i k σ) Q := by
  intro f
  induction f with
  | zero => intro k σ _ h; omega
  | succ f ih =>
    intro k σ hk hf hM hd hS hZ hB hp2 hQ
    obtain ⟨hgp, n30, hC, hMM, e2, e11, hrow, hwd⟩ := id hM
    have R14 := hgp.2.2.1
    show np_W (f_M_canBegin_181_b k125 _ m i k σ) _
    unfold f_M_canBegin_181_b
    have e2' : σ 29 2 = ((ga_R g - 2 : Nat) : Int) := by rw [e2]; omega
    rw [e2']
    refine np_W_ck ⟨⟨by omega, by omega⟩, ⟨by omega, by omega⟩⟩ ?_
    refine np_W_if (fun z => ?_) (fun z => ?_)
    · have e1 : (i : Int) + -1 = (i : Int) - 1 := by omega
      rw [e1]
      refine hQ σ (gx_fr_refl _ _) ⟨fun h i2 a b c => ?_, fun k2 p2 e a b c d => ?_⟩ hZ
      · by_cases e : i2 = i
        · rw [e]
          exact gs_bo_iff (hB h a) ⟨Or.inr, fun y => by
            rcases y with y | y
            · omega
            · exact y⟩
        · exact hS.1 h i2 a (by omega) c
      · by_cases ei : e = i
        · rw [ei]; exact hp2 k2 p2 (by omega) a b
        · exact hS.2 k2 p2 e a b (by omega) d
    · have hk2 : k + 2 < ga_R g := by omega
      have ez : (0 : Int) = ((0 : Nat) : Int) := rfl
      rw [ez]
      have hlen := (hgp.1 (k + 2) hk2).1
      refine gz_192 hm him hk2 20000 0 σ (by omega) (by omega) hM hd hS hZ hB (fun p2 a => by omega) (fun ρ r1 r2 r3 => ?_)
      have b39 : ∀ h i2, gz_b ρ h i2 = gz_b σ h i2 := fun h i2 => by unfold gz_b; rw [r1 39 (by decide)]
      refine ih (k + 1) ρ (by omega) (by omega) (gy_M_fr hM r1 (by decide)) (gz_done_fr hd (gx_fr_mono r1 (by simp))) ⟨fun h i2 a b c => by rw [b39]; exact hS.1 h i2 a b c, fun k2 p2 e a b c d => ?_⟩ (fun h i2 a b => by rw [b39]; exact hZ h i2 a b) (fun h a => by rw [b39]; exact hB h a) (fun k2 p2 a1 a2 a3 => ?_) (fun ρ2 s1 s2 s3 => hQ ρ2 (gx_fr_trans r1 s1) s2 s3)
      · rw [r2 _ e (by omega) (by omega)]
        exact hS.2 k2 p2 e a b c d
      · by_cases e : k2 = k
        · subst e; exact r3 p2 a3
        · have := (hgp.1 (k2 + 2) a2).1
          rw [r2 _ i (by omega) (by omega)]
          exact hp2 k2 p2 (by omega) a2 a3
theorem gz_131 {m i : Nat} (hm : m ≤ n) (him : i < m) {k125 : Int → Int → np_S → Option np_O} {Q : np_O → Prop} : ∀ (f q : Nat) (σ : np_S), q ≤ 11 → 11 - q < f → gy_M g n σ → gy_done g n σ → gz_St g m (i + 1) σ → gz_Z i σ → gz_Rd g m i q 0 σ → (∀ ρ, gx_fr [39, 40] σ ρ → gz_St g m i ρ → gz_Z i ρ → np_W (k125 m ((i : Int) - 1) ρ) Q) → np_W (f_M_canBegin_131 k125 f m i q σ) Q := by
  intro f
  induction f with
  | zero => intro q σ _ h; omega
  | succ f ih =>
    intro q σ hq hf hM hd hS hZ hR hQ
    have hgp := hM.1
    show np_W (f_M_canBegin_131_b k125 _ m i q σ) _
    unfold f_M_canBegin_131_b
    have ez : (0 : Int) = ((0 : Nat) : Int) := rfl
    refine np_W_ck ⟨⟨by omega, by omega⟩, by decide⟩ ?_
    refine np_W_if (fun z => ?_) (fun z => ?_)
    · have e : q = 11 := by omega
      subst e
      obtain ⟨B, hB1, hB2, hB3, hB4⟩ := hR
      rw [ez]
      refine gz_181 hm him 20000 0 σ (by have := hgp.2.1; omega) (by have := hgp.2.2.1; omega) hM hd hS hZ (fun h a => gs_bo_iff (hB1 h a) ⟨hB2 h, fun y => hB3 h a ((ga_VB_tk hgp.1 him).mp y)⟩) (fun k2 p2 a => by omega) (fun ρ r1 r2 r3 => hQ ρ (gx_fr_mono r1 (by simp)) r2 r3)
    · rw [ez]
      refine gz_140 hm him 20000 0 σ (by omega) (by omega) hM hd hS hZ hR (fun ρ r1 r2 r3 r4 => ?_)
      exact ih (q + 1) ρ (by omega) (by omega) (gy_M_fr hM r1 (by decide)) (gz_done_fr hd (gx_fr_mono r1 (by simp))) r2 r3 r4 (fun ρ2 s1 s2 s3 => hQ ρ2 (gx_fr_trans (gx_fr_mono r1 (by simp)) s1) s2 s3)
theorem gz_125 {m : Nat} (hm : m ≤ n) (hm1 : 1 ≤ m) : ∀ (f s : Nat) (σ : np_S), s ≤ m → s < f → gy_M g n σ → gy_done g n σ → gz_St g m s σ → gz_Z s σ → np_W (f_M_canBegin_125 f m ((s : Int) - 1) σ) (fun o => gx_fr [39, 40] σ o.2 ∧ gs_bo o.1 (ga_VB g m 0 0)) := by
  intro f
  induction f with
  | zero => intro s σ _ h; omega
  | succ f ih =>
    intro s σ hs hf hM hd hS hZ
    have n30 := hM.2.1
    show np_W (f_M_canBegin_125_b _ m ((s : Int) - 1) σ) _
    unfold f_M_canBegin_125_b
    refine np_W_ck ⟨by omega, by omega⟩ ?_
    refine np_W_if (fun z => ?_) (fun z => ?_)
    · have e : s = 0 := by omega
      subst e
      have hb := hS.1 0 0 (by omega) (by omega) (by omega)
      have hb : gs_bo (σ 39 0) (0 = m ∨ ga_VB g m 0 0) := hb
      refine np_W_ck (by decide) (np_W_ck (gs_bo_01 hb) (np_W_some ⟨gx_fr_refl _ _, gs_bo_iff hb ⟨fun y => ?_, Or.inr⟩⟩))
      rcases y with y | y
      · omega
      · exact y
    · obtain ⟨i, hi⟩ : ∃ i, s = i + 1 := ⟨s - 1, by omega⟩
      subst hi
      have e1 : (((i + 1 : Nat)) : Int) - 1 = (i : Int) := by omega
      have ez : (0 : Int) = ((0 : Nat) : Int) := rfl
      rw [e1, ez]
      refine gz_131 hm (by omega) 20000 0 σ (by omega) (by omega) hM hd hS (fun h i2 a b => hZ h i2 a (by omega)) ⟨fun _ => False, fun h a => Or.inr ⟨hZ h i a (by omega), id⟩, fun h a => a.elim, fun h a b => b, fun h a => by omega⟩ (fun ρ r1 r2 r3 => ?_)
      exact np_W_mono (ih i ρ (by omega) (by omega) (gy_M_fr hM r1 (by decide)) (gz_done_fr hd r1) r2 r3) (fun o ho => ⟨gx_fr_trans r1 ho.1, ho.2⟩)
theorem gz_82 {m k : Nat} (hm : m ≤ n) (hk : k + 2 < ga_R g) {k72 : Int → Int → np_S → Option np_O} {Q : np_O → Prop} : ∀ (f p : Nat) (σ : np_S), p ≤ ga_l g (k + 2) + 1 → ga_l g (k + 2) + 1 - p < f → gy_M g n σ → (∀ p2, p2 < p → gz_p σ (7 * k + p2) m = 1) → (∀ ρ, gx_fr [40] σ ρ → (∀ a, gz_p σ a m = 1 → gz_p ρ a m = 1) → (∀ p2, p2 ≤ ga_l g (k + 2) → gz_p ρ (7 * k + p2) m = 1) → np_W (k72 m (((k + 1 : Nat)) : Int) ρ) Q) → np_W (f_M_canBegin_82 k72 f m k p σ) Q := by
  intro f
  induction f with
  | zero => intro p σ _ h; omega
  | succ f ih =>
    intro p σ hp hf hM hp2 hQ
    obtain ⟨hgp, n30, hC, hMM, e2, e11, hrow, hwd⟩ := id hM
    have R14 := hgp.2.2.1
    have hlen := (hgp.1 (k + 2) hk).1
    have e32 := (hrow k hk).1
    show np_W (f_M_canBegin_82_b k72 _ m k p σ) _
    unfold f_M_canBegin_82_b
    refine np_W_ck ⟨by omega, by omega⟩ ?_
    refine np_W_ck ⟨⟨by omega, by omega⟩, by rw [e32]; exact ⟨by omega, by omega⟩⟩ ?_
    refine np_W_if (fun z => ?_) (fun z => ?_)
    · rw [e32] at z
      have e1 : (k : Int) + 1 = ((k + 1 : Nat) : Int) := by omega
      rw [e1]
      exact hQ σ (gx_fr_refl _ _) (fun _ a => a) (fun p2 a => hp2 p2 (by omega))
    · rw [e32] at z
      have e3 : 31 * (7 * (k : Int) + (p : Int)) + (m : Int) = ((31 * (7 * k + p) + m : Nat) : Int) := by omega
      have e4 : (p : Int) + 1 = ((p + 1 : Nat) : Int) := by omega
      rw [e3, e4]
      refine np_W_ck ⟨⟨by omega, by omega⟩, by decide⟩ ?_
      have fr := gx_fr_st σ 40 (((31 * (7 * k + p) + m : Nat)) : Int) 1
      have keep : ∀ a, gz_p σ a m = 1 → gz_p (np_st σ 40 (((31 * (7 * k + p) + m : Nat)) : Int) 1) a m = 1 := by
        intro a ha
        rw [gz_p_st (by omega) (by omega)]
        split
        · rfl
        · exact ha
      refine ih (p + 1) _ (by omega) (by omega) (gy_M_fr hM fr (by decide)) (fun p2 a => ?_) (fun ρ r1 r2 r3 => hQ ρ (gx_fr_trans fr r1) (fun a ha => r2 a (keep a ha)) r3)
      rw [gz_p_st (by omega) (by omega)]
      by_cases e : p2 = p
      · rw [if_pos ⟨by rw [e], rfl⟩]
      · rw [if_neg (fun y => e (by omega))]
        exact hp2 p2 (by omega)
theorem gz_72 {m : Nat} (hm : m ≤ n) (hm1 : 1 ≤ m) : ∀ (f k : Nat) (σ : np_S), k + 2 ≤ ga_R g → ga_R g - 2 - k < f → gy_M g n σ → gy_done g n σ → (∀ h : Nat, h ≤ 10 → gz_b σ h m = 1) → gz_Z m σ → (∀ k2 p2, k2 < k → k2 + 2 < ga_R g → p2 ≤ ga_l g (k2 + 2) → gz_p σ (7 * k2 + p2) m = 1) → np_W (f_M_canBegin_72 f m k σ) (fun o => gx_fr [39, 40] σ o.2 ∧ gs_bo o.1 (ga_VB g m 0 0)) := by
  intro f
  induction f with
  | zero => intro k σ _ h; omega
  | succ f ih =>
    intro k σ hk hf hM hd hb hZ hp2
    obtain ⟨hgp, n30, hC, hMM, e2, e11, hrow, hwd⟩ := id hM
    have R14 := hgp.2.2.1
    show np_W (f_M_canBegin_72_b _ m k σ) _
    unfold f_M_canBegin_72_b
    have e2' : σ 29 2 = ((ga_R g - 2 : Nat) : Int) := by rw [e2]; omega
    rw [e2']
    refine np_W_ck ⟨⟨by omega, by omega⟩, ⟨by omega, by omega⟩⟩ ?_
    refine np_W_if (fun z => ?_) (fun z => ?_)
    · refine gz_125 hm hm1 20000 m σ (Nat.le_refl _) (by omega) hM hd ⟨fun h i a b c => ?_, fun k2 p2 e a b c d => ?_⟩ hZ
      · have : i = m := by omega
        rw [this]
        exact Or.inl ⟨hb h a, Or.inl rfl⟩
      · have : e = m := by omega
        rw [this]
        refine Or.inl ⟨hp2 k2 p2 (by omega) a b, ?_⟩
        cases hx : ga_l g (k2 + 2) - p2 with
        | zero => exact rfl
        | succ x => exact Or.inl rfl
    · have hk2 : k + 2 < ga_R g := by omega
      have ez : (0 : Int) = ((0 : Nat) : Int) := rfl
      rw [ez]
      have hlen := (hgp.1 (k + 2) hk2).1
      refine gz_82 hm hk2 20000 0 σ (by omega) (by omega) hM (fun p2 a => by omega) (fun ρ r1 r2 r3 => ?_)
      have b39 : ∀ h i2, gz_b ρ h i2 = gz_b σ h i2 := fun h i2 => by unfold gz_b; rw [r1 39 (by decide)]
      refine np_W_mono (ih (k + 1) ρ (by omega) (by omega) (gy_M_fr hM r1 (by decide)) (gz_done_fr hd (gx_fr_mono r1 (by simp))) (fun h a => by rw [b39]; exact hb h a) (fun h i2 a b => by rw [b39]; exact hZ h i2 a b) (fun k2 p2 a1 a2 a3 => ?_)) (fun o ho => ⟨gx_fr_trans (gx_fr_mono r1 (by simp)) ho.1, ho.2⟩)
      by_cases e : k2 = k
      · subst e; exact r3 p2 a3
      · exact r2 _ (hp2 k2 p2 (by omega) a2 a3)
theorem gz_46 {m : Nat} (hm : m ≤ n) (hm1 : 1 ≤ m) : ∀ (f l : Nat) (σ : np_S), l ≤ 11 → 11 - l < f → gy_M g n σ → gy_done g n σ → (∀ h : Nat, h < l → gz_b σ h m = 1) → gz_Z m σ → np_W (f_M_canBegin_46 f m l σ) (fun o => gx_fr [39, 40] σ o.2 ∧ gs_bo o.1 (ga_VB g m 0 0)) := by
  intro f
  induction f with
  | zero => intro l σ _ h; omega
  | succ f ih =>
    intro l σ hl hf hM hd hb hZ
    have n30 := hM.2.1
    show np_W (f_M_canBegin_46_b _ m l σ) _
    unfold f_M_canBegin_46_b
    have ez : (0 : Int) = ((0 : Nat) : Int) := rfl
    refine np_W_ck ⟨⟨by omega, by omega⟩, by decide⟩ ?_
    refine np_W_if (fun z => ?_) (fun z => ?_)
    · rw [ez]
      exact gz_72 hm hm1 20000 0 σ (by have := hM.1.2.1; omega) (by have := hM.1.2.2.1; omega) hM hd (fun h a => hb h (by omega)) hZ (fun k2 p2 a => by omega)
    · have e3 : 31 * (l : Int) + (m : Int) = ((31 * l + m : Nat) : Int) := by omega
      have e4 : (l : Int) + 1 = ((l + 1 : Nat) : Int) := by omega
      rw [e3, e4]
      refine np_W_ck ⟨⟨by omega, by omega⟩, by decide⟩ ?_
      have fr := gx_fr_st σ 39 (((31 * l + m : Nat)) : Int) 1
      refine np_W_mono (ih (l + 1) _ (by omega) (by omega) (gy_M_fr hM fr (by decide)) (gz_done_fr hd (gx_fr_mono fr (by simp))) (fun h a => ?_) (fun h i2 a b => ?_)) (fun o ho => ⟨gx_fr_trans (gx_fr_mono fr (by simp)) ho.1, ho.2⟩)
      · rw [gz_b_st (by omega) (by omega)]
        by_cases e : h = l
        · rw [if_pos ⟨e, rfl⟩]
        · rw [if_neg (fun y => e y.1)]; exact hb h (by omega)
      · rw [gz_b_st (by omega) (by omega), if_neg (by omega)]
        exact hZ h i2 a b
theorem gz_24 {m : Nat} (hm : m ≤ n) (hm1 : 1 ≤ m) : ∀ (f x : Nat) (σ : np_S), x ≤ 341 → 341 - x < f → gy_M g n σ → gy_done g n σ → (∀ y : Nat, y < x → σ 39 (y : Int) = 0) → np_W (f_M_canBegin_24 f m x σ) (fun o => gx_fr [39, 40] σ o.2 ∧ gs_bo o.1 (ga_VB g m 0 0)) := by
  intro f
  induction f with
  | zero => intro x σ _ h; omega
  | succ f ih =>
    intro x σ hx hf hM hd h0
    have n30 := hM.2.1
    show np_W (f_M_canBegin_24_b _ m x σ) _
    unfold f_M_canBegin_24_b
    have ez : (0 : Int) = ((0 : Nat) : Int) := rfl
    refine np_W_ck ⟨⟨by omega, by omega⟩, by decide⟩ ?_
    refine np_W_if (fun z => ?_) (fun z => ?_)
    · rw [ez]
      exact gz_46 hm hm1 20000 0 σ (by omega) (by omega) hM hd (fun h a => by omega) (fun h i a b => h0 _ (by omega))
    · have e4 : (x : Int) + 1 = ((x + 1 : Nat) : Int) := by omega
      rw [e4]
      refine np_W_ck ⟨⟨by omega, by omega⟩, by decide⟩ ?_
      have fr := gx_fr_st σ 39 (x : Int) 0
      refine np_W_mono (ih (x + 1) _ (by omega) (by omega) (gy_M_fr hM fr (by decide)) (gz_done_fr hd (gx_fr_mono fr (by simp))) (fun y a => ?_)) (fun o ho => ⟨gx_fr_trans (gx_fr_mono fr (by simp)) ho.1, ho.2⟩)
      rw [np_st_rd, if_pos rfl]
      by_cases e : y = x
      · rw [if_pos (by omega)]
      · rw [if_neg (by omega)]; exact h0 y (by omega)
theorem gz_2 {m : Nat} (hm : m ≤ n) (hm1 : 1 ≤ m) : ∀ (f x : Nat) (σ : np_S), x ≤ 2604 → 2604 - x < f → gy_M g n σ → gy_done g n σ → np_W (f_M_canBegin_2 f m x σ) (fun o => gx_fr [39, 40] σ o.2 ∧ gs_bo o.1 (ga_VB g m 0 0)) := by
  intro f
  induction f with
  | zero => intro x σ _ h; omega
  | succ f ih =>
    intro x σ hx hf hM hd
    have n30 := hM.2.1
    show np_W (f_M_canBegin_2_b _ m x σ) _
    unfold f_M_canBegin_2_b
    have ez : (0 : Int) = ((0 : Nat) : Int) := rfl
    refine np_W_ck ⟨⟨by omega, by omega⟩, by decide⟩ ?_
    refine np_W_if (fun z => ?_) (fun z => ?_)
    · rw [ez]
      exact gz_24 hm hm1 20000 0 σ (by omega) (by omega) hM hd (fun y a => by omega)
    · have e4 : (x : Int) + 1 = ((x + 1 : Nat) : Int) := by omega
      rw [e4]
      refine np_W_ck ⟨⟨by omega, by omega⟩, by decide⟩ ?_
      have fr := gx_fr_st σ 40 (x : Int) 0
      exact np_W_mono (ih (x + 1) _ (by omega) (by omega) (gy_M_fr hM fr (by decide)) (gz_done_fr hd (gx_fr_mono fr (by simp)))) (fun o ho => ⟨gx_fr_trans (gx_fr_mono fr (by simp)) ho.1, ho.2⟩)
theorem gz_can {σ : np_S} (hM : gy_M g n σ) (hd : gy_done g n σ) {m : Nat} (hm : m ≤ n) (hm1 : 1 ≤ m) : np_W (f_M_canBegin m σ) (fun o => gx_fr [39, 40] σ o.2 ∧ gs_bo o.1 (ga_VB g m 0 0)) :=
  gz_2 hm hm1 20000 0 σ (by omega) (by omega) hM hd
end
