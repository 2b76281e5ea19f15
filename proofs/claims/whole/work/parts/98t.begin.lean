/-! the reference: count from its entry; mayBegin, mayBeTerm -/
section
variable {g : ga_G} {n : Nat}
theorem gy_34 {w : Nat} (hw : w ≤ n) {k24 : Int → np_S → Option np_O} {Q : np_O → Prop} : ∀ (f i : Nat) (σ : np_S), i + w ≤ n + 1 → n + 1 - w - i < f → gy_M g n σ → gy_tms g (gy_D n w i) σ → gy_rws g (gy_D n w i) σ → (∀ ρ, gx_fr [37, 38] σ ρ → gy_tms g (gy_D n (w + 1) 0) ρ → gy_rws g (gy_D n (w + 1) 0) ρ → np_W (k24 (((w + 1 : Nat)) : Int) ρ) Q) → np_W (f_M_count_34 k24 f w i σ) Q := by
  intro f
  induction f with
  | zero => intro i σ _ h; omega
  | succ f ih =>
    intro i σ hi hf hM htm hrws hQ
    obtain ⟨hgp, n30, hC, hMM, e2, e11, hrow, hwd⟩ := id hM
    show np_W (f_M_count_34_b k24 _ w i σ) _
    unfold f_M_count_34_b
    rw [e11]
    refine np_W_ck ⟨⟨by omega, by omega⟩, ⟨by omega, by omega⟩⟩ ?_
    refine np_W_if (fun z => ?_) (fun z => ?_)
    · have e1 : (w : Int) + 1 = ((w + 1 : Nat) : Int) := by omega
      have hD : ∀ a b, gy_D n (w + 1) 0 a b ↔ gy_D n w i a b := by
        intro a b
        unfold gy_D
        omega
      rw [e1]
      refine hQ σ (gx_fr_refl _ _) (fun l a b l1 a1 b1 => ?_) (fun a b h => hrws a b ((hD a b).mp h))
      rw [hD]
      exact htm l a b l1 a1 b1
    · have e1 : (i : Int) + (w : Int) = ((i + w : Nat) : Int) := by omega
      have ez : (0 : Int) = ((0 : Nat) : Int) := rfl
      rw [e1, ez]
      refine gy_51 (j := i + w) rfl (by omega) 20000 0 σ (by have := hgp.2.1; omega) (by have := hgp.2.2.1; omega) hM htm hrws (fun k2 a => by omega) (fun ρ r1 r2 r3 => ?_)
      exact ih (i + 1) ρ (by omega) (by omega) (gy_M_fr hM r1 (by decide)) r2 r3 (fun ρ2 s1 s2 s3 => hQ ρ2 (gx_fr_trans r1 s1) s2 s3)
def gy_all (n i j : Nat) : Prop := i ≤ j ∧ j ≤ n
def gy_done (g : ga_G) (n : Nat) (σ : np_S) : Prop := gy_tms g (gy_all n) σ ∧ gy_rws g (gy_all n) σ
theorem gy_24 : ∀ (f w : Nat) (σ : np_S), w ≤ n + 1 → n + 1 - w < f → gy_M g n σ → gy_tms g (gy_D n w 0) σ → gy_rws g (gy_D n w 0) σ → np_W (f_M_count_24 f w σ) (fun o => gx_fr [37, 38] σ o.2 ∧ gy_done g n o.2) := by
  intro f
  induction f with
  | zero => intro w σ _ h; omega
  | succ f ih =>
    intro w σ hw hf hM htm hrws
    obtain ⟨hgp, n30, hC, hMM, e2, e11, hrow, hwd⟩ := id hM
    show np_W (f_M_count_24_b _ w σ) _
    unfold f_M_count_24_b
    rw [e11]
    refine np_W_ck ⟨⟨by omega, by omega⟩, ⟨by omega, by omega⟩⟩ ?_
    refine np_W_if (fun z => ?_) (fun z => ?_)
    · have hD : ∀ a b, gy_all n a b ↔ gy_D n w 0 a b := by
        intro a b
        unfold gy_D gy_all
        omega
      refine np_W_some ⟨gx_fr_refl _ _, fun l a b l1 a1 b1 => ?_, fun a b h => hrws a b ((hD a b).mp h)⟩
      rw [hD]
      exact htm l a b l1 a1 b1
    · have ez : (0 : Int) = ((0 : Nat) : Int) := rfl
      rw [ez]
      refine gy_34 (by omega) 20000 0 σ (by omega) (by omega) hM htm hrws (fun ρ r1 r2 r3 => ?_)
      exact np_W_mono (ih (w + 1) ρ (by omega) (by omega) (gy_M_fr hM r1 (by decide)) r2 r3) (fun o ho => ⟨gx_fr_trans r1 ho.1, ho.2⟩)
theorem gy_cl : ∀ (f x : Nat) (σ : np_S), x ≤ 10571 → 10571 - x < f → gy_M g n σ → (∀ y : Nat, y < x → σ 37 (y : Int) = 0) → np_W (f_M_count_2 f x σ) (fun o => gx_fr [37, 38] σ o.2 ∧ gy_done g n o.2) := by
  intro f
  induction f with
  | zero => intro x σ _ h; omega
  | succ f ih =>
    intro x σ hx hf hM h0
    show np_W (f_M_count_2_b _ x σ) _
    unfold f_M_count_2_b
    refine np_W_ck ⟨⟨by omega, by omega⟩, by decide⟩ ?_
    refine np_W_if (fun z => ?_) (fun z => ?_)
    · have ez : (0 : Int) = ((0 : Nat) : Int) := rfl
      rw [ez]
      refine gy_24 20000 0 σ (by omega) (by have := hM.2.1; omega) hM (fun l a b l1 a1 b1 => ⟨fun h => by have := h.2.2; omega, fun _ => ?_⟩) (fun a b h => by have := h.2.2; omega)
      unfold gy_tm
      exact h0 _ (by unfold gy_ix; omega)
    · have e1 : (x : Int) + 1 = ((x + 1 : Nat) : Int) := by omega
      refine np_W_ck ⟨by omega, by omega⟩ ?_
      rw [e1]
      have fr := gx_fr_st σ 37 (x : Int) 0
      refine np_W_mono (ih (x + 1) _ (by omega) (by omega) (gy_M_fr hM fr (by decide)) (fun y hy => ?_)) (fun o ho => ⟨gx_fr_trans (gx_fr_mono fr (by simp)) ho.1, ho.2⟩)
      rw [np_st_rd, if_pos rfl]
      by_cases e : y = x
      · rw [if_pos (by omega)]
      · rw [if_neg (by omega)]; exact h0 y (by omega)
theorem gy_count {σ : np_S} (hM : gy_M g n σ) : np_W (f_M_count σ) (fun o => gx_fr [37, 38] σ o.2 ∧ gy_done g n o.2) :=
  gy_cl 20000 0 σ (by omega) (by omega) hM (fun y h => by omega)
/-! what can begin -/
def gz_b (σ : np_S) (l i : Nat) : Int := σ 39 (((31 * l + i : Nat)) : Int)
def gz_p (σ : np_S) (a i : Nat) : Int := σ 40 (((31 * a + i : Nat)) : Int)
theorem ga_vp_congr {m r : Nat} {vb vb2 : Int → Nat → Prop} : ∀ (k e : Nat), (∀ h i, e ≤ i → (vb h i ↔ vb2 h i)) → (ga_vp g m vb r k e ↔ ga_vp g m vb2 r k e) := by
  intro k
  induction k with
  | zero => intro e _; exact Iff.rfl
  | succ k ih =>
    intro e h
    show (_ ∨ _) ↔ (_ ∨ _)
    refine or_congr Iff.rfl (and_congr Iff.rfl (or_congr (and_congr Iff.rfl (and_congr Iff.rfl (ih (e + 1) (fun a b c => h a b (by omega))))) (and_congr Iff.rfl (or_congr (h _ e (Nat.le_refl _)) ⟨?_, ?_⟩))))
    · rintro ⟨x, x1, x2, x3, x4⟩
      exact ⟨x, x1, x2, x3, (ih x (fun a b c => h a b (by omega))).mp x4⟩
    · rintro ⟨x, x1, x2, x3, x4⟩
      exact ⟨x, x1, x2, x3, (ih x (fun a b c => h a b (by omega))).mpr x4⟩
/-- the parts' table is right behind place s -/
def gz_P (g : ga_G) (m s : Nat) (σ : np_S) : Prop := ∀ k p e, k + 2 < ga_R g → p ≤ ga_l g (k + 2) → s ≤ e → e ≤ m → gs_bo (gz_p σ (7 * k + p) e) (ga_vp g m (ga_VB g m) (k + 2) (ga_l g (k + 2) - p) e)
def gz_vb (g : ga_G) (m i : Nat) (B : Int → Prop) : Int → Nat → Prop := fun h i2 => (i2 = i ∧ B h) ∨ (i2 ≠ i ∧ ga_VB g m h i2)
theorem gz_105 {σ : np_S} (hM : gy_M g n σ) (hd : gy_done g n σ) {m k p i h : Nat} (hm : m ≤ n) (hk : k + 2 < ga_R g) (hp : p < ga_l g (k + 2)) (hh : ga_h g (k + 2) p = h) (him : i < m) (hP : gz_P g m (i + 1) σ) {X : Prop} : ∀ (f e : Nat) (b : Int), i < e → e ≤ m + 1 → m + 1 - e < f → gs_bo b (X ∨ ∃ e2, i < e2 ∧ e2 < e ∧ 0 < ga_C g h i e2 ∧ ga_vp g m (ga_VB g m) (k + 2) (ga_l g (k + 2) - (p + 1)) e2) → np_W (f_M_mayBegin_105 f i m (((7 * k + p : Nat)) : Int) b e σ) (fun o => o.2 = σ ∧ gs_bo o.1 (X ∨ ∃ e2, i < e2 ∧ e2 ≤ m ∧ 0 < ga_C g h i e2 ∧ ga_vp g m (ga_VB g m) (k + 2) (ga_l g (k + 2) - (p + 1)) e2)) := by
  obtain ⟨hgp, n30, hC, hMM, e2', e11, hrow, hwd⟩ := id hM
  have R14 := hgp.2.2.1
  have hlen := (hgp.1 (k + 2) hk).1
  have hh10 := (hgp.1 (k + 2) hk).2.2.1 p hp
  intro f
  induction f with
  | zero => intro e b _ _ h; omega
  | succ f ih =>
    intro e b ie em hf hb
    show np_W (f_M_mayBegin_105_b _ i m _ b e σ) _
    unfold f_M_mayBegin_105_b f_M_mayBegin_156 f_M_mayBegin_160 f_M_mayBegin_161
    have e4 : (e : Int) + 1 = ((e + 1 : Nat) : Int) := by omega
    rw [e4]
    refine np_W_ck ⟨⟨by omega, by omega⟩, ⟨by omega, by omega⟩⟩ ?_
    refine np_W_if (fun z => np_W_ck (gs_bo_01 hb) (np_W_some ⟨rfl, gs_bo_iff hb ⟨?_, ?_⟩⟩)) (fun z => ?_)
    · rintro (y | ⟨x, x1, x2, x3⟩)
      · exact Or.inl y
      · exact Or.inr ⟨x, x1, by omega, x3⟩
    · rintro (y | ⟨x, x1, x2, x3⟩)
      · exact Or.inl y
      · exact Or.inr ⟨x, x1, by omega, x3⟩
    have yes : (X ∨ ∃ e2, i < e2 ∧ e2 < e + 1 ∧ 0 < ga_C g h i e2 ∧ ga_vp g m (ga_VB g m) (k + 2) (ga_l g (k + 2) - (p + 1)) e2) → np_W (f_M_mayBegin_105 f i m (((7 * k + p : Nat)) : Int) 1 (((e + 1 : Nat)) : Int) σ) (fun o => o.2 = σ ∧ gs_bo o.1 (X ∨ ∃ e2, i < e2 ∧ e2 ≤ m ∧ 0 < ga_C g h i e2 ∧ ga_vp g m (ga_VB g m) (k + 2) (ga_l g (k + 2) - (p + 1)) e2)) := fun y => ih (e + 1) 1 (by omega) (by omega) (by omega) (Or.inl ⟨rfl, y⟩)
    have no : ¬ (X ∨ ∃ e2, i < e2 ∧ e2 < e ∧ 0 < ga_C g h i e2 ∧ ga_vp g m (ga_VB g m) (k + 2) (ga_l g (k + 2) - (p + 1)) e2) → ¬ (0 < ga_C g h i e ∧ ga_vp g m (ga_VB g m) (k + 2) (ga_l g (k + 2) - (p + 1)) e) → np_W (f_M_mayBegin_105 f i m (((7 * k + p : Nat)) : Int) 0 (((e + 1 : Nat)) : Int) σ) (fun o => o.2 = σ ∧ gs_bo o.1 (X ∨ ∃ e2, i < e2 ∧ e2 ≤ m ∧ 0 < ga_C g h i e2 ∧ ga_vp g m (ga_VB g m) (k + 2) (ga_l g (k + 2) - (p + 1)) e2)) := by
      intro y1 y2
      refine ih (e + 1) 0 (by omega) (by omega) (by omega) (Or.inr ⟨rfl, ?_⟩)
      rintro (y | ⟨x, x1, x2, x3⟩)
      · exact y1 (Or.inl y)
      · by_cases ex : x = e
        · subst ex; exact y2 x3
        · exact y1 (Or.inr ⟨x, x1, by omega, x3⟩)
    refine np_W_ck (gs_bo_R hb) ?_
    refine np_W_if (fun y => yes ?_) (fun y => ?_)
    · rcases (gs_bo_1 hb).mp y with q | ⟨x, x1, x2, x3⟩
      · exact Or.inl q
      · exact Or.inr ⟨x, x1, by omega, x3⟩
    have nb := fun q => y ((gs_bo_1 hb).mpr q)
    refine np_W_ck ⟨by omega, by omega⟩ ?_
    rw [((hrow k hk).2.2 p hp).1, hh, gy_cell]
    refine np_W_bind (np_W_some ?_)
    dsimp only
    have b37 : gy_ix h i e < 10571 := by unfold gy_ix; omega
    have ht := (hd.1 h i e (by omega) (by omega) (by omega)).1 ⟨by omega, by omega⟩
    unfold gy_tm at ht
    have bs := ga_sat_le (ga_C g h i e)
    refine np_W_ck ⟨by omega, by omega⟩ ?_
    refine np_W_ck (by rw [ht]; exact ⟨by omega, by omega⟩) ?_
    refine np_W_if (fun y2 => no nb (fun q => ?_)) (fun y2 => ?_)
    · rw [ht] at y2
      have := ga_sat_pos.mpr q.1
      omega
    rw [ht] at y2
    have pos : 0 < ga_C g h i e := ga_sat_pos.mp (by omega)
    have e5 : 31 * (((7 * k + p : Nat) : Int) + 1) + (e : Int) = ((31 * (7 * k + (p + 1)) + e : Nat) : Int) := by omega
    rw [e5]
    have hpe := hP k (p + 1) e hk (by omega) (by omega) (by omega)
    unfold gz_p at hpe
    refine np_W_ck ⟨by omega, by omega⟩ ?_
    refine np_W_ck (gs_bo_R hpe) ?_
    refine np_W_if (fun y3 => no nb (fun q => (gs_bo_1 hpe).mpr q.2 y3)) (fun y3 => yes (Or.inr ⟨e, ie, by omega, pos, (gs_bo_1 hpe).mp y3⟩))
theorem gz_may {σ : np_S} (hM : gy_M g n σ) (hd : gy_done g n σ) {m k p i : Nat} (hm : m ≤ n) (hk : k + 2 < ga_R g) (hp : p ≤ ga_l g (k + 2)) (him : i < m) (hP : gz_P g m (i + 1) σ) {B : Int → Prop} (hB : ∀ h : Nat, h ≤ 10 → gs_bo (gz_b σ h i) (B h)) : np_W (f_M_mayBegin k p i m σ) (fun o => o.2 = σ ∧ gs_bo o.1 (ga_vp g m (gz_vb g m i B) (k + 2) (ga_l g (k + 2) - p) i)) := by
  obtain ⟨hgp, n30, hC, hMM, e2', e11, hrow, hwd⟩ := id hM
  have R14 := hgp.2.2.1
  have hlen := (hgp.1 (k + 2) hk).1
  have e32 := (hrow k hk).1
  have cg : ∀ q e, i < e → (ga_vp g m (gz_vb g m i B) (k + 2) q e ↔ ga_vp g m (ga_VB g m) (k + 2) q e) := by
    intro q e he
    refine ga_vp_congr q e (fun h i2 hi => ⟨?_, fun z => Or.inr ⟨by omega, z⟩⟩)
    rintro (⟨z, _⟩ | ⟨_, z⟩)
    · omega
    · exact z
  unfold f_M_mayBegin f_M_mayBegin_79 f_M_mayBegin_80
  refine np_W_ck ⟨⟨by omega, by omega⟩, ⟨by omega, by omega⟩⟩ ?_
  refine np_W_if (fun z => ?_) (fun z => by omega)
  refine np_W_ck ⟨by omega, by omega⟩ ?_
  refine np_W_ck ⟨⟨by omega, by omega⟩, by rw [e32]; exact ⟨by omega, by omega⟩⟩ ?_
  refine np_W_if (fun z2 => ?_) (fun z2 => ?_)
  · have hpl : p < ga_l g (k + 2) := by rw [e32] at z2; omega
    obtain ⟨q, hq⟩ : ∃ q, ga_l g (k + 2) - p = q + 1 := ⟨ga_l g (k + 2) - (p + 1), by omega⟩
    have eq1 : ga_l g (k + 2) - (p + 1) = q := by omega
    have eq2 : ga_l g (k + 2) - (q + 1) = p := by omega
    have evp : ga_vp g m (gz_vb g m i B) (k + 2) (ga_l g (k + 2) - p) i ↔ ((ga_h g (k + 2) p = -1 ∧ ga_t g i = ga_w g (k + 2) p ∧ ga_vp g m (ga_VB g m) (k + 2) (ga_l g (k + 2) - (p + 1)) (i + 1)) ∨ (ga_h g (k + 2) p ≠ -1 ∧ (B (ga_h g (k + 2) p) ∨ ∃ e, i < e ∧ e ≤ m ∧ 0 < ga_C g (ga_h g (k + 2) p) i e ∧ ga_vp g m (ga_VB g m) (k + 2) (ga_l g (k + 2) - (p + 1)) e))) := by
      rw [hq, eq1]
      show (i = m ∨ (i < m ∧ ((ga_h g (k + 2) (ga_l g (k + 2) - (q + 1)) = -1 ∧ ga_t g i = ga_w g (k + 2) (ga_l g (k + 2) - (q + 1)) ∧ ga_vp g m (gz_vb g m i B) (k + 2) q (i + 1)) ∨ (ga_h g (k + 2) (ga_l g (k + 2) - (q + 1)) ≠ -1 ∧ (gz_vb g m i B (ga_h g (k + 2) (ga_l g (k + 2) - (q + 1))) i ∨ ∃ e, i < e ∧ e ≤ m ∧ 0 < ga_C g (ga_h g (k + 2) (ga_l g (k + 2) - (q + 1))) i e ∧ ga_vp g m (gz_vb g m i B) (k + 2) q e))))) ↔ _
      rw [eq2, cg q (i + 1) (by omega)]
      have vbi : ∀ h, gz_vb g m i B h i ↔ B h := by
        intro h
        constructor
        · rintro (⟨_, y⟩ | ⟨y, _⟩)
          · exact y
          · exact absurd rfl y
        · intro y; exact Or.inl ⟨rfl, y⟩
      rw [vbi]
      constructor
      · rintro (y | ⟨_, y | ⟨y1, y2 | ⟨e, x1, x2, x3, x4⟩⟩⟩)
        · omega
        · exact Or.inl y
        · exact Or.inr ⟨y1, Or.inl y2⟩
        · exact Or.inr ⟨y1, Or.inr ⟨e, x1, x2, x3, (cg q e x1).mp x4⟩⟩
      · rintro (y | ⟨y1, y2 | ⟨e, x1, x2, x3, x4⟩⟩)
        · exact Or.inr ⟨him, Or.inl y⟩
        · exact Or.inr ⟨him, Or.inr ⟨y1, Or.inl y2⟩⟩
        · exact Or.inr ⟨him, Or.inr ⟨y1, Or.inr ⟨e, x1, x2, x3, (cg q e x1).mpr x4⟩⟩⟩
    obtain ⟨e30, e31⟩ := (hrow k hk).2.2 p hpl
    have hh := (hgp.1 (k + 2) hk).2.2.1 p hpl
    have e1 : 7 * (k : Int) + (p : Int) = ((7 * k + p : Nat) : Int) := by omega
    rw [e1]
    refine np_W_ck ⟨by omega, by omega⟩ ?_
    refine np_W_ck ⟨by rw [e30]; exact ⟨by omega, by omega⟩, by decide⟩ ?_
    refine np_W_if (fun y => ?_) (fun y => ?_)
    · rw [e30] at y
      obtain ⟨h, eh⟩ : ∃ h : Nat, ga_h g (k + 2) p = h := ⟨(ga_h g (k + 2) p).toNat, by omega⟩
      have hbh := hB h (by omega)
      unfold gz_b at hbh
      have e4 : (i : Int) + 1 = ((i + 1 : Nat) : Int) := by omega
      refine np_W_ck ⟨by omega, by omega⟩ ?_
      rw [e30, eh]
      have e5 : 31 * (h : Int) + (i : Int) = ((31 * h + i : Nat) : Int) := by omega
      rw [e5, e4]
      refine np_W_ck ⟨by omega, by omega⟩ ?_
      refine np_W_mono (gz_105 hM hd hm hk hpl eh him hP (X := B h) 20000 (i + 1) _ (by omega) (by omega) (by omega) (gs_bo_iff hbh ⟨Or.inl, ?_⟩)) (fun o ho => ⟨ho.1, gs_bo_iff ho.2 ⟨fun w => evp.mpr (Or.inr ⟨y, by rw [eh]; exact w⟩), fun w => ?_⟩⟩)
      · rintro (w | ⟨x, x1, x2, _⟩)
        · exact w
        · omega
      · rcases evp.mp w with ⟨w1, _⟩ | ⟨_, w2⟩
        · exact absurd w1 y
        · rw [eh] at w2; exact w2
    · rw [e30] at y
      have y := Classical.not_not.mp y
      obtain ⟨f1, f2⟩ := e31 y
      obtain ⟨w1, _, _, w4, _⟩ := hwd i (by omega)
      have w4 := w4 (k + 2) p (by omega) hk hpl y
      refine np_W_ck ⟨by omega, by omega⟩ ?_
      refine np_W_ck ⟨by omega, by omega⟩ ?_
      refine np_W_ck ⟨w1, by rw [f1]; exact f2⟩ ?_
      refine np_W_ck (np_cmpR _ _) ?_
      refine np_W_if (fun x2 => np_W_ck (by decide) (np_W_some ⟨rfl, Or.inr ⟨rfl, fun w => ?_⟩⟩)) (fun x2 => ?_)
      · rcases evp.mp w with ⟨_, w3, _⟩ | ⟨w3, _⟩
        · exact x2 (np_cmp0.mpr (by rw [f1]; exact w4.mpr w3))
        · exact w3 y
      have x3 := np_cmp0.mp (Classical.not_not.mp x2)
      rw [f1] at x3
      have e5 : 31 * (((7 * k + p : Nat) : Int) + 1) + (i : Int) + 1 = ((31 * (7 * k + (p + 1)) + (i + 1) : Nat) : Int) := by omega
      rw [e5]
      have hpe := hP k (p + 1) (i + 1) hk (by omega) (by omega) (by omega)
      unfold gz_p at hpe
      refine np_W_ck ⟨by omega, by omega⟩ ?_
      refine np_W_ck (gs_bo_R hpe) ?_
      refine np_W_if (fun y3 => np_W_ck (by decide) (np_W_some ⟨rfl, Or.inr ⟨rfl, fun w => ?_⟩⟩)) (fun y3 => np_W_ck (by decide) (np_W_some ⟨rfl, Or.inl ⟨rfl, evp.mpr (Or.inl ⟨y, w4.mp x3, (gs_bo_1 hpe).mp y3⟩)⟩⟩))
      rcases evp.mp w with ⟨_, _, w5⟩ | ⟨w3, _⟩
      · exact (gs_bo_1 hpe).mpr w5 y3
      · exact w3 y
  · have hpl : p = ga_l g (k + 2) := by rw [e32] at z2; omega
    have e0 : ga_l g (k + 2) - p = 0 := by omega
    refine np_W_ck (by decide) (np_W_some ⟨rfl, Or.inr ⟨rfl, fun w => ?_⟩⟩)
    rw [e0] at w
    have w : i = m := w
    omega
end
