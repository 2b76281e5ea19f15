/-! the reference: mayBeTerm, canBegin -/
section
variable {g : ga_G} {n : Nat}
theorem gz_vp_mono (hg : ga_ok g) {m r : Nat} (hr : r < ga_R g) {vb vb2 : Int → Nat → Prop} (h : ∀ l i, 0 ≤ l → l ≤ 10 → vb l i → vb2 l i) : ∀ (k i : Nat), k ≤ ga_l g r → ga_vp g m vb r k i → ga_vp g m vb2 r k i := by
  intro k
  induction k with
  | zero => intro i _ a; exact a
  | succ k ih =>
    intro i hk a
    rcases a with a | ⟨a, ⟨a1, a2, a3⟩ | ⟨a1, a2⟩⟩
    · exact Or.inl a
    · exact Or.inr ⟨a, Or.inl ⟨a1, a2, ih (i + 1) (by omega) a3⟩⟩
    · refine Or.inr ⟨a, Or.inr ⟨a1, ?_⟩⟩
      have hh := (hg r hr).2.2.1 (ga_l g r - (k + 1)) (by omega)
      rcases a2 with a2 | ⟨e, e1, e2, e3, e4⟩
      · exact Or.inl (h _ _ (by omega) hh.2 a2)
      · exact Or.inr ⟨e, e1, e2, e3, ih e (by omega) e4⟩
theorem gz_vp1 (hp : gx_p g) {m i : Nat} (him : i < m) (vb : Int → Nat → Prop) : ga_vp g m vb 1 (ga_l g 1) i ↔ (m = i + 1 ∧ ga_t g i = 0) := by
  obtain ⟨hok, R2, _, _, ⟨b1, b2, b3, b4⟩, _⟩ := hp
  rw [b1]
  show (i = m ∨ (i < m ∧ ((ga_h g 1 (ga_l g 1 - 1) = -1 ∧ ga_t g i = ga_w g 1 (ga_l g 1 - 1) ∧ i + 1 = m) ∨ (ga_h g 1 (ga_l g 1 - 1) ≠ -1 ∧ _)))) ↔ _
  rw [b1, show 1 - 1 = 0 from rfl, b3, b4]
  constructor
  · rintro (a | ⟨_, ⟨_, a1, a2⟩ | ⟨a, _⟩⟩)
    · omega
    · exact ⟨a2.symm, a1⟩
    · exact absurd rfl a
  · rintro ⟨a1, a2⟩
    exact Or.inr ⟨him, Or.inl ⟨rfl, a2, a1.symm⟩⟩
theorem gz_vp0 (hp : gx_p g) {m i : Nat} (him : i < m) (hm : m ≤ 30) (B : Int → Prop) : ga_vp g m (gz_vb g m i B) 0 (ga_l g 0) i ↔ (ga_t g i = 40 ∧ ((i + 1 = m ∨ ga_VB g m 0 (i + 1)) ∨ (ga_t g (m - 1) = 41 ∧ i + 2 < m ∧ 0 < ga_C g 0 (i + 1) (m - 1)))) := by
  obtain ⟨hok, R2, _, ⟨b1, b2, b3, b4, b5, b6, b7⟩, _⟩ := hp
  rw [b1]
  show (i = m ∨ (i < m ∧ ((ga_h g 0 (ga_l g 0 - 3) = -1 ∧ ga_t g i = ga_w g 0 (ga_l g 0 - 3) ∧ ga_vp g m (gz_vb g m i B) 0 2 (i + 1)) ∨ (ga_h g 0 (ga_l g 0 - 3) ≠ -1 ∧ _)))) ↔ _
  rw [b1, show 3 - 3 = 0 from rfl, b3, b6]
  have v1 : ∀ e, ga_vp g m (gz_vb g m i B) 0 1 e ↔ (e = m ∨ (e < m ∧ ga_t g e = 41 ∧ e + 1 = m)) := by
    intro e
    show (e = m ∨ (e < m ∧ ((ga_h g 0 (ga_l g 0 - 1) = -1 ∧ ga_t g e = ga_w g 0 (ga_l g 0 - 1) ∧ e + 1 = m) ∨ (ga_h g 0 (ga_l g 0 - 1) ≠ -1 ∧ _)))) ↔ _
    rw [b1, show 3 - 1 = 2 from rfl, b5, b7]
    constructor
    · rintro (a | ⟨a, ⟨_, a1, a2⟩ | ⟨a1, _⟩⟩)
      · exact Or.inl a
      · exact Or.inr ⟨a, a1, a2⟩
      · exact absurd rfl a1
    · rintro (a | ⟨a, a1, a2⟩)
      · exact Or.inl a
      · exact Or.inr ⟨a, Or.inl ⟨rfl, a1, a2⟩⟩
  have v2 : ga_vp g m (gz_vb g m i B) 0 2 (i + 1) ↔ (i + 1 = m ∨ (i + 1 < m ∧ (ga_VB g m 0 (i + 1) ∨ ∃ e, i + 1 < e ∧ e ≤ m ∧ 0 < ga_C g 0 (i + 1) e ∧ (e = m ∨ (e < m ∧ ga_t g e = 41 ∧ e + 1 = m))))) := by
    show (i + 1 = m ∨ (i + 1 < m ∧ ((ga_h g 0 (ga_l g 0 - 2) = -1 ∧ _) ∨ (ga_h g 0 (ga_l g 0 - 2) ≠ -1 ∧ (gz_vb g m i B (ga_h g 0 (ga_l g 0 - 2)) (i + 1) ∨ ∃ e, i + 1 < e ∧ e ≤ m ∧ 0 < ga_C g (ga_h g 0 (ga_l g 0 - 2)) (i + 1) e ∧ ga_vp g m (gz_vb g m i B) 0 1 e))))) ↔ _
    rw [b1, show 3 - 2 = 1 from rfl, b4]
    constructor
    · rintro (a | ⟨a, ⟨a1, _⟩ | ⟨_, a1 | ⟨e, e1, e2, e3, e4⟩⟩⟩)
      · exact Or.inl a
      · exact absurd a1 (by decide)
      · rcases a1 with ⟨z, _⟩ | ⟨_, z⟩
        · omega
        · exact Or.inr ⟨a, Or.inl z⟩
      · exact Or.inr ⟨a, Or.inr ⟨e, e1, e2, e3, (v1 e).mp e4⟩⟩
    · rintro (a | ⟨a, a1 | ⟨e, e1, e2, e3, e4⟩⟩)
      · exact Or.inl a
      · exact Or.inr ⟨a, Or.inr ⟨by decide, Or.inl (Or.inr ⟨by omega, a1⟩)⟩⟩
      · exact Or.inr ⟨a, Or.inr ⟨by decide, Or.inr ⟨e, e1, e2, e3, (v1 e).mpr e4⟩⟩⟩
  rw [v2]
  constructor
  · rintro (a | ⟨_, ⟨_, a1, a2⟩ | ⟨a, _⟩⟩)
    · omega
    · refine ⟨a1, ?_⟩
      rcases a2 with a2 | ⟨a3, a2 | ⟨e, e1, e2, e3, e4 | ⟨e4, e5, e6⟩⟩⟩
      · exact Or.inl (Or.inl a2)
      · exact Or.inl (Or.inr a2)
      · subst e4
        exact Or.inl (Or.inr (ga_VB_of_C hok (by omega) e3))
      · have : e = m - 1 := by omega
        subst this
        exact Or.inr ⟨e5, by omega, e3⟩
    · exact absurd rfl a
  · rintro ⟨a1, a2⟩
    refine Or.inr ⟨him, Or.inl ⟨rfl, a1, ?_⟩⟩
    rcases a2 with (a2 | a2) | ⟨a2, a3, a4⟩
    · exact Or.inl a2
    · exact Or.inr ⟨(ga_VB_iff.mp a2).1, Or.inl a2⟩
    · exact Or.inr ⟨by omega, Or.inr ⟨m - 1, by omega, by omega, a4, Or.inr ⟨by omega, a2, by omega⟩⟩⟩
def gz_tt (g : ga_G) (m i : Nat) (B : Int → Prop) (l : Int) (k : Nat) : Prop := ∃ r, r < k ∧ l ≤ ga_v g r ∧ ga_vp g m (gz_vb g m i B) r (ga_l g r) i
theorem gz_107 {σ : np_S} (hM : gy_M g n σ) (hd : gy_done g n σ) {m i l : Nat} (hm : m ≤ n) (him : i < m) (hl : l ≤ 10) (hP : gz_P g m (i + 1) σ) {B : Int → Prop} (hB : ∀ h : Nat, h ≤ 10 → gs_bo (gz_b σ h i) (B h)) : ∀ (f k : Nat) (b : Int), k + 2 ≤ ga_R g → ga_R g - 2 - k < f → gs_bo b (gz_tt g m i B l (k + 2)) → np_W (f_M_mayBeTerm_107 f l i m b k σ) (fun o => o.2 = σ ∧ gs_bo o.1 (gz_tt g m i B l (ga_R g))) := by
  obtain ⟨hgp, n30, hC, hMM, e2, e11, hrow, hwd⟩ := id hM
  have R14 := hgp.2.2.1
  intro f
  induction f with
  | zero => intro k b _ h; omega
  | succ f ih =>
    intro k b hk hf hb
    show np_W (f_M_mayBeTerm_107_b _ l i m b k σ) _
    unfold f_M_mayBeTerm_107_b f_M_mayBeTerm_144 f_M_mayBeTerm_148 f_M_mayBeTerm_149
    have e2' : σ 29 2 = ((ga_R g - 2 : Nat) : Int) := by rw [e2]; omega
    have e5 : (k : Int) + 1 = ((k + 1 : Nat) : Int) := by omega
    rw [e2', e5]
    refine np_W_ck ⟨⟨by omega, by omega⟩, ⟨by omega, by omega⟩⟩ ?_
    refine np_W_if (fun z => np_W_ck (gs_bo_01 hb) (np_W_some ⟨rfl, ?_⟩)) (fun z => ?_)
    · have ek : k + 2 = ga_R g := by omega
      rw [ek] at hb; exact hb
    have hk2 : k + 2 < ga_R g := by omega
    have yes : gz_tt g m i B l (k + 2 + 1) → np_W (f_M_mayBeTerm_107 f l i m 1 (((k + 1 : Nat)) : Int) σ) (fun o => o.2 = σ ∧ gs_bo o.1 (gz_tt g m i B l (ga_R g))) := fun y => ih (k + 1) 1 (by omega) (by omega) (Or.inl ⟨rfl, by rw [show k + 1 + 2 = k + 2 + 1 by omega]; exact y⟩)
    have no : ¬ gz_tt g m i B l (k + 2) → ¬ ((l : Int) ≤ ga_v g (k + 2) ∧ ga_vp g m (gz_vb g m i B) (k + 2) (ga_l g (k + 2)) i) → np_W (f_M_mayBeTerm_107 f l i m 0 (((k + 1 : Nat)) : Int) σ) (fun o => o.2 = σ ∧ gs_bo o.1 (gz_tt g m i B l (ga_R g))) := by
      intro y1 y2
      refine ih (k + 1) 0 (by omega) (by omega) (Or.inr ⟨rfl, ?_⟩)
      rintro ⟨r, r1, r2⟩
      by_cases e : r = k + 2
      · subst e; exact y2 r2
      · exact y1 ⟨r, by omega, r2⟩
    have hv := (hgp.1 (k + 2) hk2).2.1
    have e33 := (hrow k hk2).2.1
    refine np_W_ck (gs_bo_R hb) ?_
    refine np_W_if (fun y => yes ?_) (fun y => ?_)
    · obtain ⟨r, r1, r2⟩ := (gs_bo_1 hb).mp y
      exact ⟨r, by omega, r2⟩
    have nb := fun q => y ((gs_bo_1 hb).mpr q)
    refine np_W_ck ⟨by omega, by omega⟩ ?_
    refine np_W_ck ⟨by rw [e33]; exact ⟨by omega, by omega⟩, ⟨by omega, by omega⟩⟩ ?_
    refine np_W_if (fun y2 => no nb (fun q => by rw [e33] at y2; have := q.1; omega)) (fun y2 => ?_)
    rw [e33] at y2
    have ez : (0 : Int) = ((0 : Nat) : Int) := rfl
    rw [ez]
    refine np_W_seq (gz_may hM hd hm hk2 (p := 0) (by omega) him hP hB) (fun o ho => ?_)
    obtain ⟨v, τ⟩ := o
    obtain ⟨e, hb2⟩ := ho
    dsimp only at e hb2 ⊢
    subst e
    rw [Nat.sub_zero] at hb2
    refine np_W_ck (gs_bo_R hb2) ?_
    refine np_W_if (fun y3 => no nb (fun q => (gs_bo_1 hb2).mpr q.2 y3)) (fun y3 => yes ⟨k + 2, by omega, by omega, (gs_bo_1 hb2).mp y3⟩)
theorem gz_term {σ : np_S} (hM : gy_M g n σ) (hd : gy_done g n σ) {m i l : Nat} (hm : m ≤ n) (him : i < m) (hl : l ≤ 10) (hP : gz_P g m (i + 1) σ) {B : Int → Prop} (hB : ∀ h : Nat, h ≤ 10 → gs_bo (gz_b σ h i) (B h)) (hb1 : gs_bo (gz_b σ 0 (i + 1)) (i + 1 = m ∨ ga_VB g m 0 (i + 1))) : np_W (f_M_mayBeTerm l i m σ) (fun o => o.2 = σ ∧ gs_bo o.1 (gz_tt g m i B l (ga_R g))) := by
  obtain ⟨hgp, n30, hC, hMM, e2, e11, hrow, hwd⟩ := id hM
  have R14 := hgp.2.2.1
  have R2 := hgp.2.1
  have v0 := gz_vp0 hgp him (by omega) B
  have v1 := gz_vp1 hgp him (gz_vb g m i B)
  have t2 : gz_tt g m i B l 2 ↔ ((ga_t g i = 40 ∧ ((i + 1 = m ∨ ga_VB g m 0 (i + 1)) ∨ (ga_t g (m - 1) = 41 ∧ i + 2 < m ∧ 0 < ga_C g 0 (i + 1) (m - 1)))) ∨ (m = i + 1 ∧ ga_t g i = 0)) := by
    rw [← v0, ← v1]
    constructor
    · rintro ⟨r, r1, r2, r3⟩
      have : r = 0 ∨ r = 1 := by omega
      rcases this with e | e
      · rw [e] at r3; exact Or.inl r3
      · rw [e] at r3; exact Or.inr r3
    · rintro (a | a)
      · exact ⟨0, by omega, by rw [hgp.2.2.2.1.2.1]; omega, a⟩
      · exact ⟨1, by omega, by rw [hgp.2.2.2.2.1.2.1]; omega, a⟩
  have h104 : ∀ b : Int, gs_bo b (gz_tt g m i B l 2) → np_W (f_M_mayBeTerm_104 l i m b σ) (fun o => o.2 = σ ∧ gs_bo o.1 (gz_tt g m i B l (ga_R g))) := by
    intro b hb
    unfold f_M_mayBeTerm_104
    exact gz_107 hM hd hm him hl hP hB 20000 0 b (by omega) (by omega) hb
  have w40 := (hwd i (by omega)).2.1
  have w41 := (hwd (m - 1) (by omega)).2.2.1
  have h53 : ∀ b : Int, ga_t g i = 40 → gs_bo b ((i + 1 = m ∨ ga_VB g m 0 (i + 1)) ∨ (m = i + 1 ∧ ga_t g i = 0)) → np_W (f_M_mayBeTerm_53 l i m b σ) (fun o => o.2 = σ ∧ gs_bo o.1 (gz_tt g m i B l (ga_R g))) := by
    intro b t40 hb
    unfold f_M_mayBeTerm_53 f_M_mayBeTerm_97 f_M_mayBeTerm_101 f_M_mayBeTerm_102
    refine np_W_ck (gs_bo_R hb) ?_
    refine np_W_if (fun y => h104 1 (Or.inl ⟨rfl, t2.mpr ?_⟩)) (fun y => ?_)
    · rcases (gs_bo_1 hb).mp y with q | q
      · exact Or.inl ⟨t40, Or.inl q⟩
      · exact Or.inr q
    have nb := fun q => y ((gs_bo_1 hb).mpr q)
    have no : ¬ (ga_t g (m - 1) = 41 ∧ i + 2 < m ∧ 0 < ga_C g 0 (i + 1) (m - 1)) → np_W (f_M_mayBeTerm_104 l i m 0 σ) (fun o => o.2 = σ ∧ gs_bo o.1 (gz_tt g m i B l (ga_R g))) := by
      intro hno
      refine h104 0 (Or.inr ⟨rfl, fun q => ?_⟩)
      rcases t2.mp q with ⟨_, q | q⟩ | q
      · exact nb (Or.inl q)
      · exact hno q
      · exact nb (Or.inr q)
    have e1 : (m : Int) - 1 = ((m - 1 : Nat) : Int) := by omega
    rw [e1]
    refine np_W_seq (gy_is hM (i := m - 1) (by omega) (c := 41) (by decide)) (fun o ho => ?_)
    obtain ⟨v, τ⟩ := o
    obtain ⟨e, hb2⟩ := ho
    dsimp only at e hb2 ⊢
    subst e
    refine np_W_ck (gs_bo_R hb2) ?_
    refine np_W_if (fun y2 => no (fun q => (gs_bo_1 hb2).mpr ⟨by omega, w41.mpr q.1⟩ y2)) (fun y2 => ?_)
    have t41 := w41.mp ((gs_bo_1 hb2).mp y2).2
    refine np_W_ck ⟨⟨by omega, by omega⟩, ⟨by omega, by omega⟩⟩ ?_
    refine np_W_if (fun y3 => no (fun q => by have := q.2.1; omega)) (fun y3 => ?_)
    have e3 : (i : Int) + 1 = ((i + 1 : Nat) : Int) := by omega
    have ec := gy_cell 0 (i + 1) (m - 1) τ
    rw [show ((0 : Nat) : Int) = 0 from rfl] at ec
    rw [e3, ec]
    refine np_W_bind (np_W_some ?_)
    dsimp only
    have b37 : gy_ix 0 (i + 1) (m - 1) < 10571 := by unfold gy_ix; omega
    have ht := (hd.1 0 (i + 1) (m - 1) (by omega) (by omega) (by omega)).1 ⟨by omega, by omega⟩
    unfold gy_tm at ht
    have bs := ga_sat_le (ga_C g 0 (i + 1) (m - 1))
    refine np_W_ck ⟨by omega, by omega⟩ ?_
    refine np_W_ck ?_ ?_
    · have ht' : τ 37 ((gy_ix 0 (i + 1) (m - 1) : Nat) : Int) = ga_sat (ga_C g 0 (i + 1) (m - 1)) := ht
      rw [ht']; exact ⟨by omega, by omega⟩
    have ht' : τ 37 ((gy_ix 0 (i + 1) (m - 1) : Nat) : Int) = ga_sat (ga_C g 0 (i + 1) (m - 1)) := ht
    refine np_W_if (fun y4 => no (fun q => ?_)) (fun y4 => h104 1 (Or.inl ⟨rfl, t2.mpr (Or.inl ⟨t40, Or.inr ⟨t41, by omega, ?_⟩⟩)⟩))
    · rw [ht'] at y4
      have := ga_sat_pos.mpr q.2.2
      omega
    · rw [ht'] at y4
      exact ga_sat_pos.mp (by omega)
  have h20 : ∀ b : Int, gs_bo b (m = i + 1 ∧ ga_t g i = 0) → np_W (f_M_mayBeTerm_20 l i m b σ) (fun o => o.2 = σ ∧ gs_bo o.1 (gz_tt g m i B l (ga_R g))) := by
    intro b hb
    unfold f_M_mayBeTerm_20 f_M_mayBeTerm_48
    refine np_W_seq (gy_is hM (i := i) (by omega) (c := 40) (by decide)) (fun o ho => ?_)
    obtain ⟨v, τ⟩ := o
    obtain ⟨e, hb2⟩ := ho
    dsimp only at e hb2 ⊢
    subst e
    refine np_W_ck (gs_bo_R hb2) ?_
    refine np_W_if (fun y => h104 b (gs_bo_iff hb ⟨fun q => t2.mpr (Or.inr q), fun q => ?_⟩)) (fun y => ?_)
    · rcases t2.mp q with q | q
      · exact absurd y ((gs_bo_1 hb2).mpr ⟨by omega, w40.mpr q.1⟩)
      · exact q
    have t40 := w40.mp ((gs_bo_1 hb2).mp y).2
    refine np_W_ck (gs_bo_R hb) ?_
    refine np_W_if (fun y2 => h53 1 t40 (Or.inl ⟨rfl, Or.inr ((gs_bo_1 hb).mp y2)⟩)) (fun y2 => ?_)
    have nb := fun q => y2 ((gs_bo_1 hb).mpr q)
    have e3 : (i : Int) + 1 = ((31 * 0 + (i + 1) : Nat) : Int) := by omega
    have hb1' := hb1
    unfold gz_b at hb1'
    rw [← e3] at hb1'
    refine np_W_ck ⟨by omega, by omega⟩ ?_
    refine np_W_ck (gs_bo_R hb1') ?_
    refine np_W_if (fun y3 => h53 0 t40 (Or.inr ⟨rfl, ?_⟩)) (fun y3 => h53 1 t40 (Or.inl ⟨rfl, Or.inl ((gs_bo_1 hb1').mp y3)⟩))
    rintro (q | q)
    · exact (gs_bo_1 hb1').mpr q y3
    · exact nb q
  unfold f_M_mayBeTerm f_M_mayBeTerm_19
  refine np_W_ck ⟨⟨by omega, by omega⟩, ⟨by omega, by omega⟩⟩ ?_
  refine np_W_if (fun y => h20 0 (Or.inr ⟨rfl, fun q => by have := q.1; omega⟩)) (fun y => ?_)
  refine np_W_seq (gy_atom hM (i := i) (by omega)) (fun o ho => ?_)
  obtain ⟨v, τ⟩ := o
  obtain ⟨e, hb⟩ := ho
  dsimp only at e hb ⊢
  subst e
  refine np_W_ck (gs_bo_R hb) ?_
  refine np_W_if (fun y2 => h20 0 (Or.inr ⟨rfl, fun q => (gs_bo_1 hb).mpr q.2 y2⟩)) (fun y2 => h20 1 (Or.inl ⟨rfl, by omega, (gs_bo_1 hb).mp y2⟩))
end
