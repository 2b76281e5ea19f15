/-! WHAT CAN BEGIN: with which words texts that have a tree begin -/
/-- the last k parts of rule r can begin with the words from i to m; vb: terms that can -/
def ga_vp (g : ga_G) (m : Nat) (vb : Int → Nat → Prop) (r : Nat) : Nat → Nat → Prop
  | 0, i => i = m
  | k + 1, i => i = m ∨ (i < m ∧ ((ga_h g r (ga_l g r - (k + 1)) = -1 ∧ ga_t g i = ga_w g r (ga_l g r - (k + 1)) ∧ ga_vp g m vb r k (i + 1)) ∨
    (ga_h g r (ga_l g r - (k + 1)) ≠ -1 ∧ (vb (ga_h g r (ga_l g r - (k + 1))) i ∨ ∃ e, i < e ∧ e ≤ m ∧ 0 < ga_C g (ga_h g r (ga_l g r - (k + 1))) i e ∧ ga_vp g m vb r k e))))
def ga_vb (g : ga_G) (m : Nat) : Nat → Int → Nat → Prop
  | 0, _, _ => False
  | f + 1, l, i => i < m ∧ ∃ r, r < ga_R g ∧ l ≤ ga_v g r ∧ ga_vp g m (ga_vb g m f) r (ga_l g r) i
def ga_VB (g : ga_G) (m : Nat) (l : Int) (i : Nat) : Prop := ∃ f, ga_vb g m f l i
section GA2
variable {g : ga_G} {m : Nat}
theorem ga_vp_mono {vb vb2 : Int → Nat → Prop} (h : ∀ l i, vb l i → vb2 l i) {r : Nat} : ∀ (k i : Nat), ga_vp g m vb r k i → ga_vp g m vb2 r k i := by
  intro k
  induction k with
  | zero => intro i q; exact q
  | succ k ih =>
    intro i q
    rcases q with q | ⟨q0, ⟨q1, q2, q3⟩ | ⟨q1, q2 | ⟨e, q3, q4, q5, q6⟩⟩⟩
    · exact Or.inl q
    · exact Or.inr ⟨q0, Or.inl ⟨q1, q2, ih _ q3⟩⟩
    · exact Or.inr ⟨q0, Or.inr ⟨q1, Or.inl (h _ _ q2)⟩⟩
    · exact Or.inr ⟨q0, Or.inr ⟨q1, Or.inr ⟨e, q3, q4, q5, ih _ q6⟩⟩⟩
theorem ga_vb_step : ∀ (f : Nat) (l : Int) (i : Nat), ga_vb g m f l i → ga_vb g m (f + 1) l i := by
  intro f
  induction f with
  | zero => intro l i h; exact absurd h (fun z => z)
  | succ f ih =>
    intro l i h
    obtain ⟨h1, r, h2, h3, h4⟩ := h
    exact ⟨h1, r, h2, h3, ga_vp_mono (fun l i q => ih l i q) _ _ h4⟩
theorem ga_vb_up {f : Nat} {l : Int} {i : Nat} (h : ga_vb g m f l i) : ∀ n, ga_vb g m (f + n) l i := by
  intro n
  induction n with
  | zero => exact h
  | succ n ih => exact ga_vb_step _ _ _ ih
theorem ga_vp_VB {r : Nat} : ∀ (k i : Nat), ga_vp g m (ga_VB g m) r k i → ∃ f, ga_vp g m (ga_vb g m f) r k i := by
  intro k
  induction k with
  | zero => intro i q; exact ⟨0, q⟩
  | succ k ih =>
    intro i q
    rcases q with q | ⟨q0, ⟨q1, q2, q3⟩ | ⟨q1, ⟨f, q2⟩ | ⟨e, q3, q4, q5, q6⟩⟩⟩
    · exact ⟨0, Or.inl q⟩
    · obtain ⟨f, q4⟩ := ih _ q3
      exact ⟨f, Or.inr ⟨q0, Or.inl ⟨q1, q2, q4⟩⟩⟩
    · exact ⟨f, Or.inr ⟨q0, Or.inr ⟨q1, Or.inl q2⟩⟩⟩
    · obtain ⟨f, q7⟩ := ih _ q6
      exact ⟨f, Or.inr ⟨q0, Or.inr ⟨q1, Or.inr ⟨e, q3, q4, q5, q7⟩⟩⟩⟩
theorem ga_VB_iff {l : Int} {i : Nat} : ga_VB g m l i ↔ i < m ∧ ∃ r, r < ga_R g ∧ l ≤ ga_v g r ∧ ga_vp g m (ga_VB g m) r (ga_l g r) i := by
  constructor
  · rintro ⟨f, h⟩
    cases f with
    | zero => exact absurd h (fun z => z)
    | succ f =>
      obtain ⟨h1, r, h2, h3, h4⟩ := h
      exact ⟨h1, r, h2, h3, ga_vp_mono (fun l i q => ⟨f, q⟩) _ _ h4⟩
  · rintro ⟨h1, r, h2, h3, h4⟩
    obtain ⟨f, h5⟩ := ga_vp_VB _ _ h4
    exact ⟨f + 1, h1, r, h2, h3, h5⟩
theorem ga_VB_mono {l l2 : Int} {i : Nat} (hl : l ≤ l2) (h : ga_VB g m l2 i) : ga_VB g m l i := by
  obtain ⟨h1, r, h2, h3, h4⟩ := ga_VB_iff.mp h
  exact ga_VB_iff.mpr ⟨h1, r, h2, by omega, h4⟩
theorem ga_P_word {c : Int → Nat → Nat → Nat} {r d i j : Nat} (hw : ga_h g r d = -1) : 0 < ga_P g c r (d + 1) i (j + 1) ↔ ga_t g j = ga_w g r d ∧ 0 < ga_P g c r d i j := by
  rw [ga_P, if_pos hw, Nat.add_sub_cancel]
  constructor
  · intro h
    split at h
    · rename_i q; exact ⟨q.2, h⟩
    · omega
  · rintro ⟨h1, h2⟩
    have := ga_P_len _ _ _ h2
    rw [if_pos ⟨by omega, h1⟩]; exact h2
theorem ga_P_hole {c : Int → Nat → Nat → Nat} {r d i j : Nat} (hw : ga_h g r d ≠ -1) : 0 < ga_P g c r (d + 1) i j ↔ ∃ m, m < j ∧ 0 < ga_P g c r d i m ∧ 0 < c (ga_h g r d) m j := by
  rw [ga_P, if_neg hw, ga_sum_pos]
  constructor
  · rintro ⟨m, h1, h2⟩
    split at h2
    · exact ⟨m, h1, Nat.pos_of_mul_pos_right h2, Nat.pos_of_mul_pos_left h2⟩
    · omega
  · rintro ⟨m, h1, h2, h3⟩
    have := ga_P_len _ _ _ h2
    exact ⟨m, h1, by rw [if_pos (by omega)]; exact Nat.mul_pos h2 h3⟩
theorem ga_C_pos (hg : ga_ok g) {l : Int} {i j : Nat} (h : j - i ≤ 39) : 0 < ga_C g l i j ↔ ∃ r, r < ga_R g ∧ l ≤ ga_v g r ∧ 0 < ga_P g (ga_C g) r (ga_l g r) i j := by
  rw [ga_C_eq hg h, ga_sum_pos]
  constructor
  · rintro ⟨r, h1, h2⟩
    split at h2
    · exact ⟨r, h1, by assumption, by rw [ga_PS]; exact h2⟩
    · omega
  · rintro ⟨r, h1, h2, h3⟩
    exact ⟨r, h1, by rw [if_pos h2, ← ga_PS]; exact h3⟩
/-- parts that are taken stand ahead of parts that can begin -/
theorem ga_vp_pre (hg : ga_ok g) {vb : Int → Nat → Prop} {r : Nat} : ∀ (d i0 i : Nat), d ≤ ga_l g r → i ≤ m → 0 < ga_P g (ga_C g) r d i0 i → ga_vp g m vb r (ga_l g r - d) i → ga_vp g m vb r (ga_l g r) i0 := by
  intro d
  induction d with
  | zero =>
    intro i0 i _ _ h1 h2
    rw [ga_P] at h1
    split at h1
    · rename_i e; subst e; exact h2
    · omega
  | succ d ih =>
    intro i0 i hd him h1 h2
    have hk : ga_l g r - d = (ga_l g r - (d + 1)) + 1 := by omega
    have hk2 : ga_l g r - (ga_l g r - (d + 1) + 1) = d := by omega
    by_cases hw : ga_h g r d = -1
    · have hl := ga_P_len _ _ _ h1
      obtain ⟨j, rfl⟩ : ∃ j, i = j + 1 := ⟨i - 1, by omega⟩
      obtain ⟨h3, h4⟩ := (ga_P_word hw).mp h1
      refine ih i0 j (by omega) (by omega) h4 ?_
      rw [hk]
      refine Or.inr ⟨by omega, Or.inl ?_⟩
      rw [hk2]
      exact ⟨hw, h3, h2⟩
    · obtain ⟨j, h3, h4, h5⟩ := (ga_P_hole hw).mp h1
      refine ih i0 j (by omega) (by omega) h4 ?_
      rw [hk]
      refine Or.inr ⟨by omega, Or.inr ?_⟩
      rw [hk2]
      exact ⟨hw, Or.inr ⟨i, h3, him, h5, h2⟩⟩
theorem ga_VB_of_C (hg : ga_ok g) {l : Int} {i : Nat} (hm : m - i ≤ 39) (h : 0 < ga_C g l i m) : ga_VB g m l i := by
  obtain ⟨r, h1, h2, h3⟩ := (ga_C_pos hg hm).mp h
  refine ga_VB_iff.mpr ⟨ga_C_lt hg h, r, h1, h2, ga_vp_pre hg _ i m (Nat.le_refl _) (Nat.le_refl _) h3 ?_⟩
  rw [Nat.sub_self]; rfl
/-- an item at place j that waits for word j -/
def ga_found (g : ga_G) (L : Nat → Int) (j : Nat) : Prop := ∃ i0 r d, i0 ≤ j ∧ r < ga_R g ∧ d < ga_l g r ∧ L i0 ≤ ga_v g r ∧ 0 < ga_P g (ga_C g) r d i0 j ∧ ga_h g r d = -1 ∧ ga_w g r d = ga_t g j
/-- L i: rules of levels from L i on are tried at place i: no more than texts with a tree have there -/
def ga_LA (g : ga_G) (L : Nat → Int) (j : Nat) : Prop := ∀ i, i ≤ j → ∀ m, i < m → ga_VB g m (L i) i → ga_VB g m 0 0
/-- and all that holes ask for -/
def ga_LB (g : ga_G) (L : Nat → Int) (j : Nat) : Prop := ∀ i0 i r d, i0 ≤ i → i ≤ j → r < ga_R g → d < ga_l g r → L i0 ≤ ga_v g r → 0 < ga_P g (ga_C g) r d i0 i → ga_h g r d ≠ -1 → L i ≤ ga_h g r d
theorem ga_viable1 (hg : ga_ok g) {L : Nat → Int} {j : Nat} (hA : ga_LA g L j) (h : ga_found g L j) : ga_VB g (j + 1) 0 0 := by
  obtain ⟨i0, r, d, h1, h2, h3, h4, h5, h6, h7⟩ := h
  refine hA i0 h1 (j + 1) (by omega) (ga_VB_iff.mpr ⟨by omega, r, h2, h4, ?_⟩)
  refine ga_vp_pre hg d i0 j (by omega) (by omega) h5 ?_
  have hk : ga_l g r - d = (ga_l g r - (d + 1)) + 1 := by omega
  have hk2 : ga_l g r - (ga_l g r - (d + 1) + 1) = d := by omega
  rw [hk]
  refine Or.inr ⟨by omega, Or.inl ?_⟩
  rw [hk2]
  refine ⟨h6, h7.symm, ?_⟩
  generalize ga_l g r - (d + 1) = k
  cases k with
  | zero => rfl
  | succ k => exact Or.inl rfl
/-- what is reached behind word j was reached by it -/
theorem ga_found_of_P (hg : ga_ok g) {L : Nat → Int} {j : Nat} (hj : j ≤ 38) (hB : ga_LB g L j) : ∀ (n i0 r d : Nat), 2 * (j + 1 - i0) + (if d = 0 then 1 else 0) ≤ n → i0 ≤ j → r < ga_R g → d < ga_l g r → L i0 ≤ ga_v g r → 0 < ga_P g (ga_C g) r (d + 1) i0 (j + 1) → ga_found g L j := by
  intro n
  induction n with
  | zero => intro i0 r d h hi; omega
  | succ n ih =>
    intro i0 r d hn hi hr hd hL hP
    by_cases hw : ga_h g r d = -1
    · obtain ⟨h1, h2⟩ := (ga_P_word hw).mp hP
      exact ⟨i0, r, d, hi, hr, hd, hL, h2, hw, h1.symm⟩
    · obtain ⟨m, h1, h2, h3⟩ := (ga_P_hole hw).mp hP
      have hm := ga_P_len _ _ _ h2
      have hLm := hB i0 m r d (by omega) (by omega) hr hd hL h2 hw
      obtain ⟨r2, q1, q2, q3⟩ := (ga_C_pos hg (by omega)).mp h3
      have hl2 := (hg r2 q1).1
      obtain ⟨d2, hd2⟩ : ∃ q, ga_l g r2 = q + 1 := ⟨ga_l g r2 - 1, by omega⟩
      by_cases hz : d = 0
      · subst hz
        have hmi : m = i0 := by
          rw [ga_P] at h2
          split at h2 <;> omega
        subst hmi
        by_cases hz2 : d2 = 0
        · subst hz2
          obtain ⟨dw, w1, w2⟩ := (hg r2 q1).2.2.2.2
          have hdw : dw = 0 := by omega
          subst hdw
          rw [hd2] at q3
          obtain ⟨z1, z2⟩ := (ga_P_word w2).mp q3
          exact ⟨m, r2, 0, by omega, q1, by omega, by omega, z2, w2, z1.symm⟩
        · refine ih m r2 d2 ?_ (by omega) q1 (by omega) (by omega) (by rw [← hd2]; exact q3)
          rw [if_neg hz2]
          rw [if_pos rfl] at hn
          omega
      · refine ih m r2 d2 ?_ (by omega) q1 (by omega) (by omega) (by rw [← hd2]; exact q3)
        rw [if_neg hz] at hn
        split <;> omega
theorem ga_viable2 (hg : ga_ok g) {L : Nat → Int} {j : Nat} (hj : j ≤ 38) (hB : ga_LB g L j) : ∀ (f : Nat) (l : Int) (i : Nat), L i ≤ l → ga_vb g (j + 1) f l i → ga_found g L j := by
  intro f
  induction f with
  | zero => intro l i _ h; exact absurd h (fun z => z)
  | succ f ih =>
    intro l i hl h
    obtain ⟨h1, r, h2, h3, h4⟩ := h
    have key : ∀ (k i2 : Nat), k ≤ ga_l g r → i ≤ i2 → i2 < j + 1 → 0 < ga_P g (ga_C g) r (ga_l g r - k) i i2 → ga_vp g (j + 1) (ga_vb g (j + 1) f) r k i2 → ga_found g L j := by
      intro k
      induction k with
      | zero => intro i2 _ _ hlt _ hv; exact absurd hv (by intro z; have : i2 = j + 1 := z; omega)
      | succ k ihk =>
        intro i2 hk hi hlt hP hv
        have e1 : ga_l g r - k = (ga_l g r - (k + 1)) + 1 := by omega
        have hd : ga_l g r - (k + 1) < ga_l g r := by omega
        rcases hv with q | ⟨q0, ⟨q1, q2, q3⟩ | ⟨q1, q2 | ⟨e, q3, q4, q5, q6⟩⟩⟩
        · omega
        · by_cases he : i2 = j
          · subst he
            exact ⟨i, r, _, by omega, h2, hd, by omega, hP, q1, q2.symm⟩
          · refine ihk (i2 + 1) (by omega) (by omega) (by omega) ?_ q3
            rw [e1]
            exact (ga_P_word q1).mpr ⟨q2, hP⟩
        · exact ih _ i2 (hB i i2 r _ hi (by omega) h2 hd (by omega) hP q1) q2
        · have hPe : 0 < ga_P g (ga_C g) r (ga_l g r - k) i e := by
            rw [e1]
            exact (ga_P_hole q1).mpr ⟨i2, q3, hP, q5⟩
          by_cases he : e = j + 1
          · subst he
            rw [e1] at hPe
            exact ga_found_of_P hg hj hB _ i r _ (Nat.le_refl _) (by omega) h2 hd (by omega) hPe
          · exact ihk e (by omega) (by omega) (by omega) hPe q6
    refine key _ i (Nat.le_refl _) (Nat.le_refl _) h1 ?_ h4
    rw [Nat.sub_self, ga_P, if_pos rfl]; omega
/-- the words can go on with word j just where some item waits for it -/
theorem ga_viable (hg : ga_ok g) {L : Nat → Int} {j : Nat} (hj : j ≤ 38) (hA : ga_LA g L j) (hB : ga_LB g L j) (h0 : L 0 ≤ 0) : ga_VB g (j + 1) 0 0 ↔ ga_found g L j := by
  constructor
  · rintro ⟨f, h⟩; exact ga_viable2 hg hj hB f 0 0 h0 h
  · exact ga_viable1 hg hA
/-- the next place: what its items ask for, closed under first holes -/
theorem ga_L_next (hg : ga_ok g) {L : Nat → Int} {j : Nat} {w x : Int} (hA : ga_LA g L j) (hB : ga_LB g L j)
    (hw1 : ∀ i0 r d, i0 ≤ j → r < ga_R g → d < ga_l g r → L i0 ≤ ga_v g r → 0 < ga_P g (ga_C g) r d i0 (j + 1) → ga_h g r d ≠ -1 → w ≤ ga_h g r d)
    (hw2 : w = 11 ∨ ∃ i0 r d, i0 ≤ j ∧ r < ga_R g ∧ d < ga_l g r ∧ L i0 ≤ ga_v g r ∧ 0 < ga_P g (ga_C g) r d i0 (j + 1) ∧ ga_h g r d ≠ -1 ∧ ga_h g r d = w)
    (hxw : x ≤ w) (hx1 : ∀ r, r < ga_R g → x ≤ ga_v g r → ga_h g r 0 ≠ -1 → x ≤ ga_h g r 0)
    (hx2 : ∀ Q : Int → Prop, Q w → (∀ y r, Q y → r < ga_R g → y ≤ ga_v g r → ga_h g r 0 ≠ -1 → Q (ga_h g r 0)) → Q x)
    {L2 : Nat → Int} (e1 : ∀ i, i ≤ j → L2 i = L i) (e2 : L2 (j + 1) = x) : ga_LA g L2 (j + 1) ∧ ga_LB g L2 (j + 1) := by
  constructor
  · intro i hi m him hv
    by_cases hij : i ≤ j
    · rw [e1 i hij] at hv
      exact hA i hij m him hv
    · have hij2 : i = j + 1 := by omega
      subst hij2
      rw [e2] at hv
      revert hv
      refine hx2 (fun y => ga_VB g m y (j + 1) → ga_VB g m 0 0) ?_ ?_
      · intro hv
        rcases hw2 with rfl | ⟨i0, r, d, a1, a2, a3, a4, a5, a6, rfl⟩
        · obtain ⟨_, r, h2, h3, _⟩ := ga_VB_iff.mp hv
          have := (hg r h2).2.1
          omega
        · refine hA i0 a1 m (by omega) (ga_VB_mono a4 (ga_VB_iff.mpr ⟨by omega, r, a2, Int.le_refl _, ?_⟩))
          refine ga_vp_pre hg d i0 (j + 1) (by omega) (by omega) a5 ?_
          have hk : ga_l g r - d = (ga_l g r - (d + 1)) + 1 := by omega
          have hk2 : ga_l g r - (ga_l g r - (d + 1) + 1) = d := by omega
          rw [hk]
          refine Or.inr ⟨by omega, Or.inr ?_⟩
          rw [hk2]
          exact ⟨a6, Or.inl hv⟩
      · intro y r hy hr hyr hne hv
        refine hy (ga_VB_mono hyr (ga_VB_iff.mpr ⟨him, r, hr, Int.le_refl _, ?_⟩))
        have hl := (hg r hr).1.1
        obtain ⟨k, hk⟩ : ∃ q, ga_l g r = q + 1 := ⟨ga_l g r - 1, by omega⟩
        have hk2 : ga_l g r - (k + 1) = 0 := by omega
        rw [hk]
        refine Or.inr ⟨him, Or.inr ?_⟩
        rw [hk2]
        exact ⟨hne, Or.inl hv⟩
  · intro i0 i r d hi hij hr hd hL hP hne
    by_cases h1 : i ≤ j
    · rw [e1 i h1]
      rw [e1 i0 (by omega)] at hL
      exact hB i0 i r d hi h1 hr hd hL hP hne
    · have h2 : i = j + 1 := by omega
      subst h2
      rw [e2]
      by_cases h3 : i0 ≤ j
      · rw [e1 i0 h3] at hL
        have := hw1 i0 r d h3 hr hd hL hP hne
        omega
      · have h4 : i0 = j + 1 := by omega
        subst h4
        rw [e2] at hL
        have hd0 := ga_P_len _ _ _ hP
        have hd1 : d = 0 := by omega
        subst hd1
        exact hx1 r hr hL hne
end GA2
