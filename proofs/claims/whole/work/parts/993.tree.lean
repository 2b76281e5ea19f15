/-! the tree in its arrays: spans, chains of brackets, children -/
section
variable {g : ga_G} {n T : Nat}
/-- the only tree's nodes -/
def gt_ok (g : ga_G) (n T : Nat) : Prop := gx_p g ∧ 1 ≤ n ∧ n ≤ 30 ∧ ga_C g 0 0 n = 1 ∧ gn_end g n T
theorem gt_inv (h : gt_ok g n T) : ∀ t, t ≤ T → gn_inv g n t := by
  obtain ⟨hp, hn1, hn, h1, hT⟩ := h
  intro t
  induction t with
  | zero => intro _; exact gn_inv_0 h1 hn1
  | succ t ih => intro ht; exact (gn_inv_s hp.1 hn (ih (by omega)) (hT.2.1 t (by omega))).1
theorem gt_step (h : gt_ok g n T) {t : Nat} (ht : t < T) : ∃ s, gn_S g n t = gn_hd g n t :: s ∧ gn_S g n (t + 1) = gn_kd g (gn_hd g n t) t ++ s := by
  cases hs : gn_S g n t with
  | nil => exact absurd hs (h.2.2.2.2.2.1 t ht)
  | cons a s =>
    refine ⟨s, by rw [gn_hd_eq hs], ?_⟩
    show gn_nx g t (gn_S g n t) = _
    rw [hs, gn_hd_eq hs]; rfl
theorem gt_hd (h : gt_ok g n T) {t : Nat} (ht : t < T) : gn_ok g n (gn_hd g n t) := by
  obtain ⟨s, h1, _⟩ := gt_step h ht
  exact (gt_inv h t (by omega)).1 _ (by rw [h1]; exact List.mem_cons_self)
theorem gt_kid (h : gt_ok g n T) {a : gn_sl} (ha : gn_ok g n a) (nd : Int) : ∀ b, b ∈ gn_kd g a nd → a.2.1 ≤ b.2.1 ∧ b.2.2.1 ≤ a.2.2.1 := by
  intro b hb
  obtain ⟨_, _, p, p1, _, p3⟩ := gn_kd_ok h.1.1 h.2.2.1 ha nd b hb
  have hc := gn_cut h.1.1 h.2.2.1 ha
  have m1 := gn_x_mono hc p 0 (by omega)
  have m2 := gn_x_mono hc (ga_l g (gn_rs g a) - (p + 1)) (p + 1) (by omega)
  rw [Nat.zero_add, hc.1] at m1
  rw [show p + 1 + (ga_l g (gn_rs g a) - (p + 1)) = ga_l g (gn_rs g a) by omega, hc.2.1] at m2
  rw [p3]
  exact ⟨by dsimp only; omega, by dsimp only; omega⟩
theorem gt_ks_pw {r i j : Nat} {x : Nat → Nat} (hc : ga_cuts g r i j x) (nd : Int) : ∀ k, k ≤ ga_l g r → (gn_ks g r x nd k).Pairwise (fun a b => a.2.2.1 ≤ b.2.1) ∧ ∀ a, a ∈ gn_ks g r x nd k → x (ga_l g r - k) ≤ a.2.1 := by
  intro k
  induction k with
  | zero => intro _; exact ⟨List.Pairwise.nil, fun a ha => by cases ha⟩
  | succ k ih =>
    intro hk
    obtain ⟨i1, i2⟩ := ih (by omega)
    have hx := (hc.2.2.2 (ga_l g r - (k + 1)) (by omega)).1
    rw [show ga_l g r - (k + 1) + 1 = ga_l g r - k by omega] at hx
    unfold gn_ks
    by_cases hw : ga_h g r (ga_l g r - (k + 1)) = -1
    · rw [if_pos hw]
      exact ⟨i1, fun a ha => by have := i2 a ha; omega⟩
    · rw [if_neg hw]
      refine ⟨List.Pairwise.cons (fun b hb => ?_) i1, fun a ha => ?_⟩
      · have := i2 b hb
        dsimp only
        rw [show ga_l g r - (k + 1) + 1 = ga_l g r - k by omega]
        exact this
      · rcases List.mem_cons.mp ha with e | ha
        · rw [e]; exact Nat.le_refl _
        · have := i2 a ha; omega
theorem gt_pw (h : gt_ok g n T) : ∀ t, t ≤ T → (gn_S g n t).Pairwise (fun a b => a.2.2.1 ≤ b.2.1) := by
  intro t
  induction t with
  | zero => intro _; exact List.Pairwise.cons (fun b hb => by cases hb) List.Pairwise.nil
  | succ t ih =>
    intro ht
    obtain ⟨s, s1, s2⟩ := gt_step h (t := t) (by omega)
    have hp := ih (by omega)
    have ha := gt_hd h (t := t) (by omega)
    rw [s1] at hp
    obtain ⟨p1, p2⟩ := List.pairwise_cons.mp hp
    rw [s2]
    refine List.pairwise_append.mpr ⟨(gt_ks_pw (gn_cut h.1.1 h.2.2.1 ha) _ _ (Nat.le_refl _)).1, p2, fun a ha2 b hb => ?_⟩
    have := (gt_kid h ha _ a ha2).2
    have := p1 b hb
    omega
/-- a bracket and what comes after it: behind it, or well within it -/
theorem gt_rel (h : gt_ok g n T) : ∀ t, t ≤ T → ∀ u, u < t → gn_rs g (gn_hd g n u) = 0 → ∀ b, b ∈ gn_S g n t → (gn_hd g n u).2.2.1 ≤ b.2.1 ∨ ((gn_hd g n u).2.1 < b.2.1 ∧ b.2.2.1 < (gn_hd g n u).2.2.1) := by
  intro t
  induction t with
  | zero => intro _ u hu; omega
  | succ t ih =>
    intro ht u hu h0 b hb
    obtain ⟨s, s1, s2⟩ := gt_step h (t := t) (by omega)
    have ha := gt_hd h (t := t) (by omega)
    have hp := gt_pw h t (by omega)
    rw [s1] at hp
    obtain ⟨p1, _⟩ := List.pairwise_cons.mp hp
    rw [s2] at hb
    by_cases e : u = t
    · subst e
      rcases List.mem_append.mp hb with hb | hb
      · rw [gn_kd0 h.1 h.2.2.1 ha u h0] at hb
        have := List.mem_singleton.mp hb
        have h2 := gn_kd_ok h.1.1 h.2.2.1 ha (u : Int) b (by rw [gn_kd0 h.1 h.2.2.1 ha u h0]; exact hb)
        have hl := h2.1.2.1
        rw [this] at hl ⊢
        dsimp only at hl ⊢
        exact Or.inr ⟨by omega, by omega⟩
      · exact Or.inl (p1 b hb)
    · rcases List.mem_append.mp hb with hb | hb
      · have h3 := ih (by omega) u (by omega) h0 (gn_hd g n t) (by rw [s1]; exact List.mem_cons_self)
        have h4 := gt_kid h ha _ b hb
        omega
      · exact ih (by omega) u (by omega) h0 b (by rw [s1]; exact List.mem_cons_of_mem _ hb)
theorem gt_rel2 (h : gt_ok g n T) {u w : Nat} (huw : u < w) (hw : w < T) (h0 : gn_rs g (gn_hd g n u) = 0) : (gn_hd g n u).2.2.1 ≤ (gn_hd g n w).2.1 ∨ ((gn_hd g n u).2.1 < (gn_hd g n w).2.1 ∧ (gn_hd g n w).2.2.1 < (gn_hd g n u).2.2.1) := by
  obtain ⟨s, s1, _⟩ := gt_step h hw
  exact gt_rel h w (by omega) u huw h0 _ (by rw [s1]; exact List.mem_cons_self)
/-- two brackets share no end -/
theorem gt_uni (h : gt_ok g n T) {u w : Nat} (hu : u < T) (hw : w < T) (h0 : gn_rs g (gn_hd g n u) = 0) (h1 : gn_rs g (gn_hd g n w) = 0) (he : (gn_hd g n u).2.1 = (gn_hd g n w).2.1 ∨ (gn_hd g n u).2.2.1 = (gn_hd g n w).2.2.1) : u = w := by
  have a1 := (gt_hd h hu).2.1
  have a2 := (gt_hd h hw).2.1
  rcases Nat.lt_trichotomy u w with z | z | z
  · have := gt_rel2 h z hw h0
    omega
  · exact z
  · have := gt_rel2 h z hu h1
    omega
/-- what a bracket holds is the next node -/
theorem gt_next (h : gt_ok g n T) {u : Nat} (hu : u < T) (h0 : gn_rs g (gn_hd g n u) = 0) : u + 1 < T ∧ gn_hd g n (u + 1) = (0, (gn_hd g n u).2.1 + 1, (gn_hd g n u).2.2.1 - 1, (u : Int)) := by
  obtain ⟨s, s1, s2⟩ := gt_step h hu
  have ha := gt_hd h hu
  rw [gn_kd0 h.1 h.2.2.1 ha u h0] at s2
  have s2 : gn_S g n (u + 1) = (0, (gn_hd g n u).2.1 + 1, (gn_hd g n u).2.2.1 - 1, (u : Int)) :: s := s2
  refine ⟨?_, gn_hd_eq s2⟩
  refine Classical.byContradiction (fun z => ?_)
  have : u + 1 = T := by omega
  rw [this, h.2.2.2.2.1] at s2
  cases s2
/-- brackets' words -/
theorem gt_tok (h : gt_ok g n T) {u : Nat} (hu : u < T) (h0 : gn_rs g (gn_hd g n u) = 0) : ga_t g (gn_hd g n u).2.1 = 40 ∧ ga_t g ((gn_hd g n u).2.2.1 - 1) = 41 := by
  have ha := gt_hd h hu
  have hr := gn_rule h.1.1 h.2.2.1 ha
  have s0 := gy_S0 h.1 (gn_hd g n u).2.1 (gn_hd g n u).2.2.1
  rw [h0] at hr
  rw [hr.2.2.1] at s0
  refine Classical.byContradiction (fun z => ?_)
  rw [if_neg (fun q => z q.2)] at s0
  omega
theorem gt_atom (h : gt_ok g n T) {u : Nat} (hu : u < T) (h0 : gn_rs g (gn_hd g n u) = 1) : ga_t g (gn_hd g n u).2.1 = 0 ∧ (gn_hd g n u).2.2.1 = (gn_hd g n u).2.1 + 1 := by
  have ha := gt_hd h hu
  have hr := gn_rule h.1.1 h.2.2.1 ha
  have s0 := gy_S1 h.1 (gn_hd g n u).2.1 (gn_hd g n u).2.2.1
  rw [h0] at hr
  rw [hr.2.2.1] at s0
  refine Classical.byContradiction (fun z => ?_)
  rw [if_neg (fun q => z ⟨q.2, q.1⟩)] at s0
  omega
/-- a slot that waits becomes a node -/
theorem gt_node (h : gt_ok g n T) {b : gn_sl} : ∀ (d t : Nat), t + d = T → b ∈ gn_S g n t → ∃ k, t ≤ k ∧ k < T ∧ gn_hd g n k = b := by
  intro d
  induction d with
  | zero =>
    intro t ht hb
    have : t = T := by omega
    rw [this, h.2.2.2.2.1] at hb
    cases hb
  | succ d ih =>
    intro t ht hb
    obtain ⟨s, s1, s2⟩ := gt_step h (t := t) (by omega)
    rw [s1] at hb
    rcases List.mem_cons.mp hb with e | hb
    · exact ⟨t, Nat.le_refl _, by omega, e.symm⟩
    · obtain ⟨k, k1, k2, k3⟩ := ih (t + 1) (by omega) (by rw [s2]; exact List.mem_append.mpr (Or.inr hb))
      exact ⟨k, by omega, k2, k3⟩
theorem gt_child (h : gt_ok g n T) {u : Nat} (hu : u < T) {b : gn_sl} (hb : b ∈ gn_kd g (gn_hd g n u) u) : ∃ k, u < k ∧ k < T ∧ gn_hd g n k = b := by
  obtain ⟨s, s1, s2⟩ := gt_step h hu
  obtain ⟨k, k1, k2, k3⟩ := gt_node h (T - (u + 1)) (u + 1) (by omega) (b := b) (by rw [s2]; exact List.mem_append.mpr (Or.inl hb))
  exact ⟨k, by omega, k2, k3⟩
theorem gt_par_l (h : gt_ok g n T) : ∀ t, t ≤ T → ∀ b, b ∈ gn_S g n t → (b.2.2.2 = -1) ∨ ∃ u, u < t ∧ b.2.2.2 = (u : Int) ∧ b ∈ gn_kd g (gn_hd g n u) u := by
  intro t
  induction t with
  | zero =>
    intro _ b hb
    rw [List.mem_singleton.mp hb]
    exact Or.inl rfl
  | succ t ih =>
    intro ht b hb
    obtain ⟨s, s1, s2⟩ := gt_step h (t := t) (by omega)
    have ha := gt_hd h (t := t) (by omega)
    rw [s2] at hb
    rcases List.mem_append.mp hb with hb | hb
    · exact Or.inr ⟨t, by omega, (gn_kd_ok h.1.1 h.2.2.1 ha _ b hb).2.1, hb⟩
    · rcases ih (by omega) b (by rw [s1]; exact List.mem_cons_of_mem _ hb) with z | ⟨u, u1, u2⟩
      · exact Or.inl z
      · exact Or.inr ⟨u, by omega, u2⟩
theorem gt_par (h : gt_ok g n T) {k u : Nat} (hk : k < T) (hp : (gn_hd g n k).2.2.2 = (u : Int)) : u < k ∧ gn_hd g n k ∈ gn_kd g (gn_hd g n u) u := by
  obtain ⟨s, s1, _⟩ := gt_step h hk
  rcases gt_par_l h k (by omega) (gn_hd g n k) (by rw [s1]; exact List.mem_cons_self) with z | ⟨u2, u3, u4, u5⟩
  · omega
  · have : u2 = u := by omega
    subst this
    exact ⟨u3, u5⟩
theorem gt_parR (h : gt_ok g n T) {k : Nat} (hk : k < T) : -1 ≤ (gn_hd g n k).2.2.2 ∧ (gn_hd g n k).2.2.2 < k := by
  obtain ⟨s, s1, _⟩ := gt_step h hk
  rcases gt_par_l h k (by omega) (gn_hd g n k) (by rw [s1]; exact List.mem_cons_self) with z | ⟨u2, u3, u4, u5⟩
  · rw [z]; omega
  · rw [u4]; omega
/-- how many of the slots have this holder -/
def gt_cs (u : Int) : List gn_sl → Nat
  | [] => 0
  | a :: s => (if a.2.2.2 = u then 1 else 0) + gt_cs u s
theorem gt_cs_app (u : Int) (a b : List gn_sl) : gt_cs u (a ++ b) = gt_cs u a + gt_cs u b := by
  induction a with
  | nil => rw [List.nil_append]; exact (Nat.zero_add _).symm
  | cons x a ih => rw [List.cons_append]; show _ + gt_cs u (a ++ b) = _ + gt_cs u a + gt_cs u b; rw [ih]; omega
theorem gt_cs_all {u : Int} {a : List gn_sl} (h : ∀ b, b ∈ a → b.2.2.2 = u) : gt_cs u a = a.length := by
  induction a with
  | nil => rfl
  | cons x a ih =>
    show (if x.2.2.2 = u then 1 else 0) + gt_cs u a = a.length + 1
    rw [if_pos (h x List.mem_cons_self), ih (fun b hb => h b (List.mem_cons_of_mem _ hb))]; omega
theorem gt_cs_no {u : Int} {a : List gn_sl} (h : ∀ b, b ∈ a → b.2.2.2 ≠ u) : gt_cs u a = 0 := by
  induction a with
  | nil => rfl
  | cons x a ih =>
    show (if x.2.2.2 = u then 1 else 0) + gt_cs u a = 0
    rw [if_neg (h x List.mem_cons_self), ih (fun b hb => h b (List.mem_cons_of_mem _ hb))]
/-- nodes from k on, d of them, with this holder -/
noncomputable def gt_cn (g : ga_G) (n : Nat) (u : Int) : Nat → Nat → Nat
  | _, 0 => 0
  | k, d + 1 => (if (gn_hd g n k).2.2.2 = u then 1 else 0) + gt_cn g n u (k + 1) d
theorem gt_count (h : gt_ok g n T) {u : Nat} (hu : u < T) : gt_cn g n u (u + 1) (T - (u + 1)) = (gn_kd g (gn_hd g n u) u).length := by
  have key : ∀ d t, t + d = T → u < t → gt_cn g n u t d = gt_cs u (gn_S g n t) := by
    intro d
    induction d with
    | zero =>
      intro t ht _
      have : t = T := by omega
      rw [this, h.2.2.2.2.1]; rfl
    | succ d ih =>
      intro t ht hut
      obtain ⟨s, s1, s2⟩ := gt_step h (t := t) (by omega)
      have ha := gt_hd h (t := t) (by omega)
      show (if (gn_hd g n t).2.2.2 = u then 1 else 0) + gt_cn g n u (t + 1) d = _
      rw [ih (t + 1) (by omega) (by omega), s2, s1, gt_cs_app, gt_cs_no (a := gn_kd g (gn_hd g n t) t) (fun b hb => ?_), Nat.zero_add]
      · rfl
      · rw [(gn_kd_ok h.1.1 h.2.2.1 ha _ b hb).2.1]; omega
  obtain ⟨s, s1, s2⟩ := gt_step h hu
  have ha := gt_hd h hu
  rw [key _ (u + 1) (by omega) (by omega), s2, gt_cs_app, gt_cs_all (fun b hb => (gn_kd_ok h.1.1 h.2.2.1 ha _ b hb).2.1), gt_cs_no (a := s) (fun b hb => ?_), Nat.add_zero]
  rcases gt_par_l h u (by omega) b (by rw [s1]; exact List.mem_cons_of_mem _ hb) with z | ⟨u2, u3, u4, _⟩
  · rw [z]; omega
  · rw [u4]; omega
end
