/-! printing: which words are left out, and the pieces that remain -/
def gq_F (m : Nat → Bool) (cd : Nat → Int) : Nat → Nat → List Int
  | _, 0 => []
  | a, k + 1 => (if m a = true then [] else [cd a]) ++ gq_F m cd (a + 1) k
theorem gq_F_app (m : Nat → Bool) (cd : Nat → Int) : ∀ (k l a : Nat), gq_F m cd a (k + l) = gq_F m cd a k ++ gq_F m cd (a + k) l := by
  intro k
  induction k with
  | zero => intro l a; rw [Nat.zero_add, Nat.add_zero]; rfl
  | succ k ih =>
    intro l a
    rw [show k + 1 + l = (k + l) + 1 by omega]
    show _ ++ gq_F m cd (a + 1) (k + l) = (_ ++ gq_F m cd (a + 1) k) ++ _
    rw [ih, List.append_assoc, show a + 1 + k = a + (k + 1) by omega]
theorem gq_F_one {m : Nat → Bool} (cd : Nat → Int) {a : Nat} (h : m a ≠ true) : gq_F m cd a 1 = [cd a] := by
  show (if m a = true then [] else [cd a]) ++ [] = _
  rw [if_neg h]; rfl
theorem gq_F_out {m : Nat → Bool} (cd : Nat → Int) {a k : Nat} (h1 : m a = true) (h2 : m (a + (k + 1)) = true) : gq_F m cd a (k + 2) = gq_F m cd (a + 1) k := by
  rw [show k + 2 = 1 + (k + 1) by omega, gq_F_app, gq_F_app m cd k 1]
  have e1 : gq_F m cd a 1 = [] := by
    show (if m a = true then [] else [cd a]) ++ [] = _
    rw [if_pos h1]; rfl
  have e2 : gq_F m cd (a + 1 + k) 1 = [] := by
    show (if m (a + 1 + k) = true then [] else [cd (a + 1 + k)]) ++ [] = _
    rw [show a + 1 + k = a + (k + 1) by omega, if_pos h2]; rfl
  rw [e1, e2, List.append_nil, List.nil_append]
theorem gq_F_in {m : Nat → Bool} (cd : Nat → Int) {a k : Nat} (h1 : m a ≠ true) (h2 : m (a + (k + 1)) ≠ true) : gq_F m cd a (k + 2) = [cd a] ++ gq_F m cd (a + 1) k ++ [cd (a + (k + 1))] := by
  rw [show k + 2 = 1 + (k + 1) by omega, gq_F_app, gq_F_app m cd k 1, gq_F_one cd h1, List.append_assoc]
  have e2 : gq_F m cd (a + 1 + k) 1 = [cd (a + (k + 1))] := by
    rw [show a + 1 + k = a + (k + 1) by omega]; exact gq_F_one cd h2
  rw [e2]
section
variable {g : ga_G} {n T : Nat}
/-- c is what the brackets from u on hold -/
def gq_C (g : ga_G) (n T u c : Nat) : Prop := u ≤ c ∧ c < T ∧ gn_rs g (gn_hd g n c) ≠ 0 ∧ ∀ w, u ≤ w → w < c → gn_rs g (gn_hd g n w) = 0
theorem gq_ex (h : gt_ok g n T) : ∀ (d u : Nat), u + d = T → u < T → ∃ c, gq_C g n T u c := by
  intro d
  induction d with
  | zero => intro u hu; omega
  | succ d ih =>
    intro u hd hu
    by_cases h0 : gn_rs g (gn_hd g n u) = 0
    · have hn := (gt_next h hu h0).1
      obtain ⟨c, c1, c2, c3, c4⟩ := ih (u + 1) (by omega) hn
      refine ⟨c, by omega, c2, c3, fun w w1 w2 => ?_⟩
      by_cases e : w = u
      · rw [e]; exact h0
      · exact c4 w (by omega) w2
    · exact ⟨u, Nat.le_refl _, hu, h0, fun w w1 w2 => by omega⟩
theorem gq_uni {u c c2 : Nat} (h : gq_C g n T u c) (h2 : gq_C g n T u c2) : c = c2 := by
  obtain ⟨a1, a2, a3, a4⟩ := h
  obtain ⟨b1, b2, b3, b4⟩ := h2
  rcases Nat.lt_trichotomy c c2 with z | z | z
  · exact absurd (b4 c a1 z) a3
  · exact z
  · exact absurd (a4 c2 b1 z) b3
theorem gq_up {u c : Nat} (h : gq_C g n T u c) {w : Nat} (h1 : u ≤ w) (h2 : w ≤ c) : gq_C g n T w c := ⟨h2, h.2.1, h.2.2.1, fun v v1 v2 => h.2.2.2 v (by omega) v2⟩
/-- the spans of a chain of brackets -/
theorem gq_span (h : gt_ok g n T) {u c : Nat} (hc : gq_C g n T u c) : ∀ d, u + d ≤ c → (gn_hd g n (u + d)).2.1 = (gn_hd g n u).2.1 + d ∧ (gn_hd g n (u + d)).2.2.1 + d = (gn_hd g n u).2.2.1 ∧ (1 ≤ d → (gn_hd g n (u + d)).1 = 0) := by
  intro d
  induction d with
  | zero => intro _; exact ⟨rfl, rfl, fun z => by omega⟩
  | succ d ih =>
    intro hd
    obtain ⟨i1, i2, _⟩ := ih (by omega)
    have h0 := hc.2.2.2 (u + d) (by omega) (by omega)
    have hT := hc.2.1
    obtain ⟨n1, n2⟩ := gt_next h (by omega) h0
    have ha := (gt_hd h n1).2.1
    rw [show u + (d + 1) = u + d + 1 by omega]
    rw [n2] at ha ⊢
    dsimp only at ha ⊢
    exact ⟨by omega, by omega, fun _ => rfl⟩
/-- the brackets that are left out, by their words -/
def gq_nb (g : ga_G) (n T i : Nat) : Prop := ∃ u c, u < T ∧ gn_rs g (gn_hd g n u) = 0 ∧ gq_C g n T u c ∧ (gn_hd g n u).1 ≤ ga_v g (gn_rs g (gn_hd g n c)) ∧ (i = (gn_hd g n u).2.1 ∨ i + 1 = (gn_hd g n u).2.2.1)
theorem gq_nb_tok (h : gt_ok g n T) {i : Nat} (hi : gq_nb g n T i) : ga_t g i = 40 ∨ ga_t g i = 41 := by
  obtain ⟨u, c, u1, u2, _, _, u5⟩ := hi
  have ht := gt_tok h u1 u2
  rcases u5 with e | e
  · rw [e]; exact Or.inl ht.1
  · rw [show i = (gn_hd g n u).2.2.1 - 1 by omega]; exact Or.inr ht.2
theorem gq_nb_1 (h : gt_ok g n T) {u c : Nat} (hu : u < T) (h0 : gn_rs g (gn_hd g n u) = 0) (hc : gq_C g n T u c) : (gq_nb g n T (gn_hd g n u).2.1 ↔ (gn_hd g n u).1 ≤ ga_v g (gn_rs g (gn_hd g n c))) ∧ (gq_nb g n T ((gn_hd g n u).2.2.1 - 1) ↔ (gn_hd g n u).1 ≤ ga_v g (gn_rs g (gn_hd g n c))) := by
  have ht := gt_tok h hu h0
  have hl := (gt_hd h hu).2.1
  constructor
  · constructor
    · rintro ⟨w, c2, w1, w2, w3, w4, w5⟩
      have htw := gt_tok h w1 w2
      rcases w5 with e | e
      · have : u = w := gt_uni h hu w1 h0 w2 (Or.inl e)
        subst this
        rw [gq_uni hc w3]; exact w4
      · rw [show (gn_hd g n u).2.1 = (gn_hd g n w).2.2.1 - 1 by omega] at ht
        rw [htw.2] at ht
        exact absurd ht.1 (by decide)
    · intro z; exact ⟨u, c, hu, h0, hc, z, Or.inl rfl⟩
  · constructor
    · rintro ⟨w, c2, w1, w2, w3, w4, w5⟩
      have htw := gt_tok h w1 w2
      rcases w5 with e | e
      · rw [e, htw.1] at ht
        exact absurd ht.2 (by decide)
      · have : u = w := gt_uni h hu w1 h0 w2 (Or.inr (by omega))
        subst this
        rw [gq_uni hc w3]; exact w4
    · intro z; exact ⟨u, c, hu, h0, hc, z, Or.inr (by omega)⟩
noncomputable def gq_S (g : ga_G) (n : Nat) (m : Nat → Bool) (cd : Nat → Int) (u : Nat) : List Int := gq_F m cd (gn_hd g n u).2.1 ((gn_hd g n u).2.2.1 - (gn_hd g n u).2.1)
/-- what a hole prints -/
theorem gq_slot (h : gt_ok g n T) {m : Nat → Bool} (hm : ∀ i, m i = true ↔ gq_nb g n T i) {cd : Nat → Int} (h40 : ∀ i, i < n → ga_t g i = 40 → cd i = 40) (h41 : ∀ i, i < n → ga_t g i = 41 → cd i = 41) {c : Nat} : ∀ (d u : Nat), u + d = c → gq_C g n T u c → ((gn_hd g n u).1 ≤ ga_v g (gn_rs g (gn_hd g n c)) → gq_S g n m cd u = gq_S g n m cd c) ∧ (¬ (gn_hd g n u).1 ≤ ga_v g (gn_rs g (gn_hd g n c)) → gq_S g n m cd u = [40] ++ gq_S g n m cd c ++ [41]) := by
  intro d
  induction d with
  | zero =>
    intro u hu hc
    have : u = c := by omega
    subst this
    refine ⟨fun _ => rfl, fun z => absurd (gn_rule h.1.1 h.2.2.1 (gt_hd h hc.2.1)).2.1 z⟩
  | succ d ih =>
    intro u hu hc
    have hcT := hc.2.1
    have h0 := hc.2.2.2 u (Nat.le_refl _) (by omega)
    obtain ⟨n1, n2⟩ := gt_next h (by omega) h0
    have hc1 := gq_up hc (w := u + 1) (by omega) (by omega)
    obtain ⟨i1, _⟩ := ih (u + 1) (by omega) hc1
    have hv := (h.1.1 _ (gn_rule h.1.1 h.2.2.1 (gt_hd h hcT)).1).2.1.1
    have hl := gt_hd h (t := u) (by omega)
    have hl1 := (gt_hd h n1).2.1
    have eS := i1 (by rw [n2]; exact hv)
    have ht := gt_tok h (u := u) (by omega) h0
    have hnb := gq_nb_1 h (by omega) h0 hc
    have eu1 : gq_S g n m cd (u + 1) = gq_F m cd ((gn_hd g n u).2.1 + 1) ((gn_hd g n u).2.2.1 - (gn_hd g n u).2.1 - 2) := by
      unfold gq_S
      rw [n2]
      dsimp only
      congr 1; omega
    rw [n2] at hl1
    dsimp only at hl1
    have hlN := hl.2.2.1
    have ew : (gn_hd g n u).2.2.1 - (gn_hd g n u).2.1 = ((gn_hd g n u).2.2.1 - (gn_hd g n u).2.1 - 2) + 2 := by omega
    have el : (gn_hd g n u).2.1 + (((gn_hd g n u).2.2.1 - (gn_hd g n u).2.1 - 2) + 1) = (gn_hd g n u).2.2.1 - 1 := by omega
    have eSu : gq_S g n m cd u = gq_F m cd (gn_hd g n u).2.1 (((gn_hd g n u).2.2.1 - (gn_hd g n u).2.1 - 2) + 2) := by
      unfold gq_S; rw [← ew]
    refine ⟨fun z => ?_, fun z => ?_⟩
    · rw [← eS, eu1, eSu]
      exact gq_F_out cd ((hm _).mpr (hnb.1.mpr z)) (by rw [el]; exact (hm _).mpr (hnb.2.mpr z))
    · rw [← eS, eu1, eSu, gq_F_in cd (fun y => z (hnb.1.mp ((hm _).mp y))) (by rw [el]; exact fun y => z (hnb.2.mp ((hm _).mp y))), el, h40 _ (by omega) ht.1, h41 _ (by omega) ht.2]
end
