/-! growing the only tree: the stack of slots, apart from all stores -/
abbrev gn_sl : Type := Int × Nat × Nat × Int
/-- the rule of the only tree of the words from i to j as a term of level l -/
noncomputable def gn_ru (g : ga_G) (l : Int) (i j : Nat) : Nat := @dite Nat (∃ r, r < ga_R g ∧ l ≤ ga_v g r ∧ 0 < ga_S g (ga_C g) r (ga_l g r) i j) (Classical.propDecidable _) (fun h => Classical.choose h) (fun _ => 0)
noncomputable def gn_x (g : ga_G) (r i j : Nat) : Nat → Nat := @dite (Nat → Nat) (∃ x, ga_cuts g r i j x) (Classical.propDecidable _) (fun h => Classical.choose h) (fun _ _ => 0)
/-- the slots of the last k parts -/
def gn_ks (g : ga_G) (r : Nat) (x : Nat → Nat) (nd : Int) : Nat → List gn_sl
  | 0 => []
  | k + 1 => if ga_h g r (ga_l g r - (k + 1)) = -1 then gn_ks g r x nd k else (ga_h g r (ga_l g r - (k + 1)), x (ga_l g r - (k + 1)), x (ga_l g r - (k + 1) + 1), nd) :: gn_ks g r x nd k
noncomputable def gn_rs (g : ga_G) (a : gn_sl) : Nat := gn_ru g a.1 a.2.1 a.2.2.1
noncomputable def gn_xs (g : ga_G) (a : gn_sl) : Nat → Nat := gn_x g (gn_rs g a) a.2.1 a.2.2.1
noncomputable def gn_kd (g : ga_G) (a : gn_sl) (nd : Int) : List gn_sl := gn_ks g (gn_rs g a) (gn_xs g a) nd (ga_l g (gn_rs g a))
noncomputable def gn_nx (g : ga_G) (t : Nat) : List gn_sl → List gn_sl
  | [] => []
  | a :: s => gn_kd g a t ++ s
noncomputable def gn_S (g : ga_G) (n : Nat) : Nat → List gn_sl
  | 0 => [(0, 0, n, -1)]
  | t + 1 => gn_nx g t (gn_S g n t)
def gn_wd : List gn_sl → Nat
  | [] => 0
  | a :: s => (a.2.2.1 - a.2.1) + gn_wd s
theorem gn_wd_app (a b : List gn_sl) : gn_wd (a ++ b) = gn_wd a + gn_wd b := by
  induction a with
  | nil => rw [List.nil_append]; exact (Nat.zero_add _).symm
  | cons x a ih => rw [List.cons_append]; show _ + gn_wd (a ++ b) = _ + gn_wd a + gn_wd b; rw [ih]; omega
section
variable {g : ga_G} {n : Nat}
def gn_ok (g : ga_G) (n : Nat) (a : gn_sl) : Prop := (0 ≤ a.1 ∧ a.1 ≤ 10) ∧ a.2.1 < a.2.2.1 ∧ a.2.2.1 ≤ n ∧ ga_C g a.1 a.2.1 a.2.2.1 = 1
theorem gn_rule (hg : ga_ok g) (hn : n ≤ 30) {a : gn_sl} (h : gn_ok g n a) : gn_rs g a < ga_R g ∧ a.1 ≤ ga_v g (gn_rs g a) ∧ ga_S g (ga_C g) (gn_rs g a) (ga_l g (gn_rs g a)) a.2.1 a.2.2.1 = 1 ∧ ∀ r, r < ga_R g → a.1 ≤ ga_v g r → 0 < ga_S g (ga_C g) r (ga_l g r) a.2.1 a.2.2.1 → r = gn_rs g a := by
  obtain ⟨h1, h2, h3, h4⟩ := h
  rw [ga_C_eq hg (by omega)] at h4
  obtain ⟨k, k1, k2, k3⟩ := ga_sum_uni h4
  have kv : a.1 ≤ ga_v g k := by
    refine Classical.byContradiction (fun z => ?_)
    rw [if_neg z] at k2; omega
  rw [if_pos kv] at k2
  have hex : ∃ r, r < ga_R g ∧ a.1 ≤ ga_v g r ∧ 0 < ga_S g (ga_C g) r (ga_l g r) a.2.1 a.2.2.1 := ⟨k, k1, kv, by omega⟩
  have ers : gn_rs g a = Classical.choose hex := by
    unfold gn_rs gn_ru
    exact dif_pos hex
  have hc := Classical.choose_spec hex
  rw [← ers] at hc
  have uni : ∀ r, r < ga_R g → a.1 ≤ ga_v g r → 0 < ga_S g (ga_C g) r (ga_l g r) a.2.1 a.2.2.1 → r = k := fun r r1 r2 r3 => k3 r r1 (by rw [if_pos r2]; exact r3)
  have ek := uni _ hc.1 hc.2.1 hc.2.2
  refine ⟨hc.1, hc.2.1, by rw [ek]; exact k2, fun r r1 r2 r3 => by rw [ek]; exact uni r r1 r2 r3⟩
theorem gn_cut (hg : ga_ok g) (hn : n ≤ 30) {a : gn_sl} (h : gn_ok g n a) : ga_cuts g (gn_rs g a) a.2.1 a.2.2.1 (gn_xs g a) := by
  have hex := ga_cuts_of (gn_rule hg hn h).2.2.1
  have e : gn_xs g a = Classical.choose hex := by
    unfold gn_xs gn_x
    exact dif_pos hex
  rw [e]
  exact Classical.choose_spec hex
theorem gn_x_mono {r i j : Nat} {x : Nat → Nat} (h : ga_cuts g r i j x) : ∀ (d p : Nat), p + d ≤ ga_l g r → x p + d ≤ x (p + d) := by
  intro d
  induction d with
  | zero => intro p _; exact Nat.le_refl _
  | succ d ih =>
    intro p hp
    have := ih p (by omega)
    have h2 := (h.2.2.2 (p + d) (by omega)).1
    show x p + (d + 1) ≤ x (p + d + 1)
    omega
theorem gn_ks_ok (hg : ga_ok g) {r i j : Nat} (hr : r < ga_R g) {x : Nat → Nat} (h : ga_cuts g r i j x) (hj : j ≤ n) (nd : Int) : ∀ k, k ≤ ga_l g r → ∀ a, a ∈ gn_ks g r x nd k → gn_ok g n a ∧ a.2.2.2 = nd ∧ ∃ p, ga_l g r - k ≤ p ∧ p < ga_l g r ∧ ga_h g r p ≠ -1 ∧ a = (ga_h g r p, x p, x (p + 1), nd) := by
  intro k
  induction k with
  | zero => intro _ a ha; cases ha
  | succ k ih =>
    intro hk a ha
    unfold gn_ks at ha
    by_cases hw : ga_h g r (ga_l g r - (k + 1)) = -1
    · rw [if_pos hw] at ha
      obtain ⟨a1, a2, p, p1, p2⟩ := ih (by omega) a ha
      exact ⟨a1, a2, p, by omega, p2⟩
    · rw [if_neg hw] at ha
      rcases List.mem_cons.mp ha with e | ha
      · obtain ⟨c1, c2, c3, c4⟩ := h
        obtain ⟨d1, d2, d3⟩ := c4 (ga_l g r - (k + 1)) (by omega)
        have hh := (hg r hr).2.2.1 (ga_l g r - (k + 1)) (by omega)
        have hm := gn_x_mono ⟨c1, c2, c3, c4⟩ (ga_l g r - (ga_l g r - (k + 1) + 1)) (ga_l g r - (k + 1) + 1) (by omega)
        rw [show ga_l g r - (k + 1) + 1 + (ga_l g r - (ga_l g r - (k + 1) + 1)) = ga_l g r by omega, c2] at hm
        rw [e]
        exact ⟨⟨⟨by dsimp only; omega, hh.2⟩, d1, by dsimp only; omega, (d3 hw).1⟩, rfl, _, by omega, by omega, hw, rfl⟩
      · obtain ⟨a1, a2, p, p1, p2⟩ := ih (by omega) a ha
        exact ⟨a1, a2, p, by omega, p2⟩
theorem gn_ks_wd {r i j : Nat} {x : Nat → Nat} (h : ga_cuts g r i j x) (nd : Int) : ∀ k, k ≤ ga_l g r → gn_wd (gn_ks g r x nd k) + x (ga_l g r - k) ≤ j ∧ ((∃ p, ga_l g r - k ≤ p ∧ p < ga_l g r ∧ ga_h g r p = -1) → gn_wd (gn_ks g r x nd k) + x (ga_l g r - k) + 1 ≤ j) := by
  obtain ⟨c1, c2, c3, c4⟩ := h
  intro k
  induction k with
  | zero =>
    intro _
    rw [Nat.sub_zero, c2]
    exact ⟨Nat.le_of_eq (Nat.zero_add _), fun ⟨p, p1, p2, _⟩ => by omega⟩
  | succ k ih =>
    intro hk
    obtain ⟨i1, i2⟩ := ih (by omega)
    obtain ⟨d1, d2, d3⟩ := c4 (ga_l g r - (k + 1)) (by omega)
    have e : ga_l g r - (k + 1) + 1 = ga_l g r - k := by omega
    rw [e] at d1 d2
    unfold gn_ks
    by_cases hw : ga_h g r (ga_l g r - (k + 1)) = -1
    · rw [if_pos hw]
      have := (d2 hw).1
      exact ⟨by omega, fun _ => by omega⟩
    · rw [if_neg hw, e]
      have ew : gn_wd ((ga_h g r (ga_l g r - (k + 1)), x (ga_l g r - (k + 1)), x (ga_l g r - k), nd) :: gn_ks g r x nd k) = (x (ga_l g r - k) - x (ga_l g r - (k + 1))) + gn_wd (gn_ks g r x nd k) := rfl
      rw [ew]
      refine ⟨by omega, fun ⟨p, p1, p2, p3⟩ => ?_⟩
      have := i2 ⟨p, by
        by_cases z : p = ga_l g r - (k + 1)
        · rw [z] at p3; exact absurd p3 hw
        · omega, p2, p3⟩
      omega
theorem gn_kd_wd (hg : ga_ok g) (hn : n ≤ 30) {a : gn_sl} (h : gn_ok g n a) (nd : Int) : gn_wd (gn_kd g a nd) + 1 ≤ a.2.2.1 - a.2.1 := by
  have hc := gn_cut hg hn h
  have hr := gn_rule hg hn h
  obtain ⟨d, d1, d2⟩ := (hg _ hr.1).2.2.2.2
  have := (gn_ks_wd hc nd (ga_l g (gn_rs g a)) (Nat.le_refl _)).2 ⟨d, by omega, d1, d2⟩
  rw [Nat.sub_self, hc.1] at this
  unfold gn_kd
  omega
theorem gn_kd_ok (hg : ga_ok g) (hn : n ≤ 30) {a : gn_sl} (h : gn_ok g n a) (nd : Int) : ∀ b, b ∈ gn_kd g a nd → gn_ok g n b ∧ b.2.2.2 = nd ∧ ∃ p, p < ga_l g (gn_rs g a) ∧ ga_h g (gn_rs g a) p ≠ -1 ∧ b = (ga_h g (gn_rs g a) p, gn_xs g a p, gn_xs g a (p + 1), nd) := by
  intro b hb
  obtain ⟨b1, b2, p, _, b3⟩ := gn_ks_ok hg (gn_rule hg hn h).1 (gn_cut hg hn h) h.2.2.1 nd _ (Nat.le_refl _) b hb
  exact ⟨b1, b2, p, b3⟩
/-- nodes and words that wait are no more than all words -/
def gn_inv (g : ga_G) (n t : Nat) : Prop := (∀ a, a ∈ gn_S g n t → gn_ok g n a) ∧ (gn_S g n t ≠ [] → t + gn_wd (gn_S g n t) ≤ n) ∧ t ≤ n
theorem gn_wd_pos {s : List gn_sl} (h : ∀ a, a ∈ s → gn_ok g n a) : s.length ≤ gn_wd s := by
  induction s with
  | nil => exact Nat.le_refl _
  | cons a s ih =>
    have h1 := (h a (List.mem_cons_self)).2.1
    have h2 := ih (fun b hb => h b (List.mem_cons_of_mem _ hb))
    show s.length + 1 ≤ (a.2.2.1 - a.2.1) + gn_wd s
    omega
theorem gn_inv_0 (h1 : ga_C g 0 0 n = 1) (hn : 1 ≤ n) : gn_inv g n 0 := by
  refine ⟨fun a ha => ?_, fun _ => ?_, by omega⟩
  · have e : a = (0, 0, n, -1) := List.mem_singleton.mp ha
    rw [e]
    exact ⟨by dsimp only; omega, by dsimp only; omega, Nat.le_refl _, h1⟩
  · show 0 + ((n - 0) + 0) ≤ n
    omega
theorem gn_inv_s (hg : ga_ok g) (hn : n ≤ 30) {t : Nat} (h : gn_inv g n t) (hne : gn_S g n t ≠ []) : gn_inv g n (t + 1) ∧ t < n := by
  obtain ⟨h1, h2, h3⟩ := h
  have h2 := h2 hne
  cases hs : gn_S g n t with
  | nil => exact absurd hs hne
  | cons a s =>
    rw [hs] at h1 h2
    have ha := h1 a (List.mem_cons_self)
    have hw := gn_kd_wd hg hn ha (t : Int)
    have hl := ha.2.1
    have e : gn_S g n (t + 1) = gn_kd g a t ++ s := by
      show gn_nx g t (gn_S g n t) = _
      rw [hs]; rfl
    have ew : gn_wd (a :: s) = (a.2.2.1 - a.2.1) + gn_wd s := rfl
    rw [ew] at h2
    refine ⟨⟨fun b hb => ?_, fun _ => ?_, by omega⟩, by omega⟩
    · rw [e] at hb
      rcases List.mem_append.mp hb with hb | hb
      · exact (gn_kd_ok hg hn ha _ b hb).1
      · exact h1 b (List.mem_cons_of_mem _ hb)
    · rw [e, gn_wd_app]; omega
/-- where the chart tries each slot -/
theorem gn_L (hg : ga_ok g) (hn : n ≤ 30) {L : Nat → Int} (hB : ga_LB g L n) {a : gn_sl} (h : gn_ok g n a) (hL : L a.2.1 ≤ a.1) (nd : Int) : ∀ b, b ∈ gn_kd g a nd → L b.2.1 ≤ b.1 := by
  intro b hb
  obtain ⟨_, _, p, p1, p2, p3⟩ := gn_kd_ok hg hn h nd b hb
  have hr := gn_rule hg hn h
  have hc := gn_cut hg hn h
  rw [p3]
  have hP := (hc.2.2.1 p (by omega)).2
  have hm := gn_x_mono hc p 0 (by omega)
  have hm2 := gn_x_mono hc (ga_l g (gn_rs g a) - p) p (by omega)
  rw [Nat.zero_add, hc.1] at hm
  rw [show p + (ga_l g (gn_rs g a) - p) = ga_l g (gn_rs g a) by omega, hc.2.1] at hm2
  have := h.2.2.1
  exact hB a.2.1 (gn_xs g a p) (gn_rs g a) p (by omega) (by omega) hr.1 p1 (by omega) (by omega) p2
theorem gn_L_s (hg : ga_ok g) (hn : n ≤ 30) {L : Nat → Int} (hB : ga_LB g L n) {t : Nat} (h : gn_inv g n t) (hL : ∀ a, a ∈ gn_S g n t → L a.2.1 ≤ a.1) : ∀ a, a ∈ gn_S g n (t + 1) → L a.2.1 ≤ a.1 := by
  intro b hb
  have e : gn_S g n (t + 1) = gn_nx g t (gn_S g n t) := rfl
  rw [e] at hb
  cases hs : gn_S g n t with
  | nil => rw [hs] at hb; cases hb
  | cons a s =>
    rw [hs] at hb
    rcases List.mem_append.mp hb with hb | hb
    · exact gn_L hg hn hB (h.1 a (by rw [hs]; exact List.mem_cons_self)) (hL a (by rw [hs]; exact List.mem_cons_self)) _ b hb
    · exact hL b (by rw [hs]; exact List.mem_cons_of_mem _ hb)
end
