/-! printing: the reference -/
section
variable {g : ga_G} {n T : Nat} {m : Nat → Bool} {cd : Nat → Int}
def gq_ml (g : ga_G) (n T : Nat) (cd : Nat → Int) (σ : np_S) : Prop := (∀ u, u < T → gn_rm g (gn_hd g n u) u σ) ∧ (∀ k : Nat, k + 2 < ga_R g → σ 32 (k : Int) = ga_l g (k + 2) ∧ σ 33 (k : Int) = ga_v g (k + 2) ∧ ∀ p : Nat, p < ga_l g (k + 2) → σ 30 (((7 * k + p : Nat)) : Int) = ga_h g (k + 2) p) ∧ ∀ i : Nat, i < n → σ 35 (i : Int) = cd i
theorem gq_ml_fr {σ τ : np_S} (h : gq_ml g n T cd σ) {cs : List Nat} (k : gx_fr cs σ τ) (hc : ∀ c, c ∈ [30, 32, 33, 35, 41, 42, 43, 44] → c ∉ cs) : gq_ml g n T cd τ := by
  unfold gq_ml gn_rm at *
  rw [k 30 (hc 30 (by decide)), k 32 (hc 32 (by decide)), k 33 (hc 33 (by decide)), k 35 (hc 35 (by decide)), k 41 (hc 41 (by decide)), k 42 (hc 42 (by decide)), k 43 (hc 43 (by decide)), k 44 (hc 44 (by decide))]
  exact h
noncomputable def gq_fn (g : ga_G) (n T : Nat) (m : Nat → Bool) (cd : Nat → Int) (u : Nat) : List Int := @dite (List Int) (∃ c, gq_C g n T u c) (Classical.propDecidable _) (fun h => gq_S g n m cd (Classical.choose h)) (fun _ => [])
theorem gq_fn_eq {u c : Nat} (h : gq_C g n T u c) : gq_fn g n T m cd u = gq_S g n m cd c := by
  have hex : ∃ c, gq_C g n T u c := ⟨c, h⟩
  have e : gq_fn g n T m cd u = gq_S g n m cd (Classical.choose hex) := dif_pos hex
  rw [e, gq_uni (Classical.choose_spec hex) h]
noncomputable def gq_mn (g : ga_G) (n T : Nat) (m : Nat → Bool) (cd : Nat → Int) (x : Int) : List Int := if x = 1000 then [40] else if x = 1001 then [41] else if 500 ≤ x then [cd (x - 500).toNat] else gq_fn g n T m cd x.toNat
noncomputable def gq_wt (g : ga_G) (n : Nat) (x : Int) : Nat := if 500 ≤ x then 1 else 2 * ((gn_hd g n x.toNat).2.2.1 - (gn_hd g n x.toNat).2.1)
def gq_va (n T : Nat) (x : Int) : Prop := x = 1000 ∨ x = 1001 ∨ (∃ i : Nat, i < n ∧ x = 500 + (i : Int)) ∨ ∃ u : Nat, u < T ∧ x = (u : Int)
noncomputable def gq_fl (g : ga_G) (n T : Nat) (m : Nat → Bool) (cd : Nat → Int) : List Int → List Int
  | [] => []
  | x :: s => gq_mn g n T m cd x ++ gq_fl g n T m cd s
noncomputable def gq_ws (g : ga_G) (n : Nat) : List Int → Nat
  | [] => 0
  | x :: s => gq_wt g n x + gq_ws g n s
theorem gq_fl_app (a b : List Int) : gq_fl g n T m cd (a ++ b) = gq_fl g n T m cd a ++ gq_fl g n T m cd b := by
  induction a with
  | nil => rfl
  | cons x a ih =>
    show _ ++ gq_fl g n T m cd (a ++ b) = (_ ++ gq_fl g n T m cd a) ++ _
    rw [ih, List.append_assoc]
theorem gq_ws_app (a b : List Int) : gq_ws g n (a ++ b) = gq_ws g n a + gq_ws g n b := by
  induction a with
  | nil => rw [List.nil_append]; exact (Nat.zero_add _).symm
  | cons x a ih =>
    show _ + gq_ws g n (a ++ b) = (_ + gq_ws g n a) + _
    rw [ih, Nat.add_assoc]
theorem gq_mn_u (h : gt_ok g n T) {u c : Nat} (hc : gq_C g n T u c) : gq_mn g n T m cd (u : Int) = gq_S g n m cd c ∧ gq_wt g n (u : Int) = 2 * ((gn_hd g n u).2.2.1 - (gn_hd g n u).2.1) := by
  have hT := Nat.le_trans h.2.2.2.2.2.2 h.2.2.1
  have hcT := hc.2.1
  have hu := hc.1
  unfold gq_mn gq_wt
  rw [if_neg (by omega), if_neg (by omega), if_neg (by omega), if_neg (by omega), Int.toNat_natCast, gq_fn_eq hc]
  exact ⟨rfl, rfl⟩
theorem gq_mn_w (i : Nat) (hi : i < 500) : gq_mn g n T m cd (500 + (i : Int)) = [cd i] ∧ gq_wt g n (500 + (i : Int)) = 1 := by
  unfold gq_mn gq_wt
  rw [if_neg (by omega), if_neg (by omega), if_pos (by omega), if_pos (by omega), show (500 + (i : Int) - 500).toNat = i by omega]
  exact ⟨rfl, rfl⟩
theorem gq_ws_len (h : gt_ok g n T) {s : List Int} (hv : ∀ x, x ∈ s → gq_va n T x) : s.length ≤ gq_ws g n s := by
  have hT := Nat.le_trans h.2.2.2.2.2.2 h.2.2.1
  induction s with
  | nil => exact Nat.le_refl _
  | cons x s ih =>
    have h1 := ih (fun y hy => hv y (List.mem_cons_of_mem _ hy))
    have h2 : 1 ≤ gq_wt g n x := by
      unfold gq_wt
      rcases hv x List.mem_cons_self with e | e | ⟨i, _, e⟩ | ⟨u, hu, e⟩
      · rw [if_pos (by omega)]; omega
      · rw [if_pos (by omega)]; omega
      · rw [if_pos (by omega)]; omega
      · rw [if_neg (by omega), e, Int.toNat_natCast]
        have := (gt_hd h hu).2.1
        omega
    show s.length + 1 ≤ gq_wt g n x + gq_ws g n s
    omega
theorem gq_ca (h : gt_ok g n T) {σ : np_S} (hml : gq_ml g n T cd σ) {u p : Nat} (hu : u < T) (hp : p < ga_l g (gn_rs g (gn_hd g n u))) (hne : ga_h g (gn_rs g (gn_hd g n u)) p ≠ -1) : np_W (f_M_childAt u (gn_xs g (gn_hd g n u) p) σ) (fun o => o.2 = σ ∧ ∃ k : Nat, o.1 = k ∧ k < T ∧ gn_hd g n k = (ga_h g (gn_rs g (gn_hd g n u)) p, gn_xs g (gn_hd g n u) p, gn_xs g (gn_hd g n u) (p + 1), (u : Int))) := by
  have hT := Nat.le_trans h.2.2.2.2.2.2 h.2.2.1
  have ha := gt_hd h hu
  have hcut := gn_cut h.1.1 h.2.2.1 ha
  have hmem : (ga_h g (gn_rs g (gn_hd g n u)) p, gn_xs g (gn_hd g n u) p, gn_xs g (gn_hd g n u) (p + 1), (u : Int)) ∈ gn_kd g (gn_hd g n u) (u : Int) := by
    have key : ∀ k, k ≤ ga_l g (gn_rs g (gn_hd g n u)) → ga_l g (gn_rs g (gn_hd g n u)) - k ≤ p → (ga_h g (gn_rs g (gn_hd g n u)) p, gn_xs g (gn_hd g n u) p, gn_xs g (gn_hd g n u) (p + 1), (u : Int)) ∈ gn_ks g (gn_rs g (gn_hd g n u)) (gn_xs g (gn_hd g n u)) (u : Int) k := by
      intro k
      induction k with
      | zero => intro _ hk; omega
      | succ k ih =>
        intro k1 k2
        unfold gn_ks
        by_cases e : ga_l g (gn_rs g (gn_hd g n u)) - (k + 1) = p
        · rw [e, if_neg hne]; exact List.mem_cons_self
        · have := ih (by omega) (by omega)
          split
          · exact this
          · exact List.mem_cons_of_mem _ this
    exact key _ (Nat.le_refl _) (by omega)
  obtain ⟨k0, k1, k2, k3⟩ := gt_child h hu hmem
  have loop : ∀ (f k : Nat), u < k → k ≤ k0 → k0 - k < f → np_W (f_M_childAt_4 f u (gn_xs g (gn_hd g n u) p) k σ) (fun o => o.2 = σ ∧ ∃ k : Nat, o.1 = k ∧ k < T ∧ gn_hd g n k = (ga_h g (gn_rs g (gn_hd g n u)) p, gn_xs g (gn_hd g n u) p, gn_xs g (gn_hd g n u) (p + 1), (u : Int))) := by
    intro f
    induction f with
    | zero => intro k _ _ h; omega
    | succ f ih =>
      intro k uk kk hf
      show np_W (f_M_childAt_4_b _ u _ k σ) _
      unfold f_M_childAt_4_b f_M_childAt_24
      obtain ⟨m1, m2, m3, m4⟩ := hml.1 k (by omega)
      have hpr := gt_parR h (k := k) (by omega)
      have hkk := gt_hd h (t := k) (by omega)
      have hk1 := hkk.2.1
      have hk2 := hkk.2.2.1
      have hx := h.2.2.1
      have m1' := gn_x_mono hcut (ga_l g (gn_rs g (gn_hd g n u)) - p) p (by omega)
      rw [show p + (ga_l g (gn_rs g (gn_hd g n u)) - p) = ga_l g (gn_rs g (gn_hd g n u)) by omega, hcut.2.1] at m1'
      have ha2 := ha.2.2.1
      have e5 : (k : Int) + 1 = ((k + 1 : Nat) : Int) := by omega
      have next : gn_hd g n k ≠ (ga_h g (gn_rs g (gn_hd g n u)) p, gn_xs g (gn_hd g n u) p, gn_xs g (gn_hd g n u) (p + 1), (u : Int)) → np_W (f_M_childAt_4 f u (gn_xs g (gn_hd g n u) p) ((k : Int) + 1) σ) (fun o => o.2 = σ ∧ ∃ k : Nat, o.1 = k ∧ k < T ∧ gn_hd g n k = (ga_h g (gn_rs g (gn_hd g n u)) p, gn_xs g (gn_hd g n u) p, gn_xs g (gn_hd g n u) (p + 1), (u : Int))) := by
        intro y
        have hkk0 : k ≠ k0 := fun z => by rw [z] at y; exact y k3
        rw [e5]
        exact ih (k + 1) (by omega) (by omega) (by omega)
      refine np_W_ck ⟨by omega, by omega⟩ ?_
      refine np_W_ck ⟨by rw [m4]; exact ⟨by omega, by omega⟩, ⟨by omega, by omega⟩⟩ ?_
      refine np_W_if (fun z => next (fun y => z (by rw [m4, y]))) (fun z => ?_)
      have z := Classical.not_not.mp z
      rw [m4] at z
      refine np_W_ck ⟨by omega, by omega⟩ ?_
      refine np_W_ck ⟨by rw [m2]; exact ⟨by omega, by omega⟩, ⟨by omega, by omega⟩⟩ ?_
      refine np_W_if (fun z2 => np_W_some ⟨rfl, k, rfl, by omega, ?_⟩) (fun z2 => next (fun y => z2 (by rw [m2, y])))
      rw [m2] at z2
      obtain ⟨_, hin⟩ := gt_par h (k := k) (by omega) z
      obtain ⟨_, _, p', p1, p2, p3⟩ := gn_kd_ok h.1.1 h.2.2.1 ha (u : Int) _ hin
      have hpp : gn_xs g (gn_hd g n u) p' = gn_xs g (gn_hd g n u) p := by
        have : (gn_hd g n k).2.1 = gn_xs g (gn_hd g n u) p' := by rw [p3]
        omega
      have ep : p' = p := by
        rcases Nat.lt_trichotomy p' p with q | q | q
        · have := gn_x_mono hcut (p - p') p' (by omega)
          rw [show p' + (p - p') = p by omega] at this
          omega
        · exact q
        · have := gn_x_mono hcut (p' - p) p (by omega)
          rw [show p + (p' - p) = p' by omega] at this
          omega
      rw [p3, ep]
  unfold f_M_childAt
  have e6 : (u : Int) + 1 = ((u + 1 : Nat) : Int) := by omega
  rw [e6]
  exact loop 20000 (u + 1) (by omega) (by omega) (by omega)
theorem gq_133 (h : gt_ok g n T) {σ : np_S} (hml : gq_ml g n T cd σ) {c : Nat} {k59 : Int → Int → Int → Int → np_S → Option np_O} {Q : np_O → Prop} {x1 x2 x3 x4 : Int} {hh : Nat} (hh10 : hh ≤ 10) (h0 : (hh : Int) ≤ ga_v g (gn_rs g (gn_hd g n c)) → np_W (f_M_takeApart_183 k59 x1 x2 x3 x4 c 0 σ) Q) (h1 : ¬ (hh : Int) ≤ ga_v g (gn_rs g (gn_hd g n c)) → np_W (f_M_takeApart_183 k59 x1 x2 x3 x4 c 1 σ) Q) : ∀ (f w : Nat), gq_C g n T w c → c - w < f → np_W (f_M_takeApart_133 k59 f x1 x2 x3 x4 hh w σ) Q := by
  have hT := Nat.le_trans h.2.2.2.2.2.2 h.2.2.1
  intro f
  induction f with
  | zero => intro w _ h; omega
  | succ f ih =>
    intro w hc hf
    have hcT := hc.2.1
    have hwc := hc.1
    show np_W (f_M_takeApart_133_b k59 _ x1 x2 x3 x4 hh w σ) _
    unfold f_M_takeApart_133_b f_M_takeApart_182
    obtain ⟨m1, m2, m3, m4⟩ := hml.1 w (by omega)
    obtain ⟨r1, r2, r3, r4⟩ := gn_rule h.1.1 h.2.2.1 (gt_hd h (t := w) (by omega))
    have R14 := h.1.2.2.1
    have hv := (h.1.1 _ r1).2.1
    have e5 : (w : Int) + 1 = ((w + 1 : Nat) : Int) := by omega
    refine np_W_ck ⟨by omega, by omega⟩ ?_
    refine np_W_ck ⟨by rw [m1]; exact ⟨by omega, by omega⟩, by decide⟩ ?_
    refine np_W_if (fun z => ?_) (fun z => ?_)
    · rw [m1] at z
      have ew : w = c := by
        refine Classical.byContradiction (fun y => ?_)
        have := hc.2.2.2 w (Nat.le_refl _) (by omega)
        omega
      subst ew
      refine np_W_ck ⟨by omega, by omega⟩ ?_
      refine np_W_ck (by rw [m1]; exact ⟨by omega, by omega⟩) ?_
      refine np_W_if (fun z2 => h0 ?_) (fun z2 => ?_)
      · rw [m1] at z2
        have : gn_rs g (gn_hd g n w) = 1 := by omega
        rw [this, h.1.2.2.2.2.1.2.1]; omega
      rw [m1] at z2
      obtain ⟨k, hk⟩ : ∃ k, gn_rs g (gn_hd g n w) = k + 2 := ⟨gn_rs g (gn_hd g n w) - 2, by omega⟩
      have e41 : σ 41 (w : Int) = (k : Nat) := by rw [m1, hk]; omega
      have e33 := (hml.2.1 k (by omega)).2.1
      refine np_W_ck ⟨by omega, by omega⟩ ?_
      refine np_W_ck (by rw [e41]; exact ⟨by omega, by omega⟩) ?_
      rw [hk] at hv
      refine np_W_ck ⟨⟨by omega, by omega⟩, by rw [e41, e33]; exact ⟨by omega, by omega⟩⟩ ?_
      refine np_W_if (fun z3 => h0 ?_) (fun z3 => h1 ?_)
      · rw [e41, e33] at z3; rw [hk]; exact z3
      · rw [e41, e33] at z3; rw [hk]; exact z3
    · rw [m1] at z
      have e0 : gn_rs g (gn_hd g n w) = 0 := by omega
      have hwc2 : w ≠ c := fun y => hc.2.2.1 (by rw [← y]; exact e0)
      rw [e5]
      exact ih (w + 1) (gq_up hc (by omega) (by omega)) (by omega)
theorem gq_59 (h : gt_ok g n T) (hm : ∀ i, m i = true ↔ gq_nb g n T i) (h40 : ∀ i, i < n → ga_t g i = 40 → cd i = 40) (h41 : ∀ i, i < n → ga_t g i = 41 → cd i = 41) {u k : Nat} (hu : u < T) (hk : gn_rs g (gn_hd g n u) = k + 2) {s : List Int} (hsl : s.length ≤ 100) : ∀ (f p : Nat) (σ : np_S) (K : List Int), p ≤ ga_l g (k + 2) → ga_l g (k + 2) - p < f → gq_ml g n T cd σ → gq_st σ (K.reverse ++ s) → σ 29 27 = ((K.reverse ++ s).length : Nat) → (∀ x, x ∈ K → gq_va n T x) → gq_fl g n T m cd K = gq_F m cd (gn_hd g n u).2.1 (gn_xs g (gn_hd g n u) p - (gn_hd g n u).2.1) → gq_ws g n K ≤ 2 * (gn_xs g (gn_hd g n u) p - (gn_hd g n u).2.1) → ((∃ q, q < p ∧ ga_h g (k + 2) q = -1) → gq_ws g n K + 1 ≤ 2 * (gn_xs g (gn_hd g n u) p - (gn_hd g n u).2.1)) → np_W (f_M_takeApart_59 f u ((s.length : Nat) : Int) (gn_xs g (gn_hd g n u) p) p σ) (fun o => ∃ its : List Int, gx_fr [29, 50] σ o.2 ∧ (∀ j, j ≠ 27 → o.2 29 j = σ 29 j) ∧ o.2 29 27 = ((its ++ s).length : Nat) ∧ gq_st o.2 (its ++ s) ∧ (∀ x, x ∈ its → gq_va n T x) ∧ gq_fl g n T m cd its = gq_S g n m cd u ∧ gq_ws g n its < 2 * ((gn_hd g n u).2.2.1 - (gn_hd g n u).2.1)) := by
  have hT := Nat.le_trans h.2.2.2.2.2.2 h.2.2.1
  have hn30 := h.2.2.1
  have R14 := h.1.2.2.1
  have ha := gt_hd h hu
  obtain ⟨r1, r2, r3, r4⟩ := gn_rule h.1.1 h.2.2.1 ha
  have hcut := gn_cut h.1.1 h.2.2.1 ha
  rw [hk] at r1 hcut
  have hlen := (h.1.1 _ r1).1
  have aN := ha.2.2.1
  generalize hx : gn_xs g (gn_hd g n u) = x at *
  generalize hi0 : (gn_hd g n u).2.1 = i0 at *
  generalize hj0 : (gn_hd g n u).2.2.1 = j0 at *
  intro f
  induction f with
  | zero => intro p σ K _ h; omega
  | succ f ih =>
    intro p σ K hp hf hml hst hw hva hfl hws hws1
    obtain ⟨m1, m2, m3, m4⟩ := hml.1 u hu
    have e41 : σ 41 (u : Int) = (k : Nat) := by rw [m1, hk]; omega
    obtain ⟨e32, e33, e30⟩ := hml.2.1 k r1
    have hlw := gq_ws_len h hva
    have mm1 := gn_x_mono hcut p 0 (by omega)
    have mm2 := gn_x_mono hcut (ga_l g (k + 2) - p) p (by omega)
    rw [Nat.zero_add, hcut.1] at mm1
    rw [show p + (ga_l g (k + 2) - p) = ga_l g (k + 2) by omega, hcut.2.1] at mm2
    have hKl : (K.reverse ++ s).length = K.length + s.length := by rw [List.length_append, List.length_reverse]
    show np_W (f_M_takeApart_59_b _ u _ _ p σ) _
    unfold f_M_takeApart_59_b
    refine np_W_ck ⟨by omega, by omega⟩ ?_
    refine np_W_ck (by rw [e41]; exact ⟨by omega, by omega⟩) ?_
    refine np_W_ck ⟨⟨by omega, by omega⟩, by rw [e41, e32]; exact ⟨by omega, by omega⟩⟩ ?_
    refine np_W_if (fun z => ?_) (fun z => ?_)
    · rw [e41, e32] at z
      have ep : p = ga_l g (k + 2) := by omega
      rw [ep, hcut.2.1] at hfl hws hws1
      obtain ⟨dd, d1, d2⟩ := (h.1.1 _ r1).2.2.2.2
      have hws2 := hws1 ⟨dd, d1, d2⟩
      refine np_W_mono (gq_turn hst hw (by omega)) (fun o ho => ⟨K, gx_fr_mono ho.1 (by simp), fun j _ => by rw [ho.1 29 (by decide)], ?_, ho.2, hva, ?_, by omega⟩)
      · rw [ho.1 29 (by decide), hw, hKl, List.length_append]
      · rw [hfl]; unfold gq_S; rw [hi0, hj0]
    · rw [e41, e32] at z
      have hpl : p < ga_l g (k + 2) := by omega
      have e30 := e30 p hpl
      have hh := (h.1.1 _ r1).2.2.1 p hpl
      obtain ⟨d1, d2, d3⟩ := hcut.2.2.2 p hpl
      have e1 : 7 * σ 41 (u : Int) + (p : Int) = ((7 * k + p : Nat) : Int) := by rw [e41]; omega
      have e4 : (p : Int) + 1 = ((p + 1 : Nat) : Int) := by omega
      have mm3 := gn_x_mono hcut (ga_l g (k + 2) - (p + 1)) (p + 1) (by omega)
      rw [show p + 1 + (ga_l g (k + 2) - (p + 1)) = ga_l g (k + 2) by omega, hcut.2.1] at mm3
      refine np_W_ck ⟨by omega, by omega⟩ ?_
      rw [e1]
      refine np_W_ck ⟨by omega, by omega⟩ ?_
      refine np_W_ck ⟨by rw [e30]; exact ⟨by omega, by omega⟩, by decide⟩ ?_
      have eF : ∀ L : List Int, gq_fl g n T m cd L = gq_F m cd (x p) (x (p + 1) - x p) → gq_fl g n T m cd (K ++ L) = gq_F m cd i0 (x (p + 1) - i0) := by
        intro L hL
        rw [gq_fl_app, hfl, hL, show x (p + 1) - i0 = (x p - i0) + (x (p + 1) - x p) by omega, gq_F_app, show i0 + (x p - i0) = x p by omega]
      refine np_W_if (fun hne => ?_) (fun hne => ?_)
      · rw [e30] at hne
        obtain ⟨hh0, eh⟩ : ∃ h : Nat, ga_h g (k + 2) p = h := ⟨(ga_h g (k + 2) p).toNat, by omega⟩
        have hca := gq_ca h hml hu (p := p) (by rw [hk]; exact hpl) (by rw [hk]; exact hne)
        rw [hk, hx] at hca
        refine np_W_seq hca (fun o ho => ?_)
        obtain ⟨v, τ⟩ := o
        obtain ⟨e, kk, ev, kT, khd⟩ := ho
        dsimp only at e ev ⊢
        subst e ev
        refine np_W_ck ⟨by omega, by omega⟩ ?_
        obtain ⟨q1, q2, q3, q4⟩ := hml.1 kk kT
        rw [q3, khd, e30, eh]
        dsimp only
        have e5 : (x p : Int) + ((x (p + 1) : Int) - (x p : Int)) = ((x (p + 1) : Nat) : Int) := by omega
        rw [e5]
        obtain ⟨c, hc⟩ := gq_ex h (T - kk) kk (by omega) kT
        have hsp := gq_span h hc (c - kk) (by have := hc.1; omega)
        rw [show kk + (c - kk) = c by have := hc.1; omega, khd] at hsp
        dsimp only at hsp
        have hslot := gq_slot h hm h40 h41 (c - kk) kk (by have := hc.1; omega) hc
        have eSk : gq_S g n m cd kk = gq_F m cd (x p) (x (p + 1) - x p) := by unfold gq_S; rw [khd]
        rw [eSk, khd] at hslot
        dsimp only at hslot
        rw [eh] at hslot
        have hcc : gq_C g n T c c := gq_up hc hc.1 (Nat.le_refl _)
        have hmc := gq_mn_u (m := m) (cd := cd) h hcc
        have hcT := hc.2.1
        have hw1 : gq_wt g n (c : Int) ≤ 2 * (x (p + 1) - x p) := by rw [hmc.2]; omega
        -- going on behind this hole
        have fin : ∀ (L : List Int) (ρ : np_S), gx_fr [29, 50] τ ρ → (∀ j, j ≠ 27 → ρ 29 j = τ 29 j) → ρ 29 27 = (((K ++ L).reverse ++ s).length : Nat) → gq_st ρ ((K ++ L).reverse ++ s) → (∀ y, y ∈ L → gq_va n T y) → gq_fl g n T m cd L = gq_F m cd (x p) (x (p + 1) - x p) → gq_ws g n L ≤ 2 * (x (p + 1) - x p) → np_W (f_M_takeApart_59 f u ((s.length : Nat) : Int) ((x (p + 1) : Nat) : Int) ((p : Int) + 1) ρ) (fun o => ∃ its : List Int, gx_fr [29, 50] τ o.2 ∧ (∀ j, j ≠ 27 → o.2 29 j = τ 29 j) ∧ o.2 29 27 = ((its ++ s).length : Nat) ∧ gq_st o.2 (its ++ s) ∧ (∀ x, x ∈ its → gq_va n T x) ∧ gq_fl g n T m cd its = gq_S g n m cd u ∧ gq_ws g n its < 2 * (j0 - i0)) := by
          intro L ρ f1 f2 f3 f4 f5 f6 f7
          rw [e4]
          refine np_W_mono (ih (p + 1) ρ (K ++ L) (by omega) (by omega) (gq_ml_fr hml f1 (by decide)) f4 f3 (fun y hy => ?_) (eF L f6) (by rw [gq_ws_app]; omega) (fun ⟨q, q1, q2⟩ => ?_)) (fun o ho => ?_)
          · rcases List.mem_append.mp hy with hy | hy
            · exact hva y hy
            · exact f5 y hy
          · have := hws1 ⟨q, by
              by_cases y : q = p
              · rw [y] at q2; exact absurd q2 hne
              · omega, q2⟩
            rw [gq_ws_app]; omega
          · obtain ⟨its, i1, i2, i3⟩ := ho
            exact ⟨its, gx_fr_trans f1 i1, fun j hj => (i2 j hj).trans (f2 j hj), i3⟩
        refine gq_133 h hml (by omega) (fun z0 => ?_) (fun z1 => ?_) 20000 kk hc (by omega)
        · unfold f_M_takeApart_183 f_M_takeApart_197 f_M_takeApart_215
          refine np_W_ck (by decide) ?_
          refine np_W_if (fun _ => ?_) (fun y => absurd rfl y)
          refine np_W_seq (gq_puts hst hw (by omega) (c : Int)) (fun o ho => ?_)
          obtain ⟨v, ρ⟩ := o
          obtain ⟨w1, w2, w3, w4⟩ := ho
          dsimp only at w1 w2 w3 w4 ⊢
          refine np_W_ck (by decide) ?_
          refine np_W_if (fun _ => ?_) (fun y => absurd rfl y)
          have erv : (K ++ [(c : Int)]).reverse ++ s = (c : Int) :: (K.reverse ++ s) := by rw [List.reverse_append]; rfl
          refine fin [(c : Int)] ρ w1 w2 (by rw [erv]; exact w3) (by rw [erv]; exact w4) (fun y hy => ?_) ?_ ?_
          · rw [List.mem_singleton.mp hy]; exact Or.inr (Or.inr (Or.inr ⟨c, hcT, rfl⟩))
          · show gq_mn g n T m cd (c : Int) ++ [] = _
            rw [List.append_nil, hmc.1, hslot.1 z0]
          · show gq_wt g n (c : Int) + 0 ≤ _
            omega
        · have hbr : 1 ≤ c - kk := by
            refine Classical.byContradiction (fun y => z1 ?_)
            have ec : c = kk := by have := hc.1; omega
            have := (gn_rule h.1.1 h.2.2.1 (gt_hd h kT)).2.1
            rw [khd] at this
            dsimp only at this
            rw [eh] at this
            rw [ec, khd, eh]; exact this
          have hw2 : gq_wt g n (c : Int) + 2 ≤ 2 * (x (p + 1) - x p) := by
            rw [hmc.2]
            have := (gt_hd h hcT).2.1
            omega
          unfold f_M_takeApart_183 f_M_takeApart_197 f_M_takeApart_215
          refine np_W_ck (by decide) ?_
          refine np_W_if (fun y => absurd y (by decide)) (fun _ => ?_)
          refine np_W_seq (gq_puts hst hw (by omega) 1000) (fun o ho => ?_)
          obtain ⟨v, ρ⟩ := o
          obtain ⟨w1, w2, w3, w4⟩ := ho
          dsimp only at w1 w2 w3 w4 ⊢
          have l1 : ((1000 : Int) :: (K.reverse ++ s)).length = K.length + s.length + 1 := by rw [← hKl]; rfl
          refine np_W_seq (gq_puts w4 w3 (by omega) (c : Int)) (fun o ho => ?_)
          obtain ⟨v2, ρ2⟩ := o
          obtain ⟨y1, y2, y3, y4⟩ := ho
          dsimp only at y1 y2 y3 y4 ⊢
          have l2 : ((c : Int) :: (1000 : Int) :: (K.reverse ++ s)).length = K.length + s.length + 2 := by rw [← hKl]; rfl
          refine np_W_ck (by decide) ?_
          refine np_W_if (fun y => absurd y (by decide)) (fun _ => ?_)
          refine np_W_seq (gq_puts y4 y3 (by omega) 1001) (fun o ho => ?_)
          obtain ⟨v3, ρ3⟩ := o
          obtain ⟨u1, u2, u3, u4⟩ := ho
          dsimp only at u1 u2 u3 u4 ⊢
          have erv : (K ++ [(1000 : Int), (c : Int), 1001]).reverse ++ s = (1001 : Int) :: (c : Int) :: (1000 : Int) :: (K.reverse ++ s) := by rw [List.reverse_append]; rfl
          refine fin [1000, (c : Int), 1001] ρ3 (gx_fr_trans w1 (gx_fr_trans y1 u1)) (fun j hj => by rw [u2 j hj, y2 j hj, w2 j hj]) (by rw [erv]; exact u3) (by rw [erv]; exact u4) (fun y hy => ?_) ?_ ?_
          · simp only [List.mem_cons, List.not_mem_nil, or_false] at hy
            rcases hy with rfl | rfl | rfl
            · exact Or.inl rfl
            · exact Or.inr (Or.inr (Or.inr ⟨c, hcT, rfl⟩))
            · exact Or.inr (Or.inl rfl)
          · show gq_mn g n T m cd 1000 ++ (gq_mn g n T m cd (c : Int) ++ (gq_mn g n T m cd 1001 ++ [])) = _
            have a1 : gq_mn g n T m cd 1000 = [40] := by unfold gq_mn; rw [if_pos rfl]
            have a2 : gq_mn g n T m cd 1001 = [41] := by unfold gq_mn; rw [if_neg (by decide), if_pos rfl]
            rw [a1, a2, hmc.1, hslot.2 z1, List.append_nil, List.append_assoc]
          · show gq_wt g n 1000 + (gq_wt g n (c : Int) + (gq_wt g n 1001 + 0)) ≤ _
            have a1 : gq_wt g n 1000 = 1 := by unfold gq_wt; rw [if_pos (by decide)]
            have a2 : gq_wt g n 1001 = 1 := by unfold gq_wt; rw [if_pos (by decide)]
            omega
      · rw [e30] at hne
        have hne := Classical.not_not.mp hne
        obtain ⟨d4, d5⟩ := d2 hne
        have hwd := h.1.2.2.2.2.2 (k + 2) p (by omega) r1 hpl hne
        have hmx : m (x p) ≠ true := by
          intro y
          rcases gq_nb_tok h ((hm _).mp y) with q | q
          · rw [d5] at q; exact hwd.2.1 q
          · rw [d5] at q; exact hwd.2.2 q
        have e6 : (x p : Int) + 1 = ((x (p + 1) : Nat) : Int) := by rw [d4]; omega
        unfold f_M_takeApart_215
        refine np_W_seq (gq_puts hst hw (by omega) (500 + (x p : Int))) (fun o ho => ?_)
        obtain ⟨v, ρ⟩ := o
        obtain ⟨w1, w2, w3, w4⟩ := ho
        dsimp only at w1 w2 w3 w4 ⊢
        rw [e4, e6]
        have hmw := gq_mn_w (g := g) (n := n) (T := T) (m := m) (cd := cd) (x p) (by omega)
        have erv : (K ++ [500 + (x p : Int)]).reverse ++ s = (500 + (x p : Int)) :: (K.reverse ++ s) := by rw [List.reverse_append]; rfl
        have efl : gq_fl g n T m cd [500 + (x p : Int)] = gq_F m cd (x p) (x (p + 1) - x p) := by
          show gq_mn g n T m cd (500 + (x p : Int)) ++ [] = _
          rw [List.append_nil, hmw.1, d4, show x p + 1 - x p = 1 by omega, gq_F_one cd hmx]
        have ews : gq_ws g n (K ++ [500 + (x p : Int)]) = gq_ws g n K + 1 := by
          rw [gq_ws_app]
          show _ + (gq_wt g n (500 + (x p : Int)) + 0) = _
          rw [hmw.2]
        refine np_W_mono (ih (p + 1) ρ (K ++ [500 + (x p : Int)]) (by omega) (by omega) (gq_ml_fr hml w1 (by decide)) (by rw [erv]; exact w4) (by rw [erv]; exact w3) (fun y hy => ?_) (eF _ efl) (by omega) (fun _ => by omega)) (fun o ho => ?_)
        · rcases List.mem_append.mp hy with hy | hy
          · exact hva y hy
          · rw [List.mem_singleton.mp hy]; exact Or.inr (Or.inr (Or.inl ⟨x p, by omega, rfl⟩))
        · obtain ⟨its, i1, i2, i3⟩ := ho
          exact ⟨its, gx_fr_trans w1 i1, fun j hj => (i2 j hj).trans (w2 j hj), i3⟩
end
