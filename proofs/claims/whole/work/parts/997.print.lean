/-! printing: the reference's takeApart and print -/
section
variable {g : ga_G} {n T : Nat} {m : Nat → Bool} {cd : Nat → Int}
theorem gq_ta (h : gt_ok g n T) (hm : ∀ i, m i = true ↔ gq_nb g n T i) (h40 : ∀ i, i < n → ga_t g i = 40 → cd i = 40) (h41 : ∀ i, i < n → ga_t g i = 41 → cd i = 41) {u : Nat} (hu : u < T) {s : List Int} (hsl : s.length ≤ 100) {σ : np_S} (hml : gq_ml g n T cd σ) (hst : gq_st σ s) (hw : σ 29 27 = (s.length : Nat)) : np_W (f_M_takeApart u σ) (fun o => ∃ its : List Int, gx_fr [29, 50] σ o.2 ∧ (∀ j, j ≠ 27 → o.2 29 j = σ 29 j) ∧ o.2 29 27 = ((its ++ s).length : Nat) ∧ gq_st o.2 (its ++ s) ∧ (∀ x, x ∈ its → gq_va n T x) ∧ gq_fl g n T m cd its = gq_mn g n T m cd (u : Int) ∧ gq_ws g n its < gq_wt g n (u : Int)) := by
  have hT := Nat.le_trans h.2.2.2.2.2.2 h.2.2.1
  have hn30 := h.2.2.1
  have R14 := h.1.2.2.1
  have ha := gt_hd h hu
  have a1 := ha.2.1
  have a2 := ha.2.2.1
  obtain ⟨r1, r2, r3, r4⟩ := gn_rule h.1.1 h.2.2.1 ha
  obtain ⟨m1, m2, m3, m4⟩ := hml.1 u hu
  obtain ⟨c, hc⟩ := gq_ex h (T - u) u (by omega) hu
  have hmu := gq_mn_u (m := m) (cd := cd) h hc
  rw [hmu.1, hmu.2]
  unfold f_M_takeApart
  refine np_W_ck ⟨by omega, by omega⟩ ?_
  refine np_W_ck ⟨by rw [m1]; exact ⟨by omega, by omega⟩, by decide⟩ ?_
  refine np_W_if (fun z => ?_) (fun z => ?_)
  · rw [m1] at z
    refine np_W_ck ⟨by omega, by omega⟩ ?_
    refine np_W_ck ⟨by rw [m1]; exact ⟨by omega, by omega⟩, by decide⟩ ?_
    refine np_W_if (fun z2 => ?_) (fun z2 => ?_)
    · rw [m1] at z2
      obtain ⟨k, hk⟩ : ∃ k, gn_rs g (gn_hd g n u) = k + 2 := ⟨gn_rs g (gn_hd g n u) - 2, by omega⟩
      have ecu : c = u := by
        refine Classical.byContradiction (fun y => ?_)
        have := hc.2.2.2 u (Nat.le_refl _) (by have := hc.1; omega)
        omega
      rw [ecu]
      have hcut := gn_cut h.1.1 h.2.2.1 ha
      refine np_W_ck ⟨by omega, by omega⟩ ?_
      rw [m2, hw]
      have e0 : ((gn_hd g n u).2.1 : Int) = ((gn_xs g (gn_hd g n u) 0 : Nat) : Int) := by rw [hcut.1]
      rw [e0]
      have e00 : gn_xs g (gn_hd g n u) 0 - (gn_hd g n u).2.1 = 0 := by rw [hcut.1]; omega
      exact gq_59 h hm h40 h41 hu hk hsl 20000 0 σ [] (by omega) (by have := (h.1.1 (k + 2) (by rw [← hk]; exact r1)).1; omega) hml hst hw (fun x hx => by cases hx) (by rw [e00]; rfl) (Nat.zero_le _) (fun ⟨q, q1, _⟩ => by omega)
    · rw [m1] at z2
      have h0 : gn_rs g (gn_hd g n u) = 0 := by omega
      obtain ⟨n1, n2⟩ := gt_next h hu h0
      have hl1 := (gt_hd h n1).2.1
      rw [n2] at hl1
      dsimp only at hl1
      have e1 : (u : Int) + 1 = ((u + 1 : Nat) : Int) := by omega
      have hcu : u ≠ c := fun y => hc.2.2.1 (by rw [← y]; exact h0)
      have hc1 := gq_up hc (w := u + 1) (by omega) (by have := hc.1; omega)
      have hm1 := gq_mn_u (m := m) (cd := cd) h hc1
      rw [e1]
      refine np_W_seq (gq_puts hst hw (by omega) (((u + 1 : Nat)) : Int)) (fun o ho => np_W_some ⟨[((u + 1 : Nat) : Int)], ho.1, ho.2.1, ho.2.2.1, ho.2.2.2, fun x hx => ?_, ?_, ?_⟩)
      · rw [List.mem_singleton.mp hx]; exact Or.inr (Or.inr (Or.inr ⟨u + 1, n1, rfl⟩))
      · show gq_mn g n T m cd (((u + 1 : Nat)) : Int) ++ [] = _
        rw [List.append_nil, hm1.1]
      · show gq_wt g n (((u + 1 : Nat)) : Int) + 0 < _
        rw [hm1.2, n2]
        dsimp only
        omega
  · rw [m1] at z
    have h1 : gn_rs g (gn_hd g n u) = 1 := by omega
    obtain ⟨t1, t2⟩ := gt_atom h hu h1
    have ecu : c = u := by
      refine Classical.byContradiction (fun y => ?_)
      have := hc.2.2.2 u (Nat.le_refl _) (by have := hc.1; omega)
      omega
    rw [ecu]
    have hmx : m (gn_hd g n u).2.1 ≠ true := by
      intro y
      rcases gq_nb_tok h ((hm _).mp y) with q | q
      · rw [t1] at q; exact absurd q (by decide)
      · rw [t1] at q; exact absurd q (by decide)
    have hmw := gq_mn_w (g := g) (n := n) (T := T) (m := m) (cd := cd) (gn_hd g n u).2.1 (by omega)
    refine np_W_ck ⟨by omega, by omega⟩ ?_
    rw [m2]
    refine np_W_seq (gq_puts hst hw (by omega) (500 + ((gn_hd g n u).2.1 : Int))) (fun o ho => np_W_some ⟨[500 + ((gn_hd g n u).2.1 : Int)], ho.1, ho.2.1, ho.2.2.1, ho.2.2.2, fun x hx => ?_, ?_, ?_⟩)
    · rw [List.mem_singleton.mp hx]; exact Or.inr (Or.inr (Or.inl ⟨_, by omega, rfl⟩))
    · show gq_mn g n T m cd (500 + ((gn_hd g n u).2.1 : Int)) ++ [] = _
      rw [List.append_nil, hmw.1]
      unfold gq_S
      rw [t2, show (gn_hd g n u).2.1 + 1 - (gn_hd g n u).2.1 = 1 by omega, gq_F_one cd hmx]
    · show gq_wt g n (500 + ((gn_hd g n u).2.1 : Int)) + 0 < _
      rw [hmw.2]; omega
theorem gq_F_len (m : Nat → Bool) (cd : Nat → Int) : ∀ (k a : Nat), (gq_F m cd a k).length ≤ k := by
  intro k
  induction k with
  | zero => intro a; exact Nat.le_refl _
  | succ k ih =>
    intro a
    show ((if m a = true then [] else [cd a]) ++ gq_F m cd (a + 1) k).length ≤ k + 1
    rw [List.length_append]
    have := ih (a + 1)
    split
    · show 0 + _ ≤ _; omega
    · show 1 + _ ≤ _; omega
theorem gq_em_len (O : List Int) (w : Int) : (gq_em O w).length ≤ O.length + 9 := by
  unfold gq_em
  rw [List.length_append, List.length_append]
  have := gq_bk_le w 8
  split
  · show _ + 0 + _ ≤ _; omega
  · show _ + 1 + _ ≤ _; omega
theorem gq_fold_len (P : List Int) : ∀ O : List Int, (P.foldl gq_em O).length ≤ O.length + 9 * P.length := by
  induction P with
  | nil => intro O; exact Nat.le_refl _
  | cons w P ih =>
    intro O
    show (P.foldl gq_em (gq_em O w)).length ≤ O.length + 9 * (P.length + 1)
    have := ih (gq_em O w)
    have := gq_em_len O w
    omega
theorem gq_loop (h : gt_ok g n T) (hm : ∀ i, m i = true ↔ gq_nb g n T i) (h40 : ∀ i, i < n → ga_t g i = 40 → cd i = 40) (h41 : ∀ i, i < n → ga_t g i = 41 → cd i = 41) : ∀ (f : Nat) (σ : np_S) (st P : List Int), gq_ws g n st < f → gq_ws g n st ≤ 60 → gq_ml g n T cd σ → gq_st σ st → σ 29 27 = (st.length : Nat) → (∀ x, x ∈ st → gq_va n T x) → gq_om σ (P.foldl gq_em []) → P ++ gq_fl g n T m cd st = gq_F m cd 0 n → np_W (f_M_print_40 f σ) (fun o => gx_fr [29, 49, 50] σ o.2 ∧ (∀ j, j ≠ 27 → j ≠ 28 → o.2 29 j = σ 29 j) ∧ o.1 = o.2 29 28 ∧ gq_om o.2 ((gq_F m cd 0 n).foldl gq_em [])) := by
  have hT := Nat.le_trans h.2.2.2.2.2.2 h.2.2.1
  have hn30 := h.2.2.1
  intro f
  induction f with
  | zero => intro σ st P hh; omega
  | succ f ih =>
    intro σ st P hf h60 hml hst hw hva hO hP
    have hPl : P.length ≤ 30 := by
      have := gq_F_len m cd n 0
      rw [← hP, List.length_append] at this
      omega
    have hOl : (P.foldl gq_em []).length ≤ 1000 := by
      have := gq_fold_len P []
      have e : ([] : List Int).length = 0 := rfl
      omega
    show np_W (f_M_print_40_b _ σ) _
    unfold f_M_print_40_b f_M_print_81 f_M_print_98 f_M_print_133
    cases st with
    | nil =>
      have hw : σ 29 27 = 0 := hw
      refine np_W_ck ⟨by omega, by omega⟩ ?_
      refine np_W_if (fun _ => np_W_some ⟨gx_fr_refl _ _, fun _ _ _ => rfl, rfl, ?_⟩) (fun z => by omega)
      have hP : P ++ [] = gq_F m cd 0 n := hP
      rw [List.append_nil] at hP
      rw [← hP]; exact hO
    | cons x s =>
      have hlw := gq_ws_len h hva
      have hlw : s.length + 1 ≤ gq_ws g n (x :: s) := hlw
      have hw : σ 29 27 = ((s.length + 1 : Nat) : Int) := hw
      have hvx := hva x List.mem_cons_self
      obtain ⟨hx50, hst2⟩ := hst
      have hwx : gq_ws g n (x :: s) = gq_wt g n x + gq_ws g n s := rfl
      have eh : σ 29 27 - 1 = (s.length : Nat) := by omega
      have s50 : σ 50 (σ 29 27 - 1) = x := by rw [eh]; exact hx50
      have fr1 := gx_fr_st σ 29 27 (σ 29 27 - 1)
      have hst1 : gq_st (np_st σ 29 27 (σ 29 27 - 1)) s := gq_st_congr s (fun i _ => by rw [fr1 50 (by decide)]) hst2
      have hw1 : np_st σ 29 27 (σ 29 27 - 1) 29 27 = (s.length : Nat) := by rw [np_st_s]; exact eh
      have hml1 := gq_ml_fr hml fr1 (by decide)
      have hO1 : gq_om (np_st σ 29 27 (σ 29 27 - 1)) (P.foldl gq_em []) := ⟨by rw [np_st_n _ _ _ (by decide)]; exact hO.1, fun i hi => by rw [fr1 49 (by decide)]; exact hO.2 i hi⟩
      have j29 : ∀ j, j ≠ 27 → np_st σ 29 27 (σ 29 27 - 1) 29 j = σ 29 j := fun j hj => np_st_n _ _ _ hj
      have hP2 : P ++ (gq_mn g n T m cd x ++ gq_fl g n T m cd s) = gq_F m cd 0 n := hP
      -- a word goes out
      have word : ∀ w : Int, gq_mn g n T m cd x = [w] → 1 ≤ gq_wt g n x → np_W ((f_M_putWord w (np_st σ 29 27 (σ 29 27 - 1))).bind (fun o1 => f_M_print_40 f o1.2)) (fun o => gx_fr [29, 49, 50] σ o.2 ∧ (∀ j, j ≠ 27 → j ≠ 28 → o.2 29 j = σ 29 j) ∧ o.1 = o.2 29 28 ∧ gq_om o.2 ((gq_F m cd 0 n).foldl gq_em [])) := by
        intro w hmw hw1'
        refine np_W_seq (gq_put hO1 hOl w) (fun o ho => ?_)
        obtain ⟨v, ρ⟩ := o
        obtain ⟨b1, b2, b3⟩ := ho
        dsimp only at b1 b2 b3 ⊢
        have frA : gx_fr [29, 49, 50] σ ρ := gx_fr_trans (gx_fr_mono fr1 (by simp)) (gx_fr_mono b1 (by simp))
        refine np_W_mono (ih ρ s (P ++ [w]) (by omega) (by omega) (gq_ml_fr hml1 b1 (by decide)) (gq_st_congr s (fun i _ => by rw [b1 50 (by decide)]) hst1) (by rw [b2 27 (by decide)]; exact hw1) (fun y hy => hva y (List.mem_cons_of_mem _ hy)) ?_ ?_) (fun o ho => ⟨gx_fr_trans frA ho.1, fun j j1 j2 => by rw [ho.2.1 j j1 j2, b2 j j2, j29 j j1], ho.2.2⟩)
        · rw [List.foldl_append]; exact b3
        · rw [hmw] at hP2
          rw [List.append_assoc]; exact hP2
      generalize hS : np_st σ 29 27 (σ 29 27 - 1) = S at *
      have e27 : S 29 27 = (s.length : Nat) := hw1
      have e50 : S 50 (S 29 27) = x := by rw [e27]; exact (by rw [← hx50]; rw [← hS, np_st_o _ _ _ (by decide)])
      have hxR : np_R x := by
        rcases hvx with e | e | ⟨i, hi, e⟩ | ⟨u, hu, e⟩
        · rw [e]; decide
        · rw [e]; decide
        · exact ⟨by omega, by omega⟩
        · exact ⟨by omega, by omega⟩
      refine np_W_ck ⟨by omega, by omega⟩ ?_
      refine np_W_if (fun z => by omega) (fun _ => ?_)
      refine np_W_ck (by rw [e27]; exact ⟨by omega, by omega⟩) ?_
      refine np_W_ck (by rw [e50]; exact ⟨hxR, by decide⟩) ?_
      refine np_W_if (fun z => ?_) (fun z => ?_)
      · rw [e50] at z
        refine np_W_ck (by rw [e50]; exact ⟨hxR, by decide⟩) ?_
        refine np_W_if (fun y => absurd (by rw [e50]; exact z) y) (fun _ => ?_)
        exact word 40 (by unfold gq_mn; rw [if_pos z]) (by unfold gq_wt; rw [if_pos (by omega)]; omega)
      rw [e50] at z
      refine np_W_ck (by rw [e50]; exact ⟨hxR, by decide⟩) ?_
      refine np_W_if (fun z2 => ?_) (fun z2 => ?_)
      · rw [e50] at z2
        refine np_W_ck (by rw [e50]; exact ⟨hxR, by decide⟩) ?_
        refine np_W_if (fun z3 => ?_) (fun z3 => ?_)
        · rw [e50] at z3
          obtain ⟨u, hu, eu⟩ : ∃ u : Nat, u < T ∧ x = (u : Int) := by
            rcases hvx with e | e | ⟨i, _, e⟩ | ⟨u, hu, e⟩
            · omega
            · omega
            · omega
            · exact ⟨u, hu, e⟩
          rw [e50, eu]
          refine np_W_seq (gq_ta h hm h40 h41 hu (by omega) hml1 hst1 e27) (fun o ho => ?_)
          obtain ⟨v, ρ⟩ := o
          obtain ⟨its, b1, b2, b3, b4, b5, b6, b7⟩ := ho
          dsimp only at b1 b2 b3 b4 b5 b6 b7 ⊢
          have frA : gx_fr [29, 49, 50] σ ρ := gx_fr_trans (gx_fr_mono fr1 (by simp)) (gx_fr_mono b1 (by simp))
          rw [eu] at hwx hP2
          rw [eu] at hf h60
          refine np_W_mono (ih ρ (its ++ s) P (by rw [gq_ws_app]; omega) (by rw [gq_ws_app]; omega) (gq_ml_fr hml1 b1 (by decide)) b4 b3 (fun y hy => ?_) ⟨by rw [b2 28 (by decide)]; exact hO1.1, fun i hi => by rw [b1 49 (by decide)]; exact hO1.2 i hi⟩ (by rw [gq_fl_app, b6]; exact hP2)) (fun o ho => ⟨gx_fr_trans frA ho.1, fun j j1 j2 => by rw [ho.2.1 j j1 j2, b2 j j1, j29 j j1], ho.2.2⟩)
          rcases List.mem_append.mp hy with hy | hy
          · exact b5 y hy
          · exact hva y (List.mem_cons_of_mem _ hy)
        · rw [e50] at z3
          obtain ⟨i, hi, ei⟩ : ∃ i : Nat, i < n ∧ x = 500 + (i : Int) := by
            rcases hvx with e | e | ⟨i, hi, e⟩ | ⟨u, hu, e⟩
            · omega
            · omega
            · exact ⟨i, hi, e⟩
            · omega
          rw [e50]
          refine np_W_ck ⟨by omega, by omega⟩ ?_
          have hmw := gq_mn_w (g := g) (n := n) (T := T) (m := m) (cd := cd) i (by omega)
          rw [show x - 500 = (i : Int) by omega, hml1.2.2 i hi]
          exact word (cd i) (by rw [ei]; exact hmw.1) (by rw [ei, hmw.2]; exact Nat.le_refl _)
      · rw [e50] at z2
        have z2 := Classical.not_not.mp z2
        refine np_W_ck (by rw [e50]; exact ⟨hxR, by decide⟩) ?_
        refine np_W_if (fun _ => ?_) (fun y => absurd (by rw [e50]; exact z) y)
        exact word 41 (by unfold gq_mn; rw [if_neg z, if_pos z2]) (by unfold gq_wt; rw [if_pos (by omega)]; omega)
theorem gq_mprint (h : gt_ok g n T) (hm : ∀ i, m i = true ↔ gq_nb g n T i) (h40 : ∀ i, i < n → ga_t g i = 40 → cd i = 40) (h41 : ∀ i, i < n → ga_t g i = 41 → cd i = 41) {σ : np_S} (hml : gq_ml g n T cd σ) (h18 : σ 29 18 = (T : Nat)) : np_W (f_M_print σ) (fun o => gx_fr [29, 49, 50] σ o.2 ∧ (∀ j, j ≠ 0 → j ≠ 27 → j ≠ 28 → o.2 29 j = σ 29 j) ∧ o.2 29 0 = 0 ∧ o.1 = o.2 29 28 ∧ gq_om o.2 ((gq_F m cd 0 n).foldl gq_em [])) := by
  have hT := Nat.le_trans h.2.2.2.2.2.2 h.2.2.1
  have hT1 : 0 < T := by
    refine Classical.byContradiction (fun y => ?_)
    have e0 : T = 0 := by omega
    have := h.2.2.2.2.1
    rw [e0] at this
    cases this
  obtain ⟨c, hc⟩ := gq_ex h T 0 (by omega) hT1
  have hm0 := gq_mn_u (m := m) (cd := cd) h hc
  have hd0 : gn_hd g n 0 = (0, 0, n, -1) := gn_hd_eq (s := []) rfl
  have hsl := (gq_slot h hm h40 h41 c 0 (by omega) hc).1 (by rw [hd0]; exact (h.1.1 _ (gn_rule h.1.1 h.2.2.1 (gt_hd h hc.2.1)).1).2.1.1)
  have hS0 : gq_S g n m cd 0 = gq_F m cd 0 n := by unfold gq_S; rw [hd0]; rfl
  unfold f_M_print
  refine np_W_ck (by rw [h18]; exact ⟨by omega, by omega⟩) ?_
  refine np_W_if (fun _ => ?_) (fun z => absurd (by rw [h18]; omega) z)
  unfold f_M_print_13
  refine np_W_ck (by rw [np_st_s]; decide) ?_
  refine np_W_if (fun _ => ?_) (fun z => absurd (by rw [np_st_s]; decide) z)
  have fr3 : gx_fr [29] σ (np_st (np_st (np_st σ 29 0 0) 29 28 0) 29 27 0) := gx_fr_trans (gx_fr_st _ _ _ _) (gx_fr_trans (gx_fr_st _ _ _ _) (gx_fr_st _ _ _ _))
  have w27 : np_st (np_st (np_st σ 29 0 0) 29 28 0) 29 27 0 29 27 = ((([] : List Int).length : Nat) : Int) := np_st_s _ _ _ _
  have w28 : np_st (np_st (np_st σ 29 0 0) 29 28 0) 29 27 0 29 28 = 0 := by rw [np_st_n _ _ _ (by decide), np_st_s]
  have w0 : np_st (np_st (np_st σ 29 0 0) 29 28 0) 29 27 0 29 0 = 0 := by rw [np_st_n _ _ _ (by decide), np_st_n _ _ _ (by decide), np_st_s]
  have wj : ∀ j, j ≠ 0 → j ≠ 27 → j ≠ 28 → np_st (np_st (np_st σ 29 0 0) 29 28 0) 29 27 0 29 j = σ 29 j := fun j j0 j1 j2 => by rw [np_st_n _ _ _ j1, np_st_n _ _ _ j2, np_st_n _ _ _ j0]
  generalize np_st (np_st (np_st σ 29 0 0) 29 28 0) 29 27 0 = S at *
  refine np_W_seq (gq_puts (s := []) (σ := S) trivial w27 (by decide) 0) (fun o ho => ?_)
  obtain ⟨v, ρ⟩ := o
  obtain ⟨b1, b2, b3, b4⟩ := ho
  dsimp only at b1 b2 b3 b4 ⊢
  have frA : gx_fr [29, 49, 50] σ ρ := gx_fr_trans (gx_fr_mono fr3 (by simp)) (gx_fr_mono b1 (by simp))
  have e0 : (0 : Int) = ((0 : Nat) : Int) := rfl
  have hws : gq_ws g n [(0 : Int)] ≤ 60 := by
    show gq_wt g n ((0 : Nat) : Int) + 0 ≤ 60
    rw [hm0.2, hd0]
    have := h.2.2.1
    dsimp only
    omega
  refine np_W_mono (gq_loop h hm h40 h41 20000 ρ [0] [] (by omega) hws (gq_ml_fr hml frA (by decide)) b4 b3 (fun x hx => ?_) ⟨by rw [b2 28 (by decide), w28]; rfl, fun i hi => absurd hi (Nat.not_lt_zero _)⟩ ?_) (fun o ho => ⟨gx_fr_trans frA ho.1, fun j j0 j1 j2 => ?_, ?_, ho.2.2⟩)
  · rw [List.mem_singleton.mp hx]; exact Or.inr (Or.inr (Or.inr ⟨0, hT1, rfl⟩))
  · show [] ++ (gq_mn g n T m cd ((0 : Nat) : Int) ++ []) = _
    rw [List.nil_append, List.append_nil, hm0.1, ← hsl, hS0]
  · rw [ho.2.1 j j1 j2, b2 j j1, wj j j0 j1 j2]
  · rw [ho.2.1 0 (by decide) (by decide), b2 0 (by decide), w0]
end
