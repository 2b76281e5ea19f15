/-! read, node, print: both sides together -/
theorem gk_read {σ : np_S} (hI : gi_I σ) : gl_ok2 (f_L_read σ) f_M_read := by
  obtain ⟨i1, i2, i3, i4, i5, i6, i7⟩ := id hI
  obtain ⟨b, N, hN, hN2, hb, h34, hcls⟩ := gr_class i1 i3
  refine gl_w1 (np_W_mono hcls (fun o ho => ?_))
  obtain ⟨k, v, ρ⟩ := o
  obtain ⟨f1, f2, W, pl, en, hW, hout, h0, hne, hT1, hT0⟩ := ho
  dsimp only at f1 f2 hW hout h0 hne hT1 hT0 ⊢
  have hg : gx_p (gi_g ρ) := gi_gp (gi_C_eq i1 (f1 1 (by decide)) (f1 2 (by decide)) (f1 3 (by decide)) (f1 4 (by decide)) (f1 5 (by decide)))
  have W30 := hW.2.1.1
  have hvR : np_R v := by
    rcases hout with ⟨m, _, _, _, e, _⟩ | ⟨_, _, e, _⟩ | ⟨_, _, _, e, _⟩ | ⟨_, _, _, _, _, e⟩
    · rw [(hne (by rw [e]; decide)).2]; decide
    · rw [(hne (by rw [e]; decide)).2]; decide
    · rw [(hne (by rw [e]; decide)).2]; decide
    · have := ga_sat_le (ga_C (gi_g ρ) 0 0 W)
      rw [e]; exact ⟨by omega, by omega⟩
  have h05 : np_R (ρ 0 5) ∧ np_R (ρ 0 6) := by
    rcases hout with ⟨m, m1, _, _, e, e2⟩ | ⟨_, _, e, e2⟩ | ⟨_, _, _, e, e2⟩ | ⟨_, _, _, e, e2, _⟩
    · have hpm := hW.2.1.2 m m1
      have := hpm.2.2.1.1
      have := hpm.2.2.1.2.1
      rw [e, e2]; exact ⟨by decide, by dsimp only; omega, by dsimp only; omega⟩
    · rw [e, e2]
      refine ⟨by decide, ?_⟩
      rcases hW.2.2.1 with ⟨q, _⟩ | ⟨p, q, q2, _⟩
      · rw [q]; decide
      · rw [q]; exact ⟨by omega, by omega⟩
    · rw [e, e2, hN]; exact ⟨by decide, by omega, by omega⟩
    · rw [e, e2]; decide
  refine ⟨?_, hvR, fun τ hτ => ?_⟩
  · by_cases z : ρ 0 5 = 0
    · exact Or.inl (h0 z).1
    · exact Or.inr (hne z).1
  have hτ : gl_28 τ ρ := hτ
  -- τ is the class's store, but for cell 28
  have tf : ∀ c, c ∉ [0, 6, 8, 9, 10, 12, 13, 14, 15, 16, 17, 18, 19, 20, 21, 22, 23, 24, 25, 28] → τ c = σ c := by
    intro c hc
    simp only [List.mem_cons, List.not_mem_nil, or_false, not_or] at hc
    rw [hτ c hc.2.2.2.2.2.2.2.2.2.2.2.2.2.2.2.2.2.2.2, f1 c (by simp only [List.mem_cons, List.not_mem_nil, or_false, not_or]; omega)]
  have tC : gi_C τ := gi_C_eq i1 (tf 1 (by decide)) (tf 2 (by decide)) (tf 3 (by decide)) (tf 4 (by decide)) (tf 5 (by decide))
  have tM : gi_M τ := gi_M_eq i2 (tf 1 (by decide)) (tf 2 (by decide)) (tf 3 (by decide)) (tf 4 (by decide)) (tf 5 (by decide)) (by rw [tf 29 (by decide)]) (by rw [tf 29 (by decide)]) (tf 30 (by decide)) (tf 31 (by decide)) (tf 32 (by decide)) (tf 33 (by decide))
  have tW : gr_W b N W pl en τ := gr_W_eq hW (hτ 1 (by decide)) (hτ 2 (by decide)) (hτ 3 (by decide)) (hτ 5 (by decide)) (hτ 6 (by decide)) (hτ 8 (by decide)) (hτ 9 (by decide)) (hτ 10 (by decide))
  have eg : gi_g τ = gi_g ρ := gi_g_eq (by rw [hτ 1 (by decide)]) (hτ 2 (by decide)) (hτ 3 (by decide)) (hτ 4 (by decide)) (hτ 5 (by decide)) (hτ 9 (by decide))
  have t8 : τ 29 8 = (N : Nat) := by rw [tf 29 (by decide), i3.2.2.1]; exact hN
  refine np_W_mono (gr_model tC tM t8 hN2 hb (fun k hk => by rw [tf 34 (by decide)]; exact h34 k hk) tW) (fun q hq => ?_)
  obtain ⟨q1, q2, q3, q4, q5, q6, q7, q8, q9⟩ := hq
  rw [eg, hτ 6 (by decide)] at q5
  rw [eg] at q8 q9
  rw [hN] at hout
  obtain ⟨u1, u2, u3⟩ := gr_uni hout q5
  have q29 : ∀ j, j ≠ 0 → j ≠ 9 → j ≠ 10 → j ≠ 11 → j ≠ 18 → j ≠ 27 → q.2 29 j = σ 29 j := fun j a b c d e f => by rw [q2 j a b c d e f, tf 29 (by decide)]
  have qf : ∀ c, c ∉ [0, 6, 8, 9, 10, 12, 13, 14, 15, 16, 17, 18, 19, 20, 21, 22, 23, 24, 25, 28, 29, 35, 36, 37, 38, 39, 40, 41, 42, 43, 44, 45, 46, 47, 48] → q.2 c = σ c := by
    intro c hc
    simp only [List.mem_cons, List.not_mem_nil, or_false, not_or] at hc
    rw [q1 c (by simp only [List.mem_cons, List.not_mem_nil, or_false, not_or]; omega), tf c (by simp only [List.mem_cons, List.not_mem_nil, or_false, not_or]; omega)]
  have qr : ∀ c, c ≤ 27 → q.2 c = ρ c := by
    intro c hc
    rw [q1 c (by simp only [List.mem_cons, List.not_mem_nil, or_false, not_or]; omega), hτ c (by omega)]
  have q26 : q.2 6 1 = σ 6 1 := by rw [qr 6 (by decide)]; exact f2 1 (by decide) (by decide)
  have qW : q.2 6 5 = (W : Nat) := by rw [qr 6 (by decide)]; exact hW.1
  refine ⟨⟨?_, ?_, fun z => ?_⟩, ⟨gi_C_eq tC (q1 1 (by decide)) (q1 2 (by decide)) (q1 3 (by decide)) (q1 4 (by decide)) (q1 5 (by decide)), gi_M_eq tM (q1 1 (by decide)) (q1 2 (by decide)) (q1 3 (by decide)) (q1 4 (by decide)) (q1 5 (by decide)) (q2 1 (by decide) (by decide) (by decide) (by decide) (by decide) (by decide)) (q2 2 (by decide) (by decide) (by decide) (by decide) (by decide) (by decide)) (q1 30 (by decide)) (q1 31 (by decide)) (q1 32 (by decide)) (q1 33 (by decide)), gi_T_eq i3 q26 (qf 7 (by decide)) (qf 34 (by decide)) (q29 8 (by decide) (by decide) (by decide) (by decide) (by decide) (by decide)), ⟨W, qW, W30, q3, fun i hi => ?_, ?_⟩, ⟨?_, ?_, ?_, ?_⟩, gi_O_eq i6 (qf 26 (by decide)) (qf 27 (by decide)) (qf 49 (by decide)) (q29 28 (by decide) (by decide) (by decide) (by decide) (by decide) (by decide)), ?_⟩, q1 28 (by decide)⟩
  · by_cases z : ρ 0 5 = 0
    · rw [← u3 z]; exact hvR
    · rw [(q7 (by rw [← u1]; exact z)).2]; decide
  · by_cases z : ρ 0 5 = 0
    · rw [q6 (by rw [← u1]; exact z), (h0 z).1]; rfl
    · rw [(q7 (by rw [← u1]; exact z)).1, (hne z).1]; rfl
  · have : k = 0 := by omega
    by_cases y : ρ 0 5 = 0
    · exact (u3 y).symm
    · have := (hne y).1; omega
  · obtain ⟨a1, a2⟩ := q4 i hi
    obtain ⟨w1, w2, _⟩ := hW.2.2.2 i hi
    obtain ⟨x1, x2, x3, x4, x5⟩ := gw_word hb hW.2.1 hi
    have hp3 := (hW.2.1.2 i hi).2.2.1
    rw [a1, a2, qr 8 (by decide), qr 10 (by decide), hτ 8 (by decide), hτ 10 (by decide)]
    refine ⟨rfl, rfl, ?_, ?_⟩
    · rw [w2]; exact ⟨by omega, by have := hp3.1; have := hp3.2.1; omega⟩
    · rw [w1]; exact x1
  · have hl := gw_len hb hN2 hW.2.1
    rw [ga_sum_congr (g := fun i => (gq_bk (gw_cd b (pl i) (en i - pl i)) 8).length + 1) (fun i hi => ?_)]
    · exact hl
    · rw [qr 8 (by decide), (hW.2.2.2 i hi).1]
  · rw [qr 0 (by decide)]; exact u1.symm
  · rw [qr 0 (by decide)]; exact u2.symm
  · rw [qr 0 (by decide)]; exact h05.1
  · rw [qr 0 (by decide)]; exact h05.2
  · by_cases z : ρ 0 5 = 0 ∧ ga_C (gi_g ρ) 0 0 W = 1
    · obtain ⟨T, t1, t2, t3⟩ := hT1 z
      obtain ⟨m1, m2⟩ := q8 ⟨by rw [← u1]; exact z.1, z.2⟩ T t1
      have e152 : q.2 15 2 = (T : Nat) := by rw [qr 15 (by decide)]; exact t2
      have rC : gi_C ρ := gi_C_eq i1 (f1 1 (by decide)) (f1 2 (by decide)) (f1 3 (by decide)) (f1 4 (by decide)) (f1 5 (by decide))
      refine ⟨by rw [m1, e152], Or.inr ⟨gi_g ρ, W, T, ⟨hg, (h0 z.1).2, W30, z.2, t1⟩, e152, qW, ?_, fun r hr => ?_, fun u hu => ?_, m2, fun i hi e => ?_, fun i hi e => ?_⟩⟩
      · rw [qr 1 (by decide)]; exact gi_gR rC
      · rw [qr 5 (by decide), qr 4 (by decide), qr 2 (by decide)]
        exact ⟨(gi_gl rC hr).1, rfl, fun _ _ => rfl⟩
      · have := t3 u hu
        unfold gn_rd at this ⊢
        rw [qr 16 (by decide), qr 17 (by decide), qr 18 (by decide), qr 19 (by decide), qr 20 (by decide), qr 21 (by decide)]
        exact this
      · rw [qr 8 (by decide)]
        exact (gv_40 (hW.2.2.2 i hi).2.2).1.mpr e
      · rw [qr 8 (by decide)]
        exact (gv_40 (hW.2.2.2 i hi).2.2).2.mpr e
    · have e1 : q.2 15 2 = 0 := by rw [qr 15 (by decide)]; exact hT0 z
      exact ⟨by rw [e1]; exact q9 (fun y => z ⟨by rw [u1]; exact y.1, y.2⟩), Or.inl e1⟩
theorem gi_T0 {g : ga_G} {n T : Nat} (h : gt_ok g n T) : 0 < T := by
  refine Classical.byContradiction (fun y => ?_)
  have e0 : T = 0 := by omega
  have := h.2.2.2.2.1
  rw [e0] at this
  cases this
theorem gi_ml {σ : np_S} (hC : gi_C σ) (hM : gi_M σ) (hW : gi_W σ) {g : ga_G} {n T : Nat} (h : gi_NT σ g n T) : gq_ml g n T (fun i => σ 8 (i : Int)) σ ∧ gq_cl g n T (fun i => σ 8 (i : Int)) σ := by
  obtain ⟨n1, n2, n3, n4, n5, n6, n7, n8, n9⟩ := h
  obtain ⟨m1, m2, m3, m4, m5⟩ := hM
  obtain ⟨nn, w1, w2, w3, w4, _⟩ := hW
  have en : nn = n := by omega
  subst en
  have R2 := n1.1.2.1
  refine ⟨⟨n7, fun k hk => ?_, fun i hi => (w4 i hi).1⟩, n6, fun r hr => (n5 r hr).2.1, n2, n3, fun i _ => rfl⟩
  have e2 : (k : Int) + 2 = ((k + 2 : Nat) : Int) := by omega
  obtain ⟨p1, p2, p3⟩ := n5 (k + 2) hk
  have a := m4 (k : Int) (by omega) (by omega)
  rw [e2] at a
  refine ⟨by rw [a.1]; exact p1, by rw [a.2]; exact p2, fun p hp => ?_⟩
  have c := (m3 (k : Int) (p : Int) (by omega) (by omega) (by omega) (by rw [e2]; omega)).1
  rw [e2, p3 p hp] at c
  rw [← c]; congr 1
theorem gk_print {σ : np_S} (hI : gi_I σ) : gl_ok2 (f_L_print σ) f_M_print := by
  obtain ⟨i1, i2, i3, i4, i5, i6, i7⟩ := id hI
  refine gl_w2 ?_
  rcases i7.2 with z | ⟨g, n, T, hNT⟩
  · unfold f_N_print
    refine np_W_ck (by rw [z]; decide) ?_
    refine np_W_if (fun y => absurd z y) (fun _ => np_W_some (Or.inr ⟨rfl, by dsimp only; decide, fun τ hτ => ?_⟩))
    have hτ : gl_28 τ σ := hτ
    have t18 : τ 29 18 = 0 := by rw [hτ 29 (by decide), i7.1]; exact z
    unfold f_M_print f_M_print_13
    refine np_W_ck (by rw [t18]; decide) ?_
    refine np_W_if (fun y => absurd t18 y) (fun _ => ?_)
    refine np_W_ck (by rw [np_st_s]; decide) ?_
    refine np_W_if (fun y => absurd y (by rw [np_st_s]; decide)) (fun _ => np_W_some ⟨⟨by dsimp only; decide, by dsimp only; rw [np_st_s], fun y => absurd y (by decide)⟩, gi_I_0 hI (fun c hc => ?_) (fun j hj => ?_), by dsimp only; rw [np_st_o _ _ _ (show 28 ≠ 29 by decide)]⟩)
    · simp only [List.mem_cons, List.not_mem_nil, or_false, not_or] at hc
      dsimp only
      rw [np_st_o _ _ _ hc.2, hτ c hc.1]
    · dsimp only
      rw [np_st_n _ _ _ hj, hτ 29 (by decide)]
  · have hok := hNT.1
    have hT0 := gi_T0 hok
    obtain ⟨hml, hcl⟩ := gi_ml i1 i2 i4 hNT
    obtain ⟨nn, w1, w2, w3, w4, w5⟩ := id i4
    have en : nn = n := by have := hNT.2.2.1; omega
    subst en
    refine np_W_mono (gq_cprint hok hcl hT0 (fun i hi k hk => (w4 i hi).2.2.2 k hk) w5) (fun o ho => ?_)
    obtain ⟨k, v, ρ⟩ := o
    obtain ⟨k0, m, hm, f1, ev, hoc, hlen⟩ := ho
    dsimp only at k0 f1 ev hoc ⊢
    refine Or.inl ⟨k0, ?_, fun τ hτ => ?_⟩
    · dsimp only
      rw [ev, hoc.1]; exact ⟨by omega, by omega⟩
    have hτ : gl_28 τ ρ := hτ
    have tf : ∀ c, c ∉ [26, 27, 28] → τ c = σ c := by
      intro c hc
      simp only [List.mem_cons, List.not_mem_nil, or_false, not_or] at hc
      rw [hτ c hc.2.2, f1 c (by simp only [List.mem_cons, List.not_mem_nil, or_false, not_or]; exact ⟨hc.1, hc.2.1⟩)]
    have tml := gq_ml_fr hml (cs := [26, 27, 28]) tf (by decide)
    refine np_W_mono (gq_mprint hok hm hNT.2.2.2.2.2.2.2.1 hNT.2.2.2.2.2.2.2.2 tml (by rw [tf 29 (by decide), i7.1]; exact hNT.2.1)) (fun q hq => ?_)
    obtain ⟨q1, q2, q3, q4, q5⟩ := hq
    have qf : ∀ c, c ∉ [26, 27, 28, 29, 49, 50] → q.2 c = σ c := by
      intro c hc
      simp only [List.mem_cons, List.not_mem_nil, or_false, not_or] at hc
      rw [q1 c (by simp only [List.mem_cons, List.not_mem_nil, or_false, not_or]; exact ⟨hc.2.2.2.1, hc.2.2.2.2.1, hc.2.2.2.2.2⟩), tf c (by simp only [List.mem_cons, List.not_mem_nil, or_false, not_or]; exact ⟨hc.1, hc.2.1, hc.2.2.1⟩)]
    have q29 : ∀ j, j ≠ 0 → j ≠ 27 → j ≠ 28 → q.2 29 j = σ 29 j := fun j a b c => by rw [q2 j a b c, tf 29 (by decide)]
    have q26 : q.2 26 = ρ 26 := by rw [q1 26 (by decide), hτ 26 (by decide)]
    have q27 : q.2 27 = ρ 27 := by rw [q1 27 (by decide), hτ 27 (by decide)]
    refine ⟨⟨?_, q3, fun _ => ?_⟩, ⟨gi_C_eq i1 (qf 1 (by decide)) (qf 2 (by decide)) (qf 3 (by decide)) (qf 4 (by decide)) (qf 5 (by decide)), gi_M_eq i2 (qf 1 (by decide)) (qf 2 (by decide)) (qf 3 (by decide)) (qf 4 (by decide)) (qf 5 (by decide)) (q29 1 (by decide) (by decide) (by decide)) (q29 2 (by decide) (by decide) (by decide)) (qf 30 (by decide)) (qf 31 (by decide)) (qf 32 (by decide)) (qf 33 (by decide)), gi_T_eq i3 (by rw [qf 6 (by decide)]) (qf 7 (by decide)) (qf 34 (by decide)) (q29 8 (by decide) (by decide) (by decide)), gi_W_eq i4 (by rw [qf 6 (by decide)]) (q29 11 (by decide) (by decide) (by decide)) (qf 8 (by decide)) (qf 10 (by decide)) (qf 35 (by decide)) (qf 36 (by decide)), gi_F_eq i5 (qf 0 (by decide)) (q29 9 (by decide) (by decide) (by decide)) (q29 10 (by decide) (by decide) (by decide)), ⟨?_, ?_, ?_, fun i a b => ?_⟩, gi_N_eq i7 i1.1 (q29 18 (by decide) (by decide) (by decide)) (by rw [qf 15 (by decide)]) (by rw [qf 6 (by decide)]) (by rw [qf 1 (by decide)]) (qf 4 (by decide)) (qf 5 (by decide)) (qf 8 (by decide)) (qf 16 (by decide)) (qf 17 (by decide)) (qf 18 (by decide)) (qf 19 (by decide)) (qf 20 (by decide)) (qf 21 (by decide)) (qf 41 (by decide)) (qf 42 (by decide)) (qf 43 (by decide)) (qf 44 (by decide)) (fun j _ => by rw [qf 2 (by decide)])⟩, q1 28 (by decide)⟩
    · rw [q4, q5.1]; exact ⟨by omega, by omega⟩
    · rw [q4, q5.1, ev, hoc.1]
    · rw [q26, hoc.1]; omega
    · rw [q26, hoc.1]; omega
    · rw [q26, hoc.1, q5.1]
    · rw [q26, hoc.1] at b
      have ei : i = ((i.toNat : Nat) : Int) := by omega
      have a1 := hoc.2 i.toNat (by omega)
      have a2 := q5.2 i.toNat (by omega)
      rw [← ei] at a1 a2
      rw [q27, a1, a2]
      refine ⟨rfl, ?_⟩
      -- bytes are small
      have hby : ∀ (P : List Int), (∀ w, w ∈ P → ∀ k, k < 8 → gb_by w k < 256) → ∀ O : List Int, (∀ x, x ∈ O → np_R x) → ∀ x, x ∈ P.foldl gq_em O → np_R x := by
        intro P
        induction P with
        | nil => intro _ O hO x hx; exact hO x hx
        | cons w P ih =>
          intro hP O hO x hx
          refine ih (fun w2 hw2 => hP w2 (List.mem_cons_of_mem _ hw2)) (gq_em O w) (fun y hy => ?_) x hx
          unfold gq_em at hy
          rcases List.mem_append.mp hy with hy | hy
          · rcases List.mem_append.mp hy with hy | hy
            · exact hO y hy
            · split at hy
              · cases hy
              · rw [List.mem_singleton.mp hy]; decide
          · have hbk : ∀ kk, ∀ y, y ∈ gq_bk w kk → np_R y := by
              intro kk
              induction kk with
              | zero => intro y hy; cases hy
              | succ kk ih2 =>
                intro y hy
                rcases List.mem_append.mp hy with hy | hy
                · split at hy
                  · cases hy
                  · rw [List.mem_singleton.mp hy]
                    have := gb_by_r w kk
                    exact ⟨by omega, by omega⟩
                · exact ih2 y hy
            exact hbk 8 y hy
      have hmem : ((gq_F m (fun i => σ 8 (i : Int)) 0 nn).foldl gq_em []).getD i.toNat 0 ∈ (gq_F m (fun i => σ 8 (i : Int)) 0 nn).foldl gq_em [] := by
        rw [List.getD_eq_getElem?_getD, List.getElem?_eq_getElem (by omega)]
        exact List.getElem_mem _
      exact hby _ (fun w _ k hk => (gb_by_r w k).2) [] (fun x hx => by cases hx) _ hmem
