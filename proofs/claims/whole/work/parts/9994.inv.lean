/-! the invariant of both sides between calls -/
def gi_W (σ : np_S) : Prop := ∃ n : Nat, σ 6 5 = (n : Nat) ∧ n ≤ 30 ∧ σ 29 11 = (n : Nat) ∧ (∀ i : Nat, i < n → σ 35 (i : Int) = σ 8 (i : Int) ∧ σ 36 (i : Int) = σ 10 (i : Int) ∧ np_R (σ 10 (i : Int)) ∧ ∀ k, k < 8 → gb_by (σ 8 (i : Int)) k < 128) ∧ ga_sum n (fun i => (gq_bk (σ 8 (i : Int)) 8).length + 1) ≤ 230
def gi_NT (σ : np_S) (g : ga_G) (n T : Nat) : Prop := gt_ok g n T ∧ σ 15 2 = (T : Nat) ∧ σ 6 5 = (n : Nat) ∧ σ 1 4 = (ga_R g : Nat) ∧ (∀ r : Nat, r < ga_R g → σ 5 (r : Int) = ga_l g r ∧ σ 4 (r : Int) = ga_v g r ∧ ∀ d : Nat, d < ga_l g r → σ 2 (7 * (r : Int) + (d : Int)) = ga_h g r d) ∧ (∀ u, u < T → gn_rd g (gn_hd g n u) u σ) ∧ (∀ u, u < T → gn_rm g (gn_hd g n u) u σ) ∧ (∀ i : Nat, i < n → ga_t g i = 40 → σ 8 (i : Int) = 40) ∧ (∀ i : Nat, i < n → ga_t g i = 41 → σ 8 (i : Int) = 41)
def gi_N (σ : np_S) : Prop := σ 29 18 = σ 15 2 ∧ (σ 15 2 = 0 ∨ ∃ (g : ga_G) (n T : Nat), gi_NT σ g n T)
def gi_I (σ : np_S) : Prop := gi_C σ ∧ gi_M σ ∧ gi_T σ ∧ gi_W σ ∧ gi_F σ ∧ gi_O σ ∧ gi_N σ
theorem gi_T_eq {σ τ : np_S} (h : gi_T σ) (a : τ 6 1 = σ 6 1) (b : τ 7 = σ 7) (c : τ 34 = σ 34) (d : τ 29 8 = σ 29 8) : gi_T τ := by
  unfold gi_T at *
  rw [a, b, c, d]; exact h
theorem gi_W_eq {σ τ : np_S} (h : gi_W σ) (a : τ 6 5 = σ 6 5) (b : τ 29 11 = σ 29 11) (c : τ 8 = σ 8) (d : τ 10 = σ 10) (e : τ 35 = σ 35) (f : τ 36 = σ 36) : gi_W τ := by
  unfold gi_W at *
  rw [a, b, c, d, e, f]; exact h
theorem gi_F_eq {σ τ : np_S} (h : gi_F σ) (a : τ 0 = σ 0) (b : τ 29 9 = σ 29 9) (c : τ 29 10 = σ 29 10) : gi_F τ := by
  unfold gi_F at *
  rw [a, b, c]; exact h
theorem gi_O_eq {σ τ : np_S} (h : gi_O σ) (a : τ 26 = σ 26) (b : τ 27 = σ 27) (c : τ 49 = σ 49) (d : τ 29 28 = σ 29 28) : gi_O τ := by
  unfold gi_O at *
  rw [a, b, c, d]; exact h
theorem gi_N_eq {σ τ : np_S} (h : gi_N σ) (hC : 2 ≤ σ 1 4 ∧ σ 1 4 ≤ 14) (a : τ 29 18 = σ 29 18) (b : τ 15 2 = σ 15 2) (c : τ 6 5 = σ 6 5) (d : τ 1 4 = σ 1 4) (e4 : τ 4 = σ 4) (e5 : τ 5 = σ 5) (e8 : τ 8 = σ 8) (e16 : τ 16 = σ 16) (e17 : τ 17 = σ 17) (e18 : τ 18 = σ 18) (e19 : τ 19 = σ 19) (e20 : τ 20 = σ 20) (e21 : τ 21 = σ 21) (e41 : τ 41 = σ 41) (e42 : τ 42 = σ 42) (e43 : τ 43 = σ 43) (e44 : τ 44 = σ 44) (e2 : ∀ j, j < 7 * σ 1 4 → τ 2 j = σ 2 j) : gi_N τ := by
  refine ⟨by rw [a, b]; exact h.1, ?_⟩
  rcases h.2 with z | ⟨g, n, T, n1, n2, n3, n4, n5, n6, n7, n8, n9⟩
  · exact Or.inl (by rw [b]; exact z)
  · refine Or.inr ⟨g, n, T, n1, by rw [b]; exact n2, by rw [c]; exact n3, by rw [d]; exact n4, fun r hr => ?_, ?_, ?_, by rw [e8]; exact n8, by rw [e8]; exact n9⟩
    · obtain ⟨p1, p2, p3⟩ := n5 r hr
      refine ⟨by rw [e5]; exact p1, by rw [e4]; exact p2, fun dd hd => ?_⟩
      have hl := (n1.1.1 r hr).1
      rw [e2 _ (by omega)]
      exact p3 dd hd
    · unfold gn_rd at *
      rw [e16, e17, e18, e19, e20, e21]; exact n6
    · unfold gn_rm at *
      rw [e41, e42, e43, e44]; exact n7
/-- what hole, word and a refused notation leave holds the rest -/
theorem gi_I_fr {σ ρ : np_S} (hI : gi_I σ) (hC : gi_C ρ) (hM : gi_M ρ) (h : gl_fr σ ρ) : gi_I ρ := by
  obtain ⟨i1, i2, i3, i4, i5, i6, i7⟩ := hI
  obtain ⟨f1, f2, f3, f4⟩ := h
  exact ⟨hC, hM, gi_T_eq i3 (by rw [f1 6 (by decide)]) (f1 7 (by decide)) (f1 34 (by decide)) (f2 8 (by decide) (by decide)), gi_W_eq i4 (by rw [f1 6 (by decide)]) (f2 11 (by decide) (by decide)) (f1 8 (by decide)) (f1 10 (by decide)) (f1 35 (by decide)) (f1 36 (by decide)), gi_F_eq i5 (f1 0 (by decide)) (f2 9 (by decide) (by decide)) (f2 10 (by decide) (by decide)), gi_O_eq i6 (f1 26 (by decide)) (f1 27 (by decide)) (f1 49 (by decide)) (f2 28 (by decide) (by decide)), gi_N_eq i7 i1.1 (f2 18 (by decide) (by decide)) (by rw [f1 15 (by decide)]) (by rw [f1 6 (by decide)]) f3 (f1 4 (by decide)) (f1 5 (by decide)) (f1 8 (by decide)) (f1 16 (by decide)) (f1 17 (by decide)) (f1 18 (by decide)) (f1 19 (by decide)) (f1 20 (by decide)) (f1 21 (by decide)) (f1 41 (by decide)) (f1 42 (by decide)) (f1 43 (by decide)) (f1 44 (by decide)) (fun j hj => (f4 j hj).1)⟩
theorem gi_I_nf {σ ρ : np_S} (hI : gi_I σ) (hC : gi_C ρ) (hM : gi_M ρ) (h : gl_nf σ ρ) : gi_I ρ := by
  obtain ⟨i1, i2, i3, i4, i5, i6, i7⟩ := hI
  obtain ⟨f1, f2, f3, f4⟩ := h
  exact ⟨hC, hM, gi_T_eq i3 (by rw [f1 6 (by decide)]) (f1 7 (by decide)) (f1 34 (by decide)) (f2 8 (by decide) (by decide) (by decide) (by decide)), gi_W_eq i4 (by rw [f1 6 (by decide)]) (f2 11 (by decide) (by decide) (by decide) (by decide)) (f1 8 (by decide)) (f1 10 (by decide)) (f1 35 (by decide)) (f1 36 (by decide)), gi_F_eq i5 (f1 0 (by decide)) (f2 9 (by decide) (by decide) (by decide) (by decide)) (f2 10 (by decide) (by decide) (by decide) (by decide)), gi_O_eq i6 (f1 26 (by decide)) (f1 27 (by decide)) (f1 49 (by decide)) (f2 28 (by decide) (by decide) (by decide) (by decide)), by rw [f3, f4], Or.inl f4⟩
theorem gi_I_0 {σ : np_S} (hI : gi_I σ) {ρ : np_S} (h1 : gx_fr [28, 29] σ ρ) (h2 : ∀ j, j ≠ 0 → ρ 29 j = σ 29 j) : gi_I ρ := by
  obtain ⟨i1, i2, i3, i4, i5, i6, i7⟩ := id hI
  have hC := gi_C_eq i1 (h1 1 (by decide)) (h1 2 (by decide)) (h1 3 (by decide)) (h1 4 (by decide)) (h1 5 (by decide))
  have hM := gi_M_eq i2 (h1 1 (by decide)) (h1 2 (by decide)) (h1 3 (by decide)) (h1 4 (by decide)) (h1 5 (by decide)) (h2 1 (by decide)) (h2 2 (by decide)) (h1 30 (by decide)) (h1 31 (by decide)) (h1 32 (by decide)) (h1 33 (by decide))
  refine gi_I_fr hI hC hM ⟨fun k hk => h1 k (fun z => hk ?_), fun j j0 _ => h2 j j0, by rw [h1 1 (by decide)], fun j _ => ⟨by rw [h1 2 (by decide)], by rw [h1 3 (by decide)]⟩⟩
  simp only [List.mem_cons, List.not_mem_nil, or_false] at z ⊢
  omega
theorem gi_I_put {σ ρ : np_S} (hI : gi_I σ) (hT : gi_T ρ) (h : gp_fr σ ρ) : gi_I ρ := by
  obtain ⟨i1, i2, i3, i4, i5, i6, i7⟩ := id hI
  obtain ⟨f1, f2, f3⟩ := h
  exact ⟨gi_C_eq i1 (f1 1 (by decide)) (f1 2 (by decide)) (f1 3 (by decide)) (f1 4 (by decide)) (f1 5 (by decide)), gi_M_eq i2 (f1 1 (by decide)) (f1 2 (by decide)) (f1 3 (by decide)) (f1 4 (by decide)) (f1 5 (by decide)) (f2 1 (by decide) (by decide)) (f2 2 (by decide) (by decide)) (f1 30 (by decide)) (f1 31 (by decide)) (f1 32 (by decide)) (f1 33 (by decide)), hT, gi_W_eq i4 (f3 5 (by decide)) (f2 11 (by decide) (by decide)) (f1 8 (by decide)) (f1 10 (by decide)) (f1 35 (by decide)) (f1 36 (by decide)), gi_F_eq i5 (f1 0 (by decide)) (f2 9 (by decide) (by decide)) (f2 10 (by decide) (by decide)), gi_O_eq i6 (f1 26 (by decide)) (f1 27 (by decide)) (f1 49 (by decide)) (f2 28 (by decide) (by decide)), gi_N_eq i7 i1.1 (f2 18 (by decide) (by decide)) (by rw [f1 15 (by decide)]) (f3 5 (by decide)) (by rw [f1 1 (by decide)]) (f1 4 (by decide)) (f1 5 (by decide)) (f1 8 (by decide)) (f1 16 (by decide)) (f1 17 (by decide)) (f1 18 (by decide)) (f1 19 (by decide)) (f1 20 (by decide)) (f1 21 (by decide)) (f1 41 (by decide)) (f1 42 (by decide)) (f1 43 (by decide)) (f1 44 (by decide)) (fun j _ => by rw [f1 2 (by decide)])⟩
/-- a call that may throw, on both sides -/
def gl_ok2 (X : Option np_O) (Y : np_S → Option np_O) : Prop := np_W X (fun o1 => np_R o1.1 ∧ np_W (Y o1.2) (fun o2 => o2.2 29 0 = o1.1 ∧ np_R o2.1 ∧ (o1.1 = 0 → o2.2 28 0 = o2.1) ∧ gi_I o2.2))
def gl_ok1 (X : Option np_O) (Y : np_S → Option np_O) : Prop := np_W X (fun o1 => np_R o1.1 ∧ np_W (Y o1.2) (fun o2 => o2.1 = o1.1 ∧ gi_I o2.2))
/-- what the class's method has to give -/
def gl_cls (o : np_X) (k : Int) (Y : np_S → Option np_O) : Prop := np_R o.2.1 ∧ ∀ τ, gl_28 τ o.2.2 → np_W (Y τ) (fun q => gl_T k o.2.1 q ∧ gi_I q.2 ∧ q.2 28 = τ 28)
theorem gl_w0 {o : np_X} {Y : np_S → Option np_O} (h : gl_cls o 0 Y) : gl_ok2 (np_ck (np_R o.2.1) (np_ck ((0 : Int) ≤ 0 ∧ (0 : Int) < 1) (some (0, np_st o.2.2 28 0 o.2.1)))) Y := by
  refine np_W_ck h.1 (np_W_ck (by decide) (np_W_some ⟨by dsimp only; decide, ?_⟩))
  dsimp only
  refine np_W_mono (h.2 _ (fun k hk => np_st_o _ _ _ hk)) (fun q hq => ⟨hq.1.2.1, hq.1.1, fun _ => ?_, hq.2.1⟩)
  rw [hq.2.2, np_st_s, hq.1.2.2 rfl]
theorem gl_wk {o : np_X} {k : Int} (hk0 : k ≠ 0) (hk : np_R k) {Y : np_S → Option np_O} (h : gl_cls o k Y) : gl_ok2 (some (k, o.2.2)) Y := by
  refine np_W_some ⟨hk, ?_⟩
  dsimp only
  exact np_W_mono (h.2 _ (fun _ _ => rfl)) (fun q hq => ⟨hq.1.2.1, hq.1.1, fun z => absurd z hk0, hq.2.1⟩)
theorem gl_bind {X : Option np_X} {f : np_X → Option np_O} {Y : np_S → Option np_O} {P : np_X → Prop} (h : np_W X P) (k : ∀ o, P o → gl_ok2 (f o) Y) : gl_ok2 (X.bind f) Y := np_W_seq h k
theorem gl_w3 {X : Option np_X} {Y : np_S → Option np_O} (h : np_W X (fun o => (o.1 = 0 ∨ o.1 = 1 ∨ o.1 = 2) ∧ gl_cls o o.1 Y)) : gl_ok2 (X.bind (fun o1 => if o1.1 = 0 then (np_ck (np_R o1.2.1) (np_ck ((0 : Int) ≤ 0 ∧ (0 : Int) < 1) (some (0, np_st o1.2.2 28 0 o1.2.1)))) else (if o1.1 = 1 then some (1, o1.2.2) else (if o1.1 = 2 then some (2, o1.2.2) else (none))))) Y := by
  refine gl_bind h (fun o ho => ?_)
  obtain ⟨a, c⟩ := ho
  rcases a with e | e | e
  · rw [if_pos e]; rw [e] at c; exact gl_w0 c
  · rw [if_neg (by omega), if_pos e]; rw [e] at c; exact gl_wk (k := 1) (by decide) (by decide) c
  · rw [if_neg (by omega), if_neg (by omega), if_pos e]; rw [e] at c; exact gl_wk (k := 2) (by decide) (by decide) c
theorem gl_w1 {X : Option np_X} {Y : np_S → Option np_O} (h : np_W X (fun o => (o.1 = 0 ∨ o.1 = 1) ∧ gl_cls o o.1 Y)) : gl_ok2 (X.bind (fun o1 => if o1.1 = 0 then (np_ck (np_R o1.2.1) (np_ck ((0 : Int) ≤ 0 ∧ (0 : Int) < 1) (some (0, np_st o1.2.2 28 0 o1.2.1)))) else (if o1.1 = 1 then some (1, o1.2.2) else (none)))) Y := by
  refine gl_bind h (fun o ho => ?_)
  obtain ⟨a, c⟩ := ho
  rcases a with e | e
  · rw [if_pos e]; rw [e] at c; exact gl_w0 c
  · rw [if_neg (by omega), if_pos e]; rw [e] at c; exact gl_wk (k := 1) (by decide) (by decide) c
theorem gl_w2 {X : Option np_X} {Y : np_S → Option np_O} (h : np_W X (fun o => (o.1 = 0 ∧ gl_cls o 0 Y) ∨ (o.1 = 3 ∧ gl_cls o 1 Y))) : gl_ok2 (X.bind (fun o1 => if o1.1 = 0 then (np_ck (np_R o1.2.1) (np_ck ((0 : Int) ≤ 0 ∧ (0 : Int) < 1) (some (0, np_st o1.2.2 28 0 o1.2.1)))) else (if o1.1 = 3 then some (1, o1.2.2) else (none)))) Y := by
  refine gl_bind h (fun o ho => ?_)
  rcases ho with ⟨e, c⟩ | ⟨e, c⟩
  · rw [if_pos e]; exact gl_w0 c
  · rw [if_neg (by omega), if_pos e]; exact gl_wk (k := 1) (by decide) (by decide) c
theorem gk_hole {σ : np_S} (hI : gi_I σ) {x : Int} (hx : np_R x) : gl_ok2 (f_L_hole x σ) (f_M_hole x) :=
  gl_w3 (np_W_mono (gl_hole hI.1 hI.2.1 hx) (fun o ho => ⟨ho.1, ho.2.1, fun τ hτ => np_W_mono (ho.2.2 τ hτ) (fun q hq => ⟨hq.1, gi_I_fr hI hq.2.1 hq.2.2.1 hq.2.2.2.1, hq.2.2.2.2⟩)⟩))
theorem gk_word {σ : np_S} (hI : gi_I σ) {x n : Int} (hx : np_R6 x) (hn : np_R n) : gl_ok2 (f_L_word x n σ) (f_M_word x n) :=
  gl_w3 (np_W_mono (gl_word hI.1 hI.2.1 hx hn) (fun o ho => ⟨ho.1, ho.2.1, fun τ hτ => np_W_mono (ho.2.2 τ hτ) (fun q hq => ⟨hq.1, gi_I_fr hI hq.2.1 hq.2.2.1 hq.2.2.2.1, hq.2.2.2.2⟩)⟩))
theorem gk_notation {σ : np_S} (hI : gi_I σ) {x : Int} (hx : np_R x) : gl_ok2 (f_L_notation x σ) (f_M_notation x) :=
  gl_w3 (np_W_mono (gl_notation hI.1 hI.2.1 hx) (fun o ho => ⟨ho.1, ho.2.1, fun τ hτ => np_W_mono (ho.2.2 τ hτ) (fun q hq => ⟨hq.1, by
    rcases hq.2.2.2.1 with z | z
    · exact gi_I_fr hI hq.2.1 hq.2.2.1 z
    · exact gi_I_nf hI hq.2.1 hq.2.2.1 z, hq.2.2.2.2⟩)⟩))
theorem gk_put {σ : np_S} (hI : gi_I σ) {x n : Int} (hn : np_R n) : gl_ok1 (f_N_put x n σ) (f_M_put x n) :=
  np_W_mono (gl_put hI.2.2.1 hn) (fun o ho => ⟨ho.1, np_W_mono ho.2 (fun q hq => ⟨hq.1, gi_I_put hI hq.2.1 hq.2.2⟩)⟩)
theorem gk_clear {σ : np_S} (hI : gi_I σ) : np_W (f_N_clear σ) (fun o => np_W (f_M_clear o.2) (fun q => gi_I q.2)) :=
  np_W_mono (gl_clear hI.2.2.1) (fun o ho => np_W_mono ho (fun q hq => gi_I_put hI hq.1 hq.2))
theorem gk_q {σ : np_S} (hI : gi_I σ) {X : Option np_O} {Y : np_S → Option np_O} (h : np_W X (fun o => np_R o.1 ∧ np_W (Y o.2) (fun q => q = (o.1, np_st σ 29 0 0)))) : gl_ok1 X Y :=
  np_W_mono h (fun o ho => ⟨ho.1, np_W_mono ho.2 (fun q hq => ⟨by rw [hq], by rw [hq]; exact gi_I_0 hI (gx_fr_mono (gx_fr_st _ _ _ _) (by simp)) (fun j hj => by dsimp only; rw [np_st_n _ _ _ hj])⟩)⟩)
theorem gi_Zz {σ : np_S} (hN : gi_N σ) : gi_Z σ := by
  refine ⟨hN.1, ?_⟩
  rcases hN.2 with z | ⟨g, n, T, h, e, _⟩
  · rw [z]; omega
  · have := Nat.le_trans h.2.2.2.2.2.2 h.2.2.1
    rw [e]; omega
theorem gk_fault {σ : np_S} (hI : gi_I σ) {x : Int} (hx : np_R x) : gl_ok1 (f_N_fault x σ) (f_M_fault x) := gk_q hI (gl_fault hI.2.2.2.2.1 hx)
theorem gk_at {σ : np_S} (hI : gi_I σ) {x : Int} (hx : np_R x) : gl_ok1 (f_N_at x σ) (f_M_at x) := gk_q hI (gl_at hI.2.2.2.2.2.1 hx)
theorem gk_about {σ : np_S} (hI : gi_I σ) {x : Int} (hx : np_R x) : gl_ok1 (f_N_about x σ) (f_M_about x) := gk_q hI (gl_about hI.1 hI.2.1 hI.2.2.1 hI.2.2.2.2.2.1 (gi_Zz hI.2.2.2.2.2.2) hx)
theorem gk_keyq {σ : np_S} (hI : gi_I σ) {x n : Int} (hx : np_R6 x) (hn : np_R n) : gl_ok1 (f_N_isKey x n σ) (f_M_isKey x n) := gk_q hI (gl_isKey hI.1 hI.2.1 hx hn)
