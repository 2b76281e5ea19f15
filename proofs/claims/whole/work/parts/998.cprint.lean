/-! printing: the class -/
section
variable {g : ga_G} {n T : Nat} {cd : Nat → Int}
def gq_cl (g : ga_G) (n T : Nat) (cd : Nat → Int) (σ : np_S) : Prop := (∀ u, u < T → gn_rd g (gn_hd g n u) u σ) ∧ (∀ r : Nat, r < ga_R g → σ 4 (r : Int) = ga_v g r) ∧ σ 15 2 = (T : Nat) ∧ σ 6 5 = (n : Nat) ∧ ∀ i : Nat, i < n → σ 8 (i : Int) = cd i
theorem gq_lw (h : gt_ok g n T) {σ : np_S} (hcl : gq_cl g n T cd σ) {c : Nat} : ∀ (f w : Nat), gq_C g n T w c → c - w < f → np_W (f_Tree_levelWithin_2 f w σ) (fun o => o.2 = σ ∧ o.1 = ga_v g (gn_rs g (gn_hd g n c))) := by
  have hT := Nat.le_trans h.2.2.2.2.2.2 h.2.2.1
  have R14 := h.1.2.2.1
  intro f
  induction f with
  | zero => intro w _ h; omega
  | succ f ih =>
    intro w hc hf
    have hcT := hc.2.1
    have hwc := hc.1
    obtain ⟨h1, h2, h3, h4, h5⟩ := id hcl
    obtain ⟨r1, r2, r3, r4⟩ := gn_rule h.1.1 h.2.2.1 (gt_hd h (t := w) (by omega))
    have m1 := (h1 w (by omega)).1
    show np_W (f_Tree_levelWithin_2_b _ w σ) _
    unfold f_Tree_levelWithin_2_b
    have fin : w = c → np_W (f_Tree_levelWithin_27 w σ) (fun o => o.2 = σ ∧ o.1 = ga_v g (gn_rs g (gn_hd g n c))) := by
      intro e
      subst e
      unfold f_Tree_levelWithin_27
      refine np_W_ck ⟨by omega, by omega⟩ ?_
      refine np_W_ck (by rw [m1]; exact ⟨by omega, by omega⟩) ?_
      refine np_W_some ⟨rfl, ?_⟩
      dsimp only
      rw [m1]; exact h2 _ r1
    have nx : w ≠ c → gn_rs g (gn_hd g n w) = 0 := fun e => hc.2.2.2 w (Nat.le_refl _) (by omega)
    rw [h3]
    refine np_W_ck ⟨⟨by omega, by omega⟩, ⟨by omega, by omega⟩⟩ ?_
    refine np_W_if (fun z => fin ?_) (fun z => ?_)
    · refine Classical.byContradiction (fun e => ?_)
      have := (gt_next h (u := w) (by omega) (nx e)).1
      omega
    refine np_W_ck ⟨by omega, by omega⟩ ?_
    refine np_W_ck (by rw [m1]; exact ⟨by omega, by omega⟩) ?_
    refine np_W_if (fun z2 => fin ?_) (fun z2 => ?_)
    · rw [m1] at z2
      refine Classical.byContradiction (fun e => ?_)
      have := nx e
      omega
    · rw [m1] at z2
      have e0 : gn_rs g (gn_hd g n w) = 0 := by omega
      have hne : w ≠ c := fun y => hc.2.2.1 (by rw [← y]; exact e0)
      have e5 : (w : Int) + 1 = ((w + 1 : Nat) : Int) := by omega
      rw [e5]
      exact ih (w + 1) (gq_up hc (by omega) (by omega)) (by omega)
def gq_nk (g : ga_G) (n T k i : Nat) : Prop := ∃ u c, u < k ∧ u < T ∧ gn_rs g (gn_hd g n u) = 0 ∧ gq_C g n T u c ∧ (gn_hd g n u).1 ≤ ga_v g (gn_rs g (gn_hd g n c)) ∧ (i = (gn_hd g n u).2.1 ∨ i + 1 = (gn_hd g n u).2.2.1)
theorem gq_nbl (h : gt_ok g n T) {σ : np_S} (hcl : gq_cl g n T cd σ) : ∀ (f k : Nat) (x : Int), k ≤ T → T - k < f → gx_bit x (gq_nk g n T k) → np_W (f_Tree_needlessBrackets_4 f x k σ) (fun o => o.2 = σ ∧ gx_bit o.1 (gq_nb g n T)) := by
  have hT := Nat.le_trans h.2.2.2.2.2.2 h.2.2.1
  have hn30 := h.2.2.1
  have R14 := h.1.2.2.1
  obtain ⟨h1, h2, h3, h4, h5⟩ := id hcl
  intro f
  induction f with
  | zero => intro k x _ h; omega
  | succ f ih =>
    intro k x hk hf hx
    show np_W (f_Tree_needlessBrackets_4_b _ x k σ) _
    unfold f_Tree_needlessBrackets_4_b f_Tree_needlessBrackets_64
    rw [h3]
    refine np_W_ck ⟨⟨by omega, by omega⟩, ⟨by omega, by omega⟩⟩ ?_
    refine np_W_if (fun z => np_W_some ⟨rfl, gx_bit_iff hx (fun i => ⟨?_, ?_⟩)⟩) (fun z => ?_)
    · rintro ⟨u, c, _, u1⟩; exact ⟨u, c, u1⟩
    · rintro ⟨u, c, u1, u2⟩; exact ⟨u, c, by omega, u1, u2⟩
    have hkT : k < T := by omega
    have ha := gt_hd h hkT
    have a1 := ha.2.1
    have a2 := ha.2.2.1
    obtain ⟨r1, r2, r3, r4⟩ := gn_rule h.1.1 h.2.2.1 ha
    obtain ⟨m16, m17, m18, m19, m20, m21⟩ := h1 k hkT
    obtain ⟨c, hc⟩ := gq_ex h (T - k) k (by omega) hkT
    have hcT := hc.2.1
    have e5 : (k : Int) + 1 = ((k + 1 : Nat) : Int) := by omega
    rw [e5]
    have skip : ¬ (gn_rs g (gn_hd g n k) = 0 ∧ (gn_hd g n k).1 ≤ ga_v g (gn_rs g (gn_hd g n c))) → np_W (f_Tree_needlessBrackets_4 f x (((k + 1 : Nat)) : Int) σ) (fun o => o.2 = σ ∧ gx_bit o.1 (gq_nb g n T)) := by
      intro hno
      refine ih (k + 1) x (by omega) (by omega) (gx_bit_iff hx (fun i => ⟨?_, ?_⟩))
      · rintro ⟨u, c2, u1, u2⟩; exact ⟨u, c2, by omega, u2⟩
      · rintro ⟨u, c2, u1, u2, u3, u4, u5, u6⟩
        by_cases e : u = k
        · subst e
          rw [gq_uni u4 hc] at u5
          exact absurd ⟨u3, u5⟩ hno
        · exact ⟨u, c2, by omega, u2, u3, u4, u5, u6⟩
    refine np_W_ck ⟨by omega, by omega⟩ ?_
    refine np_W_ck (by rw [m16]; exact ⟨by omega, by omega⟩) ?_
    refine np_W_if (fun z2 => skip (fun y => by rw [m16] at z2; have := y.1; omega)) (fun z2 => ?_)
    rw [m16] at z2
    have h0 : gn_rs g (gn_hd g n k) = 0 := by omega
    unfold f_Tree_levelWithin
    refine np_W_seq (gq_lw h hcl 20000 k hc (by omega)) (fun o ho => ?_)
    obtain ⟨v, τ⟩ := o
    obtain ⟨e, hv⟩ := ho
    dsimp only at e hv ⊢
    subst e hv
    have hvr := (h.1.1 _ (gn_rule h.1.1 h.2.2.1 (gt_hd h hcT)).1).2.1
    have hl := ha.1
    refine np_W_ck ⟨by omega, by omega⟩ ?_
    refine np_W_ck ⟨⟨by omega, by omega⟩, by rw [m21]; exact ⟨by omega, by omega⟩⟩ ?_
    refine np_W_if (fun z3 => skip (fun y => by rw [m21] at z3; have := y.2; omega)) (fun z3 => ?_)
    rw [m21] at z3
    refine np_W_ck ⟨by omega, by omega⟩ (np_W_ck ⟨by omega, by omega⟩ (np_W_ck ⟨by omega, by omega⟩ ?_))
    have e7 : τ 18 (k : Int) + τ 19 (k : Int) - 1 = (((gn_hd g n k).2.2.1 - 1 : Nat) : Int) := by rw [m18, m19]; omega
    rw [e7, m18]
    refine ih (k + 1) _ (by omega) (by omega) (gx_bit_iff (gx_bit_or hx (gx_bit_or (gx_bit_one (j := (gn_hd g n k).2.1) (by omega)) (gx_bit_one (j := (gn_hd g n k).2.2.1 - 1) (by omega)))) (fun i => ⟨?_, ?_⟩))
    · rintro (⟨u, c2, u1, u2⟩ | e | e)
      · exact ⟨u, c2, by omega, u2⟩
      · exact ⟨k, c, by omega, hkT, h0, hc, by omega, Or.inl e⟩
      · exact ⟨k, c, by omega, hkT, h0, hc, by omega, Or.inr (by omega)⟩
    · rintro ⟨u, c2, u1, u2, u3, u4, u5, u6⟩
      by_cases e : u = k
      · subst e
        rcases u6 with q | q
        · exact Or.inr (Or.inl q)
        · exact Or.inr (Or.inr (by omega))
      · exact Or.inl ⟨u, c2, by omega, u2, u3, u4, u5, u6⟩
def gq_oc (σ : np_S) (O : List Int) : Prop := σ 26 1 = (O.length : Nat) ∧ ∀ i : Nat, i < O.length → σ 27 (i : Int) = O.getD i 0
theorem gq_bb {b : Int} (h0 : 0 ≤ b) (h1 : b < 128) : Int.bmod (Int.bmod b 256) 256 = b := by
  rw [Int.bmod_def, Int.bmod_def]
  split <;> split <;> omega
theorem gq_ab {σ : np_S} {O : List Int} (hO : gq_oc σ O) (hl : O.length < 230) {b : Int} (h0 : 0 ≤ b) (h1 : b < 128) : np_W (f_Output_addByte b σ) (fun o => gx_fr [26, 27] σ o.2 ∧ gq_oc o.2 (O ++ [b])) := by
  unfold f_Output_addByte f_Output_addByte_33
  rw [gq_bb h0 h1]
  refine np_W_ck ⟨by rw [hO.1]; exact ⟨by omega, by omega⟩, by decide⟩ ?_
  refine np_W_if (fun z => by rw [hO.1] at z; omega) (fun _ => ?_)
  refine np_W_ck (by rw [hO.1]; exact ⟨by omega, by omega⟩) ?_
  show np_W (some (0, np_st (np_st σ 27 (σ 26 1) b) 26 1 (σ 26 1 + 1))) _
  refine np_W_some ⟨gx_fr_trans (gx_fr_mono (gx_fr_st _ _ _ _) (by simp)) (gx_fr_mono (gx_fr_st _ _ _ _) (by simp)), ?_, fun i hi => ?_⟩
  · dsimp only
    rw [np_st_s, hO.1, List.length_append]; rfl
  · dsimp only
    rw [List.length_append] at hi
    have hi : i < O.length + 1 := hi
    rw [np_st_o _ _ _ (by decide), np_st_rd, if_pos rfl, hO.1]
    by_cases e : i = O.length
    · rw [if_pos (by omega), e, gq_getD_r]
    · rw [if_neg (by omega), gq_getD_l _ _ (by omega)]
      exact hO.2 i (by omega)
theorem gq_wwl (w : Int) (hb : ∀ k, k < 8 → gb_by w k < 128) : ∀ (f k : Nat) (σ : np_S) (O : List Int), k ≤ 8 → k < f → gq_oc σ O → O.length + (gq_bk w k).length ≤ 230 → np_W (f_Output_writeWord_3 f w ((k : Int) - 1) σ) (fun o => gx_fr [26, 27] σ o.2 ∧ gq_oc o.2 (O ++ gq_bk w k)) := by
  intro f
  induction f with
  | zero => intro k σ O _ h; omega
  | succ f ih =>
    intro k σ O hk hf hO hl
    show np_W (f_Output_writeWord_3_b _ w ((k : Int) - 1) σ) _
    unfold f_Output_writeWord_3_b f_Output_writeWord_25
    refine np_W_ck ⟨by omega, by omega⟩ ?_
    cases k with
    | zero =>
      refine np_W_if (fun _ => np_W_some ⟨gx_fr_refl _ _, ?_⟩) (fun z => by omega)
      rw [show gq_bk w 0 = [] from rfl, List.append_nil]; exact hO
    | succ k =>
      have e1 : ((k + 1 : Nat) : Int) - 1 = (k : Int) := by omega
      have e2 : (k : Int) + -1 = (k : Int) - 1 := by omega
      rw [e1, e2, gs_byteOf w (by omega)]
      have hr := gb_by_r w k
      have hbk : gq_bk w (k + 1) = (if gb_by w k = 0 then [] else [gb_by w k]) ++ gq_bk w k := rfl
      refine np_W_if (fun z => by omega) (fun _ => ?_)
      refine np_W_bind (np_W_some ?_)
      dsimp only
      refine np_W_ck ⟨by omega, by omega⟩ ?_
      refine np_W_if (fun z => ?_) (fun z => ?_)
      · rw [if_pos z, List.nil_append] at hbk
        rw [hbk] at hl ⊢
        exact ih k σ O (by omega) (by omega) hO hl
      · rw [if_neg z] at hbk
        rw [hbk, List.length_append] at hl
        have hl : O.length + (1 + (gq_bk w k).length) ≤ 230 := hl
        refine np_W_seq (gq_ab hO (by omega) hr.1 (hb k (by omega))) (fun o ho => ?_)
        obtain ⟨v, ρ⟩ := o
        obtain ⟨b1, b2⟩ := ho
        dsimp only at b1 b2 ⊢
        have hlen : (O ++ [gb_by w k]).length = O.length + 1 := by rw [List.length_append]; rfl
        refine np_W_mono (ih k ρ _ (by omega) (by omega) b2 (by omega)) (fun o ho => ⟨gx_fr_trans b1 ho.1, ?_⟩)
        rw [hbk, ← List.append_assoc]; exact ho.2
theorem gq_F_snoc (m : Nat → Bool) (cd : Nat → Int) (i : Nat) : gq_F m cd 0 (i + 1) = gq_F m cd 0 i ++ (if m i = true then [] else [cd i]) := by
  rw [gq_F_app m cd i 1 0, Nat.zero_add]
  show _ ++ ((if m i = true then [] else [cd i]) ++ []) = _
  rw [List.append_nil]
theorem gq_wl {m : Nat → Bool} {x : Int} (hx : gx_bit x (fun i => m i = true)) (hn : n ≤ 30) (hb : ∀ i, i < n → ∀ k, k < 8 → gb_by (cd i) k < 128) (hsum : ga_sum n (fun i => (gq_bk (cd i) 8).length + 1) ≤ 230) : ∀ (f i : Nat) (σ : np_S), i ≤ n → n - i < f → σ 6 5 = (n : Nat) → (∀ j : Nat, j < n → σ 8 (j : Int) = cd j) → gq_oc σ ((gq_F m cd 0 i).foldl gq_em []) → ((gq_F m cd 0 i).foldl gq_em []).length ≤ ga_sum i (fun i => (gq_bk (cd i) 8).length + 1) → np_W (f_Output_writeWords_7 f x i σ) (fun o => gx_fr [26, 27] σ o.2 ∧ gq_oc o.2 ((gq_F m cd 0 n).foldl gq_em []) ∧ ((gq_F m cd 0 n).foldl gq_em []).length ≤ 230) := by
  have smono : ∀ a b : Nat, a ≤ b → ga_sum a (fun i => (gq_bk (cd i) 8).length + 1) ≤ ga_sum b (fun i => (gq_bk (cd i) 8).length + 1) := by
    intro a b hab
    induction b with
    | zero =>
      have : a = 0 := by omega
      rw [this]; exact Nat.le_refl _
    | succ b ih =>
      by_cases e : a = b + 1
      · rw [e]; exact Nat.le_refl _
      · exact Nat.le_trans (ih (by omega)) (Nat.le_add_right _ _)
  intro f
  induction f with
  | zero => intro i σ _ h; omega
  | succ f ih =>
    intro i σ hi hf h65 h8 hO hl
    show np_W (f_Output_writeWords_7_b _ x i σ) _
    unfold f_Output_writeWords_7_b f_Output_writeWords_46 f_Output_writeWords_36
    rw [h65]
    refine np_W_ck ⟨⟨by omega, by omega⟩, ⟨by omega, by omega⟩⟩ ?_
    refine np_W_if (fun z => ?_) (fun z => ?_)
    · have e : i = n := by omega
      subst e
      exact np_W_some ⟨gx_fr_refl _ _, hO, by omega⟩
    have hin : i < n := by omega
    have ht := gx_bit_test hx (i := i) (by omega)
    have e5 : (i : Int) + 1 = ((i + 1 : Nat) : Int) := by omega
    have hs1 : ga_sum (i + 1) (fun i => (gq_bk (cd i) 8).length + 1) = ga_sum i (fun i => (gq_bk (cd i) 8).length + 1) + ((gq_bk (cd i) 8).length + 1) := rfl
    have hs2 := smono (i + 1) n (by omega)
    rw [e5]
    refine np_W_ck (gs_bo_R ht) ?_
    refine np_W_if (fun y => ?_) (fun y => ?_)
    · have hmi := (gs_bo_1 ht).mp y
      have eF : gq_F m cd 0 (i + 1) = gq_F m cd 0 i := by rw [gq_F_snoc, if_pos hmi, List.append_nil]
      exact ih (i + 1) σ (by omega) (by omega) h65 h8 (by rw [eF]; exact hO) (by rw [eF]; omega)
    · have hmi : ¬ m i = true := fun q => y ((gs_bo_1 ht).mpr q)
      have eF : gq_F m cd 0 (i + 1) = gq_F m cd 0 i ++ [cd i] := by rw [gq_F_snoc, if_neg hmi]
      generalize hOO : (gq_F m cd 0 i).foldl gq_em [] = O at *
      have eO : (gq_F m cd 0 (i + 1)).foldl gq_em [] = gq_em O (cd i) := by
        rw [eF, List.foldl_append, hOO]; rfl
      -- writing the word behind O2
      have wr : ∀ (O2 : List Int) (ρ : np_S), gx_fr [26, 27] σ ρ → gq_oc ρ O2 → O2 ++ gq_bk (cd i) 8 = gq_em O (cd i) → O2.length + (gq_bk (cd i) 8).length ≤ ga_sum (i + 1) (fun i => (gq_bk (cd i) 8).length + 1) → np_W (np_ck ((0 : Int) ≤ (i : Int) ∧ (i : Int) < 30) ((f_Output_writeWord (ρ 8 (i : Int)) ρ).bind (fun o1 => f_Output_writeWords_7 f x (((i + 1 : Nat)) : Int) o1.2))) (fun o => gx_fr [26, 27] σ o.2 ∧ gq_oc o.2 ((gq_F m cd 0 n).foldl gq_em []) ∧ ((gq_F m cd 0 n).foldl gq_em []).length ≤ 230) := by
        intro O2 ρ f1 f2 f3 f4
        refine np_W_ck ⟨by omega, by omega⟩ ?_
        rw [f1 8 (by decide), h8 i hin]
        unfold f_Output_writeWord
        have e7 : (7 : Int) = ((8 : Nat) : Int) - 1 := by decide
        rw [e7]
        refine np_W_seq (gq_wwl (cd i) (hb i hin) 20000 8 ρ O2 (by omega) (by omega) f2 (by omega)) (fun o ho => ?_)
        obtain ⟨v, τ⟩ := o
        obtain ⟨b1, b2⟩ := ho
        dsimp only at b1 b2 ⊢
        have frA := gx_fr_trans f1 b1
        refine np_W_mono (ih (i + 1) τ (by omega) (by omega) (by rw [frA 6 (by decide)]; exact h65) (fun j hj => by rw [frA 8 (by decide)]; exact h8 j hj) (by rw [eO, ← f3]; exact b2) (by rw [eO, ← f3, List.length_append]; exact f4)) (fun o ho => ⟨gx_fr_trans frA ho.1, ho.2⟩)
      refine np_W_ck (by rw [hO.1]; exact ⟨by omega, by omega⟩) ?_
      refine np_W_if (fun z0 => ?_) (fun z0 => ?_)
      · rw [hO.1] at z0
        exact wr O σ (gx_fr_refl _ _) hO (by unfold gq_em; rw [if_pos (by omega), List.append_nil]) (by omega)
      · rw [hO.1] at z0
        refine np_W_seq (gq_ab hO (by omega) (b := 32) (by decide) (by decide)) (fun o ho => ?_)
        obtain ⟨v, τ⟩ := o
        obtain ⟨b1, b2⟩ := ho
        dsimp only at b1 b2 ⊢
        have hlen : (O ++ [(32 : Int)]).length = O.length + 1 := by rw [List.length_append]; rfl
        exact wr _ τ b1 b2 (by unfold gq_em; rw [if_neg (by omega)]) (by omega)
theorem gq_cprint (h : gt_ok g n T) {σ : np_S} (hcl : gq_cl g n T cd σ) (hT1 : 0 < T) (hb : ∀ i, i < n → ∀ k, k < 8 → gb_by (cd i) k < 128) (hsum : ga_sum n (fun i => (gq_bk (cd i) 8).length + 1) ≤ 230) : np_W (f_N_print σ) (fun o => o.1 = 0 ∧ ∃ m : Nat → Bool, (∀ i, m i = true ↔ gq_nb g n T i) ∧ gx_fr [26, 27] σ o.2.2 ∧ o.2.1 = o.2.2 26 1 ∧ gq_oc o.2.2 ((gq_F m cd 0 n).foldl gq_em []) ∧ ((gq_F m cd 0 n).foldl gq_em []).length ≤ 230) := by
  have hT := Nat.le_trans h.2.2.2.2.2.2 h.2.2.1
  obtain ⟨h1, h2, h3, h4, h5⟩ := id hcl
  unfold f_N_print f_Tree_needlessBrackets
  refine np_W_ck (by rw [h3]; exact ⟨by omega, by omega⟩) ?_
  refine np_W_if (fun _ => ?_) (fun z => absurd (by rw [h3]; omega) z)
  have ez : (0 : Int) = ((0 : Nat) : Int) := rfl
  refine np_W_seq (gq_nbl h hcl 20000 0 0 (by omega) (by omega) (gx_bit_iff gx_bit_0 (fun i => ⟨False.elim, fun ⟨u, c, u1, _⟩ => by omega⟩))) (fun o ho => ?_)
  obtain ⟨x, τ⟩ := o
  obtain ⟨e, hx⟩ := ho
  dsimp only at e hx ⊢
  subst e
  obtain ⟨X, ex, X1, X2⟩ := hx
  unfold f_Output_writeWords
  have fr1 := gx_fr_st τ 26 1 0
  refine np_W_seq (gq_wl (m := fun i => X.testBit i) (x := x) ⟨X, ex, X1, fun i => Iff.rfl⟩ h.2.2.1 hb hsum 20000 0 (np_st τ 26 1 0) (by omega) (by have := h.2.2.1; omega) (by rw [fr1 6 (by decide)]; exact h4) (fun j hj => by rw [fr1 8 (by decide)]; exact h5 j hj) ⟨np_st_s _ _ _ _, fun i hi => absurd hi (Nat.not_lt_zero _)⟩ (Nat.zero_le _)) (fun o ho => np_W_some ⟨rfl, fun i => X.testBit i, X2, gx_fr_trans (gx_fr_mono fr1 (by simp)) ho.1, rfl, ho.2⟩)
end
