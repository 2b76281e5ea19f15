/-! the reference grows its tree: grow -/
section
variable {g : ga_G} {n : Nat}
noncomputable def gn_rm (g : ga_G) (a : gn_sl) (t : Nat) (σ : np_S) : Prop := σ 41 (t : Int) = (gn_rs g a : Int) - 2 ∧ σ 42 (t : Int) = a.2.1 ∧ σ 43 (t : Int) = (a.2.2.1 : Int) - a.2.1 ∧ σ 44 (t : Int) = a.2.2.2
def gn_m5 (σ : np_S) : np_S := np_st (np_st (np_st (np_st (np_st σ 29 27 (σ 29 27 - 1)) 29 18 (σ 29 18 + 1)) 42 (σ 29 18) (σ 46 (σ 29 27 - 1))) 43 (σ 29 18) (σ 47 (σ 29 27 - 1) - σ 46 (σ 29 27 - 1))) 44 (σ 29 18) (σ 48 (σ 29 27 - 1))
theorem gn_kd0 (hp : gx_p g) (hn : n ≤ 30) {a : gn_sl} (ha : gn_ok g n a) (t : Nat) (h0 : gn_rs g a = 0) : gn_kd g a t = [(0, a.2.1 + 1, a.2.2.1 - 1, (t : Int))] := by
  have hc := gn_cut hp.1 hn ha
  obtain ⟨b1, b2, b3, b4, b5, b6, b7⟩ := hp.2.2.2.1
  unfold gn_kd
  rw [h0] at hc ⊢
  obtain ⟨c1, c2, _, c4⟩ := hc
  rw [b1] at c2 c4
  have x1 := ((c4 0 (by decide)).2.1 b3).1
  have x3 := ((c4 2 (by decide)).2.1 b5).1
  rw [b1]
  show (if ga_h g 0 (ga_l g 0 - (2 + 1)) = -1 then gn_ks g 0 (gn_xs g a) t 2 else _) = _
  rw [b1, show 3 - (2 + 1) = 0 from rfl, if_pos b3]
  show (if ga_h g 0 (ga_l g 0 - (1 + 1)) = -1 then gn_ks g 0 (gn_xs g a) t 1 else (ga_h g 0 (ga_l g 0 - (1 + 1)), gn_xs g a (ga_l g 0 - (1 + 1)), gn_xs g a (ga_l g 0 - (1 + 1) + 1), (t : Int)) :: gn_ks g 0 (gn_xs g a) t 1) = _
  rw [b1, show 3 - (1 + 1) = 1 from rfl, b4, if_neg (by decide)]
  have e : gn_ks g 0 (gn_xs g a) (t : Int) 1 = [] := by
    show (if ga_h g 0 (ga_l g 0 - (0 + 1)) = -1 then gn_ks g 0 (gn_xs g a) t 0 else _) = _
    rw [b1, show 3 - (0 + 1) = 2 from rfl, if_pos b5]; rfl
  rw [e, show gn_xs g a 1 = a.2.1 + 1 by rw [x1, c1], show gn_xs g a (1 + 1) = a.2.2.1 - 1 by show gn_xs g a 2 = _; have : gn_xs g a 3 = gn_xs g a 2 + 1 := x3; omega]
theorem gn_kd1 (hp : gx_p g) {a : gn_sl} (t : Nat) (h1 : gn_rs g a = 1) : gn_kd g a t = [] := by
  obtain ⟨b1, b2, b3, b4⟩ := hp.2.2.2.2.1
  unfold gn_kd
  rw [h1, b1]
  show (if ga_h g 1 (ga_l g 1 - (0 + 1)) = -1 then gn_ks g 1 (gn_xs g a) t 0 else _) = _
  rw [b1, show 1 - (0 + 1) = 0 from rfl, if_pos b3]; rfl
theorem gn_mgr {T : Nat} (hT : gn_end g n T) (hn : n ≤ 30) : ∀ (f t : Nat) (σ : np_S), t ≤ T → T - t < f → gn_menv g n σ → gn_inv g n t → gn_stm σ (gn_S g n t) → σ 29 27 = ((gn_S g n t).length : Nat) → σ 29 18 = t → (∀ u, u < t → gn_rm g (gn_hd g n u) u σ) → np_W (f_M_grow_16 f σ) (fun o => gx_fr [29, 41, 42, 43, 44, 45, 46, 47, 48] σ o.2 ∧ (∀ j, j ≠ 18 → j ≠ 27 → o.2 29 j = σ 29 j) ∧ o.2 29 18 = T ∧ ∀ u, u < T → gn_rm g (gn_hd g n u) u o.2) := by
  intro f
  induction f with
  | zero => intro t σ _ h; omega
  | succ f ih =>
    intro t σ htT hf henv hinv hst hw h18 hrm
    obtain ⟨hM, hd⟩ := id henv
    have hgp := hM.1
    have R14 := hgp.2.2.1
    show np_W (f_M_grow_16_b _ σ) _
    unfold f_M_grow_16_b
    cases hs : gn_S g n t with
    | nil =>
      have etT : t = T := by
        refine Classical.byContradiction (fun z => ?_)
        exact hT.2.1 t (by omega) hs
      rw [hs] at hw
      have hw : σ 29 27 = 0 := hw
      refine np_W_ck ⟨by omega, by omega⟩ ?_
      refine np_W_if (fun _ => np_W_some ⟨gx_fr_refl _ _, fun _ _ _ => rfl, by dsimp only; rw [h18, etT], fun u hu => hrm u (by omega)⟩) (fun z => by omega)
    | cons a s =>
      obtain ⟨hinv2, htlt⟩ := gn_inv_s hgp.1 hn hinv (by rw [hs]; exact List.cons_ne_nil _ _)
      have htT2 : t < T := by
        refine Classical.byContradiction (fun z => ?_)
        have : t = T := by omega
        rw [this, hT.1] at hs
        cases hs
      rw [hs] at hst hw
      have hw : σ 29 27 = ((s.length + 1 : Nat) : Int) := hw
      have e1 : gn_S g n (t + 1) = gn_kd g a t ++ s := by
        show gn_nx g t (gn_S g n t) = _
        rw [hs]; rfl
      have ha := hinv.1 a (by rw [hs]; exact List.mem_cons_self)
      have hls : (gn_S g n t).length ≤ 30 := by
        have := gn_wd_pos hinv.1
        have := hinv.2.1 (by rw [hs]; exact List.cons_ne_nil _ _)
        omega
      rw [hs] at hls
      have hls : s.length + 1 ≤ 30 := hls
      have hb : (gn_kd g a t ++ s).length < 80 := by
        rw [← e1]
        have hp := gn_wd_pos hinv2.1
        by_cases z : gn_S g n (t + 1) = []
        · rw [z]; decide
        · have := hinv2.2.1 z
          omega
      obtain ⟨r1, r2, r3, r4⟩ := gn_rule hgp.1 hn ha
      obtain ⟨⟨q1, q2, q3, q4⟩, hst2⟩ := id hst
      have hT30 : T ≤ 30 := Nat.le_trans hT.2.2 hn
      have c27 : (0 : Int) ≤ σ 29 27 - 1 ∧ σ 29 27 - 1 < 80 := ⟨by omega, by omega⟩
      have c18 : (0 : Int) ≤ σ 29 18 ∧ σ 29 18 < 40 := ⟨by omega, by omega⟩
      refine np_W_ck ⟨by omega, by omega⟩ ?_
      refine np_W_if (fun z => by omega) (fun _ => ?_)
      refine np_W_ck (show (0 : Int) ≤ σ 29 27 - 1 ∧ σ 29 27 - 1 < 80 from c27) ?_
      refine np_W_ck (show (0 : Int) ≤ σ 29 18 ∧ σ 29 18 < 40 from c18) ?_
      refine np_W_ck (show (0 : Int) ≤ σ 29 27 - 1 ∧ σ 29 27 - 1 < 80 from c27) ?_
      refine np_W_ck (show (0 : Int) ≤ σ 29 27 - 1 ∧ σ 29 27 - 1 < 80 from c27) ?_
      refine np_W_ck (show (0 : Int) ≤ σ 29 18 ∧ σ 29 18 < 40 from c18) ?_
      refine np_W_ck (show (0 : Int) ≤ σ 29 27 - 1 ∧ σ 29 27 - 1 < 80 from c27) ?_
      refine np_W_ck (show (0 : Int) ≤ σ 29 18 ∧ σ 29 18 < 40 from c18) ?_
      refine np_W_ck (show (0 : Int) ≤ σ 29 27 - 1 ∧ σ 29 27 - 1 < 80 from c27) ?_
      refine np_W_ck (show (0 : Int) ≤ σ 29 18 ∧ σ 29 18 < 40 from c18) ?_
      refine np_W_ck (show (0 : Int) ≤ σ 29 27 - 1 ∧ σ 29 27 - 1 < 80 from c27) ?_
      have eh : σ 29 27 - 1 = (s.length : Nat) := by omega
      have m46 : σ 46 (σ 29 27 - 1) = a.2.1 := by rw [eh]; exact q2
      have m47 : σ 47 (σ 29 27 - 1) = a.2.2.1 := by rw [eh]; exact q3
      have m48 : σ 48 (σ 29 27 - 1) = a.2.2.2 := by rw [eh]; exact q4
      have m45 : σ 45 (σ 29 27 - 1) = a.1 := by rw [eh]; exact q1
      have g42 : ∀ u : Int, gn_m5 σ 42 u = if u = t then (a.2.1 : Int) else σ 42 u := by
        intro u
        unfold gn_m5
        rw [np_st_o _ _ _ (by decide), np_st_o _ _ _ (by decide), np_st_rd, if_pos rfl, np_st_o _ _ _ (by decide), np_st_o _ _ _ (by decide), m46, h18]
      have g43 : ∀ u : Int, gn_m5 σ 43 u = if u = t then (a.2.2.1 : Int) - a.2.1 else σ 43 u := by
        intro u
        unfold gn_m5
        rw [np_st_o _ _ _ (by decide), np_st_rd, if_pos rfl, np_st_o _ _ _ (by decide), np_st_o _ _ _ (by decide), np_st_o _ _ _ (by decide), m46, m47, h18]
      have g44 : ∀ u : Int, gn_m5 σ 44 u = if u = t then a.2.2.2 else σ 44 u := by
        intro u
        unfold gn_m5
        rw [np_st_rd, if_pos rfl, np_st_o _ _ _ (by decide), np_st_o _ _ _ (by decide), np_st_o _ _ _ (by decide), np_st_o _ _ _ (by decide), m48, h18]
      have g29 : ∀ j : Int, gn_m5 σ 29 j = if j = 18 then (t : Int) + 1 else if j = 27 then (s.length : Nat) else σ 29 j := by
        intro j
        unfold gn_m5
        rw [np_st_o _ _ _ (by decide), np_st_o _ _ _ (by decide), np_st_o _ _ _ (by decide), np_st_rd, if_pos rfl, np_st_rd, if_pos rfl, h18, eh]
      have fr5 : gx_fr [29, 42, 43, 44] σ (gn_m5 σ) := by
        intro k hk
        simp only [List.mem_cons, List.not_mem_nil, or_false, not_or] at hk
        unfold gn_m5
        rw [np_st_o _ _ _ hk.2.2.2, np_st_o _ _ _ hk.2.2.1, np_st_o _ _ _ hk.2.1, np_st_o _ _ _ hk.1, np_st_o _ _ _ hk.1]
      have henv5 : gn_menv g n (gn_m5 σ) := gn_menv_fr henv fr5 (by decide) (fun j j1 j2 => by rw [g29, if_neg j1, if_neg j2])
      show np_W ((f_M_kindOf (σ 45 (σ 29 27 - 1)) (gn_m5 σ 42 (σ 29 18)) (σ 47 (σ 29 27 - 1)) (gn_m5 σ)).bind _) _
      rw [m45, m47, h18, g42, if_pos rfl]
      refine np_W_seq (gn_ko henv5 ha) (fun o ho => ?_)
      obtain ⟨v, τ⟩ := o
      obtain ⟨e, hv⟩ := ho
      dsimp only at e hv
      subst e hv
      -- the store with the kind in it
      have g41 : ∀ u : Int, np_st (gn_m5 σ) 41 (t : Int) ((gn_rs g a : Int) - 2) 41 u = if u = t then (gn_rs g a : Int) - 2 else σ 41 u := by
        intro u
        rw [np_st_rd, if_pos rfl, fr5 41 (by decide)]
      have fr6 : gx_fr [29, 41, 42, 43, 44] σ (np_st (gn_m5 σ) 41 (t : Int) ((gn_rs g a : Int) - 2)) := gx_fr_trans (gx_fr_mono fr5 (by simp)) (gx_fr_mono (gx_fr_st _ _ _ _) (by simp))
      have k29 : ∀ j, np_st (gn_m5 σ) 41 (t : Int) ((gn_rs g a : Int) - 2) 29 j = gn_m5 σ 29 j := fun j => by rw [np_st_o _ _ _ (by decide)]
      have k42 : ∀ j, np_st (gn_m5 σ) 41 (t : Int) ((gn_rs g a : Int) - 2) 42 j = gn_m5 σ 42 j := fun j => by rw [np_st_o _ _ _ (by decide)]
      have k43 : ∀ j, np_st (gn_m5 σ) 41 (t : Int) ((gn_rs g a : Int) - 2) 43 j = gn_m5 σ 43 j := fun j => by rw [np_st_o _ _ _ (by decide)]
      have k44 : ∀ j, np_st (gn_m5 σ) 41 (t : Int) ((gn_rs g a : Int) - 2) 44 j = gn_m5 σ 44 j := fun j => by rw [np_st_o _ _ _ (by decide)]
      have henv6 : gn_menv g n (np_st (gn_m5 σ) 41 (t : Int) ((gn_rs g a : Int) - 2)) := gn_menv_fr henv5 (gx_fr_st _ 41 _ _) (by decide) (fun j _ _ => k29 j)
      have hst6 : gn_stm (np_st (gn_m5 σ) 41 (t : Int) ((gn_rs g a : Int) - 2)) s := gn_stm_congr s (fun i hi => ⟨by rw [fr6 45 (by decide)], by rw [fr6 46 (by decide)], by rw [fr6 47 (by decide)], by rw [fr6 48 (by decide)]⟩) hst2
      have hw6 : np_st (gn_m5 σ) 41 (t : Int) ((gn_rs g a : Int) - 2) 29 27 = (s.length : Nat) := by rw [k29, g29, if_neg (by decide), if_pos rfl]
      -- what is left: go on with the next node
      have fin : ∀ ρ : np_S, gx_fr [29, 45, 46, 47, 48] (np_st (gn_m5 σ) 41 (t : Int) ((gn_rs g a : Int) - 2)) ρ → (∀ j, j ≠ 27 → ρ 29 j = np_st (gn_m5 σ) 41 (t : Int) ((gn_rs g a : Int) - 2) 29 j) → gn_stm ρ (gn_kd g a t ++ s) → ρ 29 27 = ((gn_kd g a t ++ s).length : Nat) → np_W (f_M_grow_16 f ρ) (fun o => gx_fr [29, 41, 42, 43, 44, 45, 46, 47, 48] σ o.2 ∧ (∀ j, j ≠ 18 → j ≠ 27 → o.2 29 j = σ 29 j) ∧ o.2 29 18 = T ∧ ∀ u, u < T → gn_rm g (gn_hd g n u) u o.2) := by
        intro ρ f1 f2 f3 f4
        have fA : gx_fr [29, 41, 42, 43, 44, 45, 46, 47, 48] σ ρ := gx_fr_trans (gx_fr_mono fr6 (by simp)) (gx_fr_mono f1 (by simp))
        have f29 : ∀ j, j ≠ 18 → j ≠ 27 → ρ 29 j = σ 29 j := fun j j1 j2 => by rw [f2 j j2, k29, g29, if_neg j1, if_neg j2]
        refine np_W_mono (ih (t + 1) ρ (by omega) (by omega) (gn_menv_fr henv fA (by decide) f29) hinv2 (by rw [e1]; exact f3) (by rw [e1]; exact f4) (by rw [f2 18 (by decide), k29, g29, if_pos rfl]; omega) (fun u hu => ?_)) (fun o ho => ⟨gx_fr_trans fA ho.1, fun j j1 j2 => (ho.2.1 j j1 j2).trans (f29 j j1 j2), ho.2.2⟩)
        unfold gn_rm
        rw [f1 41 (by decide), f1 42 (by decide), f1 43 (by decide), f1 44 (by decide), g41, k42, k43, k44, g42, g43, g44]
        by_cases z : u = t
        · subst z
          rw [if_pos rfl, if_pos rfl, if_pos rfl, if_pos rfl, gn_hd_eq hs]
          exact ⟨rfl, rfl, rfl, rfl⟩
        · rw [if_neg (by omega), if_neg (by omega), if_neg (by omega), if_neg (by omega)]
          exact hrm u (by omega)
      have g177 : ∀ ρ : np_S, ρ 41 (t : Int) = (gn_rs g a : Int) - 2 → (gn_rs g a < 2 → np_W (f_M_grow_16 f ρ) (fun o => gx_fr [29, 41, 42, 43, 44, 45, 46, 47, 48] σ o.2 ∧ (∀ j, j ≠ 18 → j ≠ 27 → o.2 29 j = σ 29 j) ∧ o.2 29 18 = T ∧ ∀ u, u < T → gn_rm g (gn_hd g n u) u o.2)) → (2 ≤ gn_rs g a → np_W ((f_M_fillHoles t ρ).bind (fun o1 => f_M_grow_16 f o1.2)) (fun o => gx_fr [29, 41, 42, 43, 44, 45, 46, 47, 48] σ o.2 ∧ (∀ j, j ≠ 18 → j ≠ 27 → o.2 29 j = σ 29 j) ∧ o.2 29 18 = T ∧ ∀ u, u < T → gn_rm g (gn_hd g n u) u o.2)) → np_W (f_M_grow_177 (fun σ => f_M_grow_16 f σ) t ρ) (fun o => gx_fr [29, 41, 42, 43, 44, 45, 46, 47, 48] σ o.2 ∧ (∀ j, j ≠ 18 → j ≠ 27 → o.2 29 j = σ 29 j) ∧ o.2 29 18 = T ∧ ∀ u, u < T → gn_rm g (gn_hd g n u) u o.2) := by
        intro ρ h41 h1 h2
        unfold f_M_grow_177 f_M_grow_191
        refine np_W_ck ⟨by omega, by omega⟩ ?_
        refine np_W_ck (by rw [h41]; exact ⟨by omega, by omega⟩) ?_
        refine np_W_if (fun z => h1 (by rw [h41] at z; omega)) (fun z => h2 (by rw [h41] at z; omega))
      refine np_W_ck (show (0 : Int) ≤ σ 29 18 ∧ σ 29 18 < 40 from c18) ?_
      refine np_W_ck (show (0 : Int) ≤ σ 29 18 ∧ σ 29 18 < 40 from c18) ?_
      have e41 : np_st (gn_m5 σ) 41 (σ 29 18) ((gn_rs g a : Int) - 2) 41 (σ 29 18) = (gn_rs g a : Int) - 2 := np_st_s _ _ _ _
      refine np_W_ck (show np_R (np_st (gn_m5 σ) 41 (σ 29 18) ((gn_rs g a : Int) - 2) 41 (σ 29 18)) ∧ np_R (-2) from ⟨by rw [e41]; exact ⟨by omega, by omega⟩, by decide⟩) ?_
      refine np_W_if (fun z => ?_) (fun z => ?_)
      · have z : np_st (gn_m5 σ) 41 (σ 29 18) ((gn_rs g a : Int) - 2) 41 (σ 29 18) ≠ -2 := z
        rw [e41] at z
        show np_W (f_M_grow_177 (fun σ => f_M_grow_16 f σ) (σ 29 18) (np_st (gn_m5 σ) 41 (σ 29 18) ((gn_rs g a : Int) - 2))) _
        rw [h18]
        refine g177 _ (np_st_s _ _ _ _) (fun y => ?_) (fun y => ?_)
        · have e1' : gn_rs g a = 1 := by omega
          have ek := gn_kd1 hgp (a := a) t e1'
          exact fin _ (gx_fr_refl _ _) (fun _ _ => rfl) (by rw [ek]; exact hst6) (by rw [ek]; exact hw6)
        · obtain ⟨k, hk⟩ : ∃ k, gn_rs g a = k + 2 := ⟨gn_rs g a - 2, by omega⟩
          have hcut := gn_cut hgp.1 hn ha
          have ekk : (gn_rs g a : Int) - 2 = (k : Nat) := by rw [hk]; omega
          unfold f_M_fillHoles
          refine np_W_bind ?_
          refine np_W_ck ⟨by omega, by omega⟩ (np_W_ck ⟨by omega, by omega⟩ (np_W_ck ⟨by omega, by omega⟩ ?_))
          rw [hw6, k42, k43, g42, g43, if_pos rfl, if_pos rfl]
          have e3 : (a.2.1 : Int) + ((a.2.2.1 : Int) - (a.2.1 : Int)) = ((a.2.2.1 : Nat) : Int) := by omega
          have e0 : ((a.2.1 : Nat) : Int) = ((gn_xs g a 0 : Nat) : Int) := by rw [hcut.1]
          rw [e3, e0]
          have := gn_30 ha hk (t := t) (by omega) hb 20000 0 _ (by omega) (by rw [hk] at r1; have := (hgp.1 (k + 2) r1).1; omega) henv6 (by rw [np_st_s]; exact ekk) hst6 hw6
          exact np_W_mono this (fun o ho => fin o.2 ho.1 ho.2.2.1 ho.2.2.2 ho.2.1)
      · have z : ¬ np_st (gn_m5 σ) 41 (σ 29 18) ((gn_rs g a : Int) - 2) 41 (σ 29 18) ≠ -2 := z
        rw [e41] at z
        have e0' : gn_rs g a = 0 := by omega
        refine np_W_ck (show (0 : Int) ≤ σ 29 18 ∧ σ 29 18 < 40 from c18) ?_
        refine np_W_ck (show (0 : Int) ≤ σ 29 18 ∧ σ 29 18 < 40 from c18) ?_
        refine np_W_ck (show (0 : Int) ≤ σ 29 18 ∧ σ 29 18 < 40 from c18) ?_
        show np_W ((f_M_later 0 (np_st (gn_m5 σ) 41 (σ 29 18) ((gn_rs g a : Int) - 2) 42 (σ 29 18) + 1) (np_st (gn_m5 σ) 41 (σ 29 18) ((gn_rs g a : Int) - 2) 42 (σ 29 18) + np_st (gn_m5 σ) 41 (σ 29 18) ((gn_rs g a : Int) - 2) 43 (σ 29 18) - 1) (σ 29 18) (np_st (gn_m5 σ) 41 (σ 29 18) ((gn_rs g a : Int) - 2))).bind (fun o3 => f_M_grow_177 (fun σ => f_M_grow_16 f σ) (σ 29 18) o3.2)) _
        rw [h18, k42, k43, g42, g43, if_pos rfl, if_pos rfl]
        have ek := gn_kd0 hgp hn ha t e0'
        have a12 := ha.2.1
        have e3 : (a.2.1 : Int) + ((a.2.2.1 : Int) - (a.2.1 : Int)) - 1 = ((a.2.2.1 - 1 : Nat) : Int) := by omega
        have e4 : (a.2.1 : Int) + 1 = ((a.2.1 + 1 : Nat) : Int) := by omega
        rw [e3, e4]
        refine np_W_seq (gn_lt hst6 hw6 (by omega) (0, a.2.1 + 1, a.2.2.1 - 1, (t : Int))) (fun o ho => ?_)
        obtain ⟨v, ρ⟩ := o
        obtain ⟨w1, w2, w3, w4⟩ := ho
        dsimp only at w1 w2 w3 w4 ⊢
        refine g177 ρ (by rw [w1 41 (by decide), np_st_s]) (fun _ => ?_) (fun y => by omega)
        exact fin ρ w1 w3 (by rw [ek]; exact w4) (by rw [ek]; exact w2)
theorem gn_mgrow {T : Nat} (hT : gn_end g n T) {σ : np_S} (hn1 : 1 ≤ n) (h1 : ga_C g 0 0 n = 1) (henv : gn_menv g n σ) (h18 : σ 29 18 = 0) : np_W (f_M_grow σ) (fun o => gx_fr [29, 41, 42, 43, 44, 45, 46, 47, 48] σ o.2 ∧ (∀ j, j ≠ 18 → j ≠ 27 → o.2 29 j = σ 29 j) ∧ o.2 29 18 = T ∧ ∀ u, u < T → gn_rm g (gn_hd g n u) u o.2) := by
  unfold f_M_grow
  have n30 := henv.1.2.1
  have e11 : np_st σ 29 27 0 29 11 = (n : Nat) := by rw [np_st_n _ _ _ (by decide)]; exact henv.1.2.2.2.2.2.1
  have fr0 := gx_fr_st σ 29 27 0
  have w27 : np_st σ 29 27 0 29 27 = ((([] : List gn_sl).length : Nat) : Int) := np_st_s _ _ _ _
  rw [e11]
  refine np_W_seq (gn_lt (s := []) (σ := np_st σ 29 27 0) trivial w27 (by decide) (0, 0, n, -1)) (fun o ho => ?_)
  obtain ⟨v, ρ⟩ := o
  obtain ⟨b1, b2, b3, b4⟩ := ho
  dsimp only at b1 b2 b3 b4 ⊢
  have frA : gx_fr [29, 41, 42, 43, 44, 45, 46, 47, 48] σ ρ := gx_fr_trans (gx_fr_mono fr0 (by simp)) (gx_fr_mono b1 (by simp))
  have f29 : ∀ j, j ≠ 18 → j ≠ 27 → ρ 29 j = σ 29 j := fun j j1 j2 => by rw [b3 j j2, np_st_n _ _ _ j2]
  exact np_W_mono (gn_mgr hT n30 20000 0 ρ (by omega) (by have := hT.2.2; omega) (gn_menv_fr henv frA (by decide) f29) (gn_inv_0 h1 hn1) b4 b2 (by rw [b3 18 (by decide), np_st_n _ _ _ (by decide)]; exact h18) (fun u hu => by omega)) (fun o ho => ⟨gx_fr_trans frA ho.1, fun j j1 j2 => (ho.2.1 j j1 j2).trans (f29 j j1 j2), ho.2.2⟩)
end
