/-! the class grows its tree: growNode, grow -/
section
variable {g : ga_G} {n : Nat}
noncomputable def gn_rd (g : ga_G) (a : gn_sl) (t : Nat) (σ : np_S) : Prop := σ 16 (t : Int) = gn_rs g a ∧ σ 17 (t : Int) = ((gn_kd g a t).length : Nat) ∧ σ 18 (t : Int) = a.2.1 ∧ σ 19 (t : Int) = (a.2.2.1 : Int) - a.2.1 ∧ σ 20 (t : Int) = a.2.2.2 ∧ σ 21 (t : Int) = a.1
def gn_s5 (r t i j : Int) (σ : np_S) : np_S := np_st (np_st (np_st (np_st (np_st σ 16 t r) 18 t i) 19 t (j - i)) 20 t (σ 25 (σ 15 9))) 21 t (σ 24 (σ 15 9))
theorem gn_gn {L : Nat → Int} {σ : np_S} (henv : gn_env g L n σ) {a : gn_sl} (ha : gn_ok g n a) (hL : L a.2.1 ≤ a.1) {t : Nat} (ht : t < 30) {s : List gn_sl} (hb : (gn_kd g a t ++ s).length < 30) (hsl : s.length < 30) (hst : gn_stc σ (a :: s)) (hw : σ 15 9 = (s.length : Nat)) : np_W (f_Tree_growNode t a.2.1 a.2.2.1 σ) (fun o => gx_fr [15, 16, 17, 18, 19, 20, 21, 22, 23, 24, 25] σ o.2 ∧ o.2 15 9 = ((gn_kd g a t ++ s).length : Nat) ∧ (∀ j, j ≠ 9 → o.2 15 j = σ 15 j) ∧ gn_stc o.2 (gn_kd g a t ++ s) ∧ gn_rd g a t o.2 ∧ ∀ u : Int, u ≠ t → ∀ c, c ∈ [16, 17, 18, 19, 20, 21] → o.2 c u = σ c u) := by
  obtain ⟨hC, hch, htk⟩ := id henv
  obtain ⟨hp, n30, hR, hrow, htok⟩ := id hC
  have R14 := hp.2.2.1
  obtain ⟨r1, r2, r3, r4⟩ := gn_rule hp.1 n30 ha
  have hcut := gn_cut hp.1 n30 ha
  have hlen := (hp.1 _ r1).1
  obtain ⟨⟨q1, q2, q3, q4⟩, hst2⟩ := hst
  unfold f_Tree_growNode
  refine np_W_ck ⟨by omega, by omega⟩ ?_
  have e24 : σ 24 (σ 15 9) = a.1 := by rw [hw]; exact q1
  have e25 : σ 25 (σ 15 9) = a.2.2.2 := by rw [hw]; exact q4
  rw [e24]
  refine np_W_seq (gn_or hC hch ha hL) (fun o ho => ?_)
  obtain ⟨v, τ⟩ := o
  obtain ⟨e, hv⟩ := ho
  dsimp only at e hv
  subst e hv
  refine np_W_ck ⟨by omega, by omega⟩ ?_
  refine np_W_ck ⟨by omega, by omega⟩ ?_
  refine np_W_ck ⟨by omega, by omega⟩ ?_
  refine np_W_ck (show (0 : Int) ≤ τ 15 9 ∧ τ 15 9 < 30 from ⟨by omega, by omega⟩) ?_
  refine np_W_ck ⟨by omega, by omega⟩ ?_
  refine np_W_ck (show (0 : Int) ≤ τ 15 9 ∧ τ 15 9 < 30 from ⟨by omega, by omega⟩) ?_
  refine np_W_ck ⟨by omega, by omega⟩ ?_
  show np_W ((f_Tree_awaitHoles t a.2.1 a.2.2.1 (gn_s5 (gn_rs g a) t a.2.1 a.2.2.1 τ)).bind _) _
  have fr5 : gx_fr [16, 18, 19, 20, 21] τ (gn_s5 (gn_rs g a) t a.2.1 a.2.2.1 τ) := by
    intro k hk
    simp only [List.mem_cons, List.not_mem_nil, or_false, not_or] at hk
    unfold gn_s5
    rw [np_st_o _ _ _ hk.2.2.2.2, np_st_o _ _ _ hk.2.2.2.1, np_st_o _ _ _ hk.2.2.1, np_st_o _ _ _ hk.2.1, np_st_o _ _ _ hk.1]
  have henv5 := gn_env_fr henv fr5 (by decide)
  have g16 : ∀ u : Int, gn_s5 (gn_rs g a) t a.2.1 a.2.2.1 τ 16 u = if u = t then (gn_rs g a : Int) else τ 16 u := by
    intro u
    unfold gn_s5
    rw [np_st_o _ _ _ (by decide), np_st_o _ _ _ (by decide), np_st_o _ _ _ (by decide), np_st_o _ _ _ (by decide), np_st_rd, if_pos rfl]
  have g18 : ∀ u : Int, gn_s5 (gn_rs g a) t a.2.1 a.2.2.1 τ 18 u = if u = t then (a.2.1 : Int) else τ 18 u := by
    intro u
    unfold gn_s5
    rw [np_st_o _ _ _ (by decide), np_st_o _ _ _ (by decide), np_st_o _ _ _ (by decide), np_st_rd, if_pos rfl, np_st_o _ _ _ (by decide)]
  have g19 : ∀ u : Int, gn_s5 (gn_rs g a) t a.2.1 a.2.2.1 τ 19 u = if u = t then (a.2.2.1 : Int) - a.2.1 else τ 19 u := by
    intro u
    unfold gn_s5
    rw [np_st_o _ _ _ (by decide), np_st_o _ _ _ (by decide), np_st_rd, if_pos rfl, np_st_o _ _ _ (by decide), np_st_o _ _ _ (by decide)]
  have g20 : ∀ u : Int, gn_s5 (gn_rs g a) t a.2.1 a.2.2.1 τ 20 u = if u = t then a.2.2.2 else τ 20 u := by
    intro u
    unfold gn_s5
    rw [np_st_o _ _ _ (by decide), np_st_rd, if_pos rfl, np_st_o _ _ _ (by decide), np_st_o _ _ _ (by decide), np_st_o _ _ _ (by decide), e25]
  have g21 : ∀ u : Int, gn_s5 (gn_rs g a) t a.2.1 a.2.2.1 τ 21 u = if u = t then a.1 else τ 21 u := by
    intro u
    unfold gn_s5
    rw [np_st_rd, if_pos rfl, np_st_o _ _ _ (by decide), np_st_o _ _ _ (by decide), np_st_o _ _ _ (by decide), np_st_o _ _ _ (by decide), e24]
  have hst5 : gn_stc (gn_s5 (gn_rs g a) t a.2.1 a.2.2.1 τ) s := gn_stc_congr s (fun i hi => ⟨by rw [fr5 22 (by decide)], by rw [fr5 23 (by decide)], by rw [fr5 24 (by decide)], by rw [fr5 25 (by decide)]⟩) hst2
  have hw5 : gn_s5 (gn_rs g a) t a.2.1 a.2.2.1 τ 15 9 = (s.length : Nat) := by rw [fr5 15 (by decide)]; exact hw
  have w15 : ∀ j, gn_s5 (gn_rs g a) t a.2.1 a.2.2.1 τ 15 j = τ 15 j := fun j => by rw [fr5 15 (by decide)]
  generalize hS : gn_s5 (gn_rs g a) t a.2.1 a.2.2.1 τ = S at *
  unfold f_Tree_awaitHoles
  refine np_W_bind ?_
  refine np_W_ck ⟨by omega, by omega⟩ ?_
  refine np_W_ck ⟨by omega, by omega⟩ ?_
  rw [g16 t, if_pos rfl, gx_lastDot henv5.1 r1]
  refine np_W_bind (np_W_some ?_)
  dsimp only
  have e7 : ((gn_rs g a : Nat) : Int) * 7 = ((7 * gn_rs g a : Nat) : Int) := by omega
  have ez : (0 : Int) = ((([] : List gn_sl).length : Nat) : Int) := rfl
  have := gn_ah ha hL ht hb 20000 0 S (by omega) (by omega) henv5 hst5 hw5
  rw [Nat.sub_zero, hcut.2.1] at this
  rw [e7]
  refine np_W_mono this (fun o ho => ?_)
  obtain ⟨b1, b2, b3, b4, b5⟩ := ho
  refine np_W_ck ⟨by omega, by omega⟩ (np_W_some ⟨fun k hk => ?_, ?_, fun j hj => ?_, ?_, ⟨?_, ?_, ?_, ?_, ?_, ?_⟩, fun u hu c hc => ?_⟩)
  · simp only [List.mem_cons, List.not_mem_nil, or_false, not_or] at hk
    dsimp only
    rw [np_st_o _ _ _ hk.2.2.1, b1 k (by simp only [List.mem_cons, List.not_mem_nil, or_false, not_or]; exact ⟨hk.1, hk.2.2.2.2.2.2.2⟩), fr5 k (by simp only [List.mem_cons, List.not_mem_nil, or_false, not_or]; exact ⟨hk.2.1, hk.2.2.2.1, hk.2.2.2.2.1, hk.2.2.2.2.2.1, hk.2.2.2.2.2.2.1⟩)]
  · dsimp only
    rw [np_st_o _ _ _ (by decide)]; exact b3
  · dsimp only
    rw [np_st_o _ _ _ (by decide), b4 j hj, w15]
  · refine gn_stc_congr _ (fun i hi => ?_) b5
    dsimp only
    rw [np_st_o _ _ _ (show 22 ≠ 17 by decide), np_st_o _ _ _ (show 23 ≠ 17 by decide), np_st_o _ _ _ (show 24 ≠ 17 by decide), np_st_o _ _ _ (show 25 ≠ 17 by decide)]
    exact ⟨rfl, rfl, rfl, rfl⟩
  · dsimp only
    rw [np_st_o _ _ _ (by decide), b1 16 (by decide), g16, if_pos rfl]
  · dsimp only
    rw [np_st_s]; exact b2
  · dsimp only
    rw [np_st_o _ _ _ (by decide), b1 18 (by decide), g18, if_pos rfl]
  · dsimp only
    rw [np_st_o _ _ _ (by decide), b1 19 (by decide), g19, if_pos rfl]
  · dsimp only
    rw [np_st_o _ _ _ (by decide), b1 20 (by decide), g20, if_pos rfl]
  · dsimp only
    rw [np_st_o _ _ _ (by decide), b1 21 (by decide), g21, if_pos rfl]
  · dsimp only
    simp only [List.mem_cons, List.not_mem_nil, or_false] at hc
    rcases hc with rfl | rfl | rfl | rfl | rfl | rfl
    · rw [np_st_o _ _ _ (by decide), b1 16 (by decide), g16, if_neg hu]
    · rw [np_st_n _ _ _ hu, b1 17 (by decide), fr5 17 (by decide)]
    · rw [np_st_o _ _ _ (by decide), b1 18 (by decide), g18, if_neg hu]
    · rw [np_st_o _ _ _ (by decide), b1 19 (by decide), g19, if_neg hu]
    · rw [np_st_o _ _ _ (by decide), b1 20 (by decide), g20, if_neg hu]
    · rw [np_st_o _ _ _ (by decide), b1 21 (by decide), g21, if_neg hu]
theorem gn_hd_eq {t : Nat} {a : gn_sl} {s : List gn_sl} (h : gn_S g n t = a :: s) : gn_hd g n t = a := by
  unfold gn_hd
  rw [h]; rfl
def gn_end (g : ga_G) (n T : Nat) : Prop := gn_S g n T = [] ∧ (∀ u, u < T → gn_S g n u ≠ []) ∧ T ≤ n
theorem gn_gr {L : Nat → Int} (hn1 : 1 ≤ n) : ∀ (f t : Nat) (σ : np_S), t ≤ n → n - t < f → gn_env g L n σ → gn_inv g n t → (∀ a, a ∈ gn_S g n t → L a.2.1 ≤ a.1) → (∀ u, u < t → gn_S g n u ≠ []) → gn_stc σ (gn_S g n t) → σ 15 9 = ((gn_S g n t).length : Nat) → σ 15 2 = t → (∀ u, u < t → gn_rd g (gn_hd g n u) u σ) → np_W (f_Tree_grow_20 f t σ) (fun o => gx_fr [15, 16, 17, 18, 19, 20, 21, 22, 23, 24, 25] σ o.2 ∧ ∃ T, gn_end g n T ∧ o.2 15 2 = T ∧ ∀ u, u < T → gn_rd g (gn_hd g n u) u o.2) := by
  intro f
  induction f with
  | zero => intro t σ _ h; omega
  | succ f ih =>
    intro t σ htn hf henv hinv hL hne hst hw h2 hrd
    obtain ⟨hC, hch, htk⟩ := id henv
    have n30 := hC.2.1
    have hok := hC.1.1
    show np_W (f_Tree_grow_20_b _ t σ) _
    unfold f_Tree_grow_20_b f_Tree_grow_82
    have fin : gn_S g n t = [] → np_W (some (0, σ)) (fun o : np_O => gx_fr [15, 16, 17, 18, 19, 20, 21, 22, 23, 24, 25] σ o.2 ∧ ∃ T, gn_end g n T ∧ o.2 15 2 = T ∧ ∀ u, u < T → gn_rd g (gn_hd g n u) u o.2) := fun he => np_W_some ⟨gx_fr_refl _ _, t, ⟨he, hne, htn⟩, h2, hrd⟩
    cases hs : gn_S g n t with
    | nil =>
      rw [hs] at hw
      have hw : σ 15 9 = 0 := hw
      refine np_W_ck ⟨⟨by omega, by omega⟩, by decide⟩ ?_
      refine np_W_if (fun _ => fin hs) (fun _ => ?_)
      refine np_W_ck ⟨by omega, by omega⟩ ?_
      exact np_W_if (fun _ => fin hs) (fun z => by omega)
    | cons a s =>
      obtain ⟨hinv2, htlt⟩ := gn_inv_s hok n30 hinv (by rw [hs]; exact List.cons_ne_nil _ _)
      rw [hs] at hst hw
      have hw : σ 15 9 = ((s.length + 1 : Nat) : Int) := hw
      have e1 : gn_S g n (t + 1) = gn_kd g a t ++ s := by
        show gn_nx g t (gn_S g n t) = _
        rw [hs]; rfl
      have ha := hinv.1 a (by rw [hs]; exact List.mem_cons_self)
      have hLa := hL a (by rw [hs]; exact List.mem_cons_self)
      have hls : (gn_S g n t).length ≤ 30 := by
        have := gn_wd_pos hinv.1
        have := hinv.2.1 (by rw [hs]; exact List.cons_ne_nil _ _)
        omega
      rw [hs] at hls
      have hls : s.length + 1 ≤ 30 := hls
      have hb : (gn_kd g a t ++ s).length < 30 := by
        rw [← e1]
        have hp := gn_wd_pos hinv2.1
        by_cases z : gn_S g n (t + 1) = []
        · rw [z]; decide
        · have := hinv2.2.1 z
          omega
      refine np_W_ck ⟨⟨by omega, by omega⟩, by decide⟩ ?_
      refine np_W_if (fun z => by omega) (fun _ => ?_)
      refine np_W_ck ⟨by omega, by omega⟩ ?_
      refine np_W_if (fun z => by omega) (fun _ => ?_)
      have s9 : np_st σ 15 9 (σ 15 9 - 1) 15 9 = (s.length : Nat) := by rw [np_st_s]; omega
      refine np_W_ck (by rw [s9]; exact ⟨by omega, by omega⟩) ?_
      refine np_W_ck (by rw [s9]; exact ⟨by omega, by omega⟩) ?_
      have fr1 := gx_fr_st σ 15 9 (σ 15 9 - 1)
      have hst1 : gn_stc (np_st σ 15 9 (σ 15 9 - 1)) (a :: s) := gn_stc_congr _ (fun i hi => ⟨by rw [fr1 22 (by decide)], by rw [fr1 23 (by decide)], by rw [fr1 24 (by decide)], by rw [fr1 25 (by decide)]⟩) hst
      have w2 : np_st σ 15 9 (σ 15 9 - 1) 15 2 = t := by rw [np_st_n _ _ _ (by decide)]; exact h2
      have hc1 : ∀ c, c ≠ 15 → np_st σ 15 9 (σ 15 9 - 1) c = σ c := fun c hc => np_st_o _ _ _ hc
      generalize hS : np_st σ 15 9 (σ 15 9 - 1) = S at *
      obtain ⟨⟨q1, q2, q3, q4⟩, hst2⟩ := id hst1
      rw [s9, q2, q3]
      refine np_W_seq (gn_gn (gn_env_fr henv fr1 (by decide)) ha hLa (by omega) hb (by omega) hst1 s9) (fun o ho => ?_)
      obtain ⟨v, ρ⟩ := o
      obtain ⟨b1, b2, b3, b4, b5, b6⟩ := ho
      dsimp only at b1 b2 b3 b4 b5 b6 ⊢
      have e2 : ρ 15 2 + 1 = ((t + 1 : Nat) : Int) := by rw [b3 2 (by decide), w2]; omega
      have e3 : (t : Int) + 1 = ((t + 1 : Nat) : Int) := by omega
      rw [e2, e3]
      have fr2 := gx_fr_st ρ 15 2 ((t + 1 : Nat) : Int)
      have frA : gx_fr [15, 16, 17, 18, 19, 20, 21, 22, 23, 24, 25] σ (np_st ρ 15 2 ((t + 1 : Nat) : Int)) := gx_fr_trans (gx_fr_mono fr1 (by simp)) (gx_fr_trans b1 (gx_fr_mono fr2 (by simp)))
      have rdc : ∀ (b : gn_sl) (u : Nat) (α β : np_S), (∀ c, c ∈ [16, 17, 18, 19, 20, 21] → β c (u : Int) = α c (u : Int)) → gn_rd g b u α → gn_rd g b u β := by
        intro b u α β hh hr
        unfold gn_rd at hr ⊢
        rw [hh 16 (by decide), hh 17 (by decide), hh 18 (by decide), hh 19 (by decide), hh 20 (by decide), hh 21 (by decide)]
        exact hr
      refine np_W_mono (ih (t + 1) _ (by omega) (by omega) (gn_env_fr henv frA (by decide)) hinv2 (gn_L_s hok n30 hch.2.1 hinv hL) (fun u hu => ?_) ?_ ?_ (np_st_s _ _ _ _) (fun u hu => ?_)) (fun o ho => ⟨gx_fr_trans frA ho.1, ho.2⟩)
      · by_cases z : u = t
        · rw [z, hs]; exact List.cons_ne_nil _ _
        · exact hne u (by omega)
      · rw [e1]
        exact gn_stc_congr _ (fun i hi => ⟨by rw [fr2 22 (by decide)], by rw [fr2 23 (by decide)], by rw [fr2 24 (by decide)], by rw [fr2 25 (by decide)]⟩) b4
      · rw [e1, np_st_n _ _ _ (by decide)]; exact b2
      · by_cases z : u = t
        · subst z
          rw [gn_hd_eq hs]
          refine rdc a u ρ _ (fun c hc => ?_) b5
          rw [np_st_o _ _ _ (fun z => by rw [z] at hc; exact absurd hc (by decide))]
        · refine rdc _ u σ _ (fun c hc => ?_) (hrd u (by omega))
          have hc15 : c ≠ 15 := fun z => by rw [z] at hc; exact absurd hc (by decide)
          rw [np_st_o _ _ _ hc15, b6 u (by omega) c hc, hc1 c hc15]
theorem gn_cgrow {L : Nat → Int} {σ : np_S} (hn1 : 1 ≤ n) (henv : gn_env g L n σ) (h1 : ga_C g 0 0 n = 1) : np_W (f_Tree_grow n σ) (fun o => gx_fr [15, 16, 17, 18, 19, 20, 21, 22, 23, 24, 25] σ o.2 ∧ ∃ T, gn_end g n T ∧ o.2 15 2 = T ∧ ∀ u, u < T → gn_rd g (gn_hd g n u) u o.2) := by
  unfold f_Tree_grow
  have fr0 : gx_fr [15] σ (np_st (np_st σ 15 2 0) 15 9 0) := gx_fr_trans (gx_fr_st _ _ _ _) (gx_fr_st _ _ _ _)
  have w9 : np_st (np_st σ 15 2 0) 15 9 0 15 9 = ((([] : List gn_sl).length : Nat) : Int) := np_st_s _ _ _ _
  have w2 : np_st (np_st σ 15 2 0) 15 9 0 15 2 = 0 := by rw [np_st_n _ _ _ (by decide), np_st_s]
  refine np_W_seq (gn_aw (s := []) (σ := np_st (np_st σ 15 2 0) 15 9 0) trivial w9 (by decide) (0, 0, n, -1)) (fun o ho => ?_)
  obtain ⟨v, ρ⟩ := o
  obtain ⟨b1, b2, b3, b4⟩ := ho
  dsimp only at b1 b2 b3 b4 ⊢
  have frA : gx_fr [15, 16, 17, 18, 19, 20, 21, 22, 23, 24, 25] σ ρ := gx_fr_trans (gx_fr_mono fr0 (by simp)) (gx_fr_mono b1 (by simp))
  refine np_W_mono (gn_gr hn1 20000 0 ρ (by omega) (by have := henv.1.2.1; omega) (gn_env_fr henv frA (by decide)) (gn_inv_0 h1 hn1) (fun a ha => ?_) (fun u hu => by omega) b4 b2 (by rw [b3 2 (by decide)]; exact w2) (fun u hu => by omega)) (fun o ho => ⟨gx_fr_trans frA ho.1, ho.2⟩)
  have e : a = (0, 0, n, -1) := List.mem_singleton.mp ha
  rw [e]
  exact henv.2.1.2.2.1
end
