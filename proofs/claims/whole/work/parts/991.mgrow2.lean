/-! the reference grows its tree: fillHoles, grow -/
section
variable {g : ga_G} {n : Nat}
def gn_pf (g : ga_G) (r : Nat) (x : Nat → Nat) (nd : Int) : Nat → List gn_sl
  | 0 => []
  | p + 1 => gn_pf g r x nd p ++ (if ga_h g r p = -1 then [] else [(ga_h g r p, x p, x (p + 1), nd)])
theorem gn_pf_ks (r : Nat) (x : Nat → Nat) (nd : Int) : ∀ p, p ≤ ga_l g r → gn_pf g r x nd p ++ gn_ks g r x nd (ga_l g r - p) = gn_ks g r x nd (ga_l g r) := by
  intro p
  induction p with
  | zero => intro _; rfl
  | succ p ih =>
    intro hp
    rw [← ih (by omega)]
    obtain ⟨q, hq⟩ : ∃ q, ga_l g r - p = q + 1 := ⟨ga_l g r - (p + 1), by omega⟩
    have e1 : ga_l g r - (p + 1) = q := by omega
    have e2 : ga_l g r - (q + 1) = p := by omega
    rw [hq, e1]
    show (gn_pf g r x nd p ++ (if ga_h g r p = -1 then [] else [(ga_h g r p, x p, x (p + 1), nd)])) ++ gn_ks g r x nd q = gn_pf g r x nd p ++ (if ga_h g r (ga_l g r - (q + 1)) = -1 then gn_ks g r x nd q else (ga_h g r (ga_l g r - (q + 1)), x (ga_l g r - (q + 1)), x (ga_l g r - (q + 1) + 1), nd) :: gn_ks g r x nd q)
    rw [e2, List.append_assoc]
    by_cases h : ga_h g r p = -1
    · rw [if_pos h, if_pos h, List.nil_append]
    · rw [if_neg h, if_neg h]; rfl
theorem gn_pf_all (r : Nat) (x : Nat → Nat) (nd : Int) : gn_pf g r x nd (ga_l g r) = gn_ks g r x nd (ga_l g r) := by
  have := gn_pf_ks (g := g) r x nd (ga_l g r) (Nat.le_refl _)
  rw [Nat.sub_self] at this
  rw [← this]
  exact (List.append_nil _).symm
theorem gn_rvD (l : List gn_sl) (d : gn_sl) {i : Nat} (h : i < l.length) : l.reverse.getD i d = l.getD (l.length - 1 - i) d := by
  rw [List.getD_eq_getElem?_getD, List.getD_eq_getElem?_getD, List.getElem?_reverse h]
theorem gn_mem_getD (l : List gn_sl) (d : gn_sl) {i : Nat} (h : i < l.length) : l.getD i d ∈ l := by
  rw [List.getD_eq_getElem?_getD, List.getElem?_eq_getElem h]
  exact List.getElem_mem h
theorem gn_65 {σ : np_S} (henv : gn_menv g n σ) {a : gn_sl} (ha : gn_ok g n a) {k t B p h : Nat} (hk : gn_rs g a = k + 2) (hp : p < ga_l g (k + 2)) (hh : ga_h g (k + 2) p = h) {k30 : Int → Int → Int → Int → Int → np_S → Option np_O} {Q : np_O → Prop} (hQ : np_W (f_M_fillHoles_122 k30 t B (gn_xs g a p) a.2.2.1 p (((7 * k + p : Nat)) : Int) (gn_xs g a (p + 1)) σ) Q) : ∀ (f j : Nat), gn_xs g a p < j → j ≤ gn_xs g a (p + 1) → gn_xs g a (p + 1) - j < f → np_W (f_M_fillHoles_65 k30 f t B (gn_xs g a p) a.2.2.1 p (((7 * k + p : Nat)) : Int) j σ) Q := by
  obtain ⟨hM, hd⟩ := henv
  obtain ⟨hgp, n30, hC, hMM, e2, e11, hrow, hwd⟩ := id hM
  have R14 := hgp.2.2.1
  obtain ⟨r1, r2, r3, r4⟩ := gn_rule hgp.1 n30 ha
  have hcut := gn_cut hgp.1 n30 ha
  have aN := ha.2.2.1
  rw [hk] at r1 hcut
  have hlen := (hgp.1 _ r1).1
  have hh10 := (hgp.1 _ r1).2.2.1 p hp
  have hne : ga_h g (k + 2) p ≠ -1 := by omega
  obtain ⟨d1, d2, d3⟩ := hcut.2.2.2 p hp
  obtain ⟨d4, d5, d6⟩ := d3 hne
  rw [hh] at d4 d5
  have hm2 := gn_x_mono hcut (ga_l g (k + 2) - (p + 1)) (p + 1) (by omega)
  rw [show p + 1 + (ga_l g (k + 2) - (p + 1)) = ga_l g (k + 2) by omega, hcut.2.1] at hm2
  have hS1 := (hcut.2.2.1 (p + 1) (by omega)).1
  intro f
  induction f with
  | zero => intro j _ _ h; omega
  | succ f ih =>
    intro j j1 j2 hf
    show np_W (f_M_fillHoles_65_b k30 _ t B _ _ p _ j σ) _
    unfold f_M_fillHoles_65_b f_M_fillHoles_116
    obtain ⟨e30, _⟩ := (hrow k r1).2.2 p hp
    have e5 : (j : Int) + 1 = ((j + 1 : Nat) : Int) := by omega
    have next : j ≠ gn_xs g a (p + 1) → np_W (f_M_fillHoles_65 k30 f t B (gn_xs g a p) a.2.2.1 p (((7 * k + p : Nat)) : Int) ((j : Int) + 1) σ) Q := by
      intro y
      rw [e5]
      exact ih (j + 1) (by omega) (by omega) (by omega)
    refine np_W_ck ⟨by omega, by omega⟩ ?_
    refine np_W_ck ⟨by rw [e30]; exact ⟨by omega, by omega⟩, by decide⟩ ?_
    refine np_W_if (fun z => absurd (by rw [← e30]; exact z) hne) (fun _ => ?_)
    refine np_W_ck ⟨by omega, by omega⟩ ?_
    rw [e30, hh, gy_cell]
    refine np_W_bind (np_W_some ?_)
    dsimp only
    have b37 : gy_ix h (gn_xs g a p) j < 10571 := by unfold gy_ix; omega
    have et := (hd.1 h (gn_xs g a p) j (by omega) (by omega) (by omega)).1 ⟨by omega, by omega⟩
    unfold gy_tm at et
    have bs := ga_sat_le (ga_C g h (gn_xs g a p) j)
    refine np_W_ck ⟨by omega, by omega⟩ ?_
    refine np_W_ck (by rw [et]; exact ⟨by omega, by omega⟩) ?_
    refine np_W_if (fun z => next (fun q => ?_)) (fun z => ?_)
    · rw [et, q, d4] at z
      exact absurd z (by decide)
    rw [et] at z
    have pos1 : 0 < ga_C g h (gn_xs g a p) j := ga_sat_pos.mp (by omega)
    have e6 : ((7 * k + p : Nat) : Int) + 1 = ((7 * k + (p + 1) : Nat) : Int) := by omega
    rw [e6, gy_cell]
    refine np_W_bind (np_W_some ?_)
    dsimp only
    have b38 : gy_ix (7 * k + (p + 1)) j a.2.2.1 < 80724 := by unfold gy_ix; omega
    have er := hd.2 j a.2.2.1 ⟨by omega, aN⟩ k (p + 1) r1 (by omega)
    unfold gy_rw at er
    have bs2 := ga_sat_le (ga_S g (ga_C g) (k + 2) (ga_l g (k + 2) - (p + 1)) j a.2.2.1)
    refine np_W_ck ⟨by omega, by omega⟩ ?_
    refine np_W_ck (by rw [er]; exact ⟨by omega, by omega⟩) ?_
    refine np_W_if (fun z2 => ?_) (fun z2 => next (fun q => ?_))
    · rw [er] at z2
      have ej := d5 j j1 (by omega) pos1 (ga_sat_pos.mp (by omega))
      rw [ej]
      exact hQ
    · rw [er, q, hS1] at z2
      exact z2 (by decide)
theorem gn_30 {a : gn_sl} (ha : gn_ok g n a) {k t : Nat} (hk : gn_rs g a = k + 2) (ht : t < 40) {s : List gn_sl} (hb : (gn_kd g a t ++ s).length < 80) : ∀ (f p : Nat) (σ : np_S), p ≤ ga_l g (k + 2) → ga_l g (k + 2) - p < f → gn_menv g n σ → σ 41 (t : Int) = k → gn_stm σ ((gn_pf g (k + 2) (gn_xs g a) t p).reverse ++ s) → σ 29 27 = (((gn_pf g (k + 2) (gn_xs g a) t p).reverse ++ s).length : Nat) → np_W (f_M_fillHoles_30 f t ((s.length : Nat) : Int) (gn_xs g a p) a.2.2.1 p σ) (fun o => gx_fr [29, 45, 46, 47, 48] σ o.2 ∧ o.2 29 27 = ((gn_kd g a t ++ s).length : Nat) ∧ (∀ j, j ≠ 27 → o.2 29 j = σ 29 j) ∧ gn_stm o.2 (gn_kd g a t ++ s)) := by
  have ekd : gn_kd g a t = gn_ks g (k + 2) (gn_xs g a) t (ga_l g (k + 2)) := by unfold gn_kd; rw [hk]
  rw [ekd] at hb ⊢
  rw [List.length_append] at hb
  intro f
  induction f with
  | zero => intro p σ _ h; omega
  | succ f ih =>
    intro p σ hp hf henv h41 hst hw
    obtain ⟨hM, hd⟩ := id henv
    obtain ⟨hgp, n30, hC, hMM, e2, e11, hrow, hwd⟩ := id hM
    have R14 := hgp.2.2.1
    obtain ⟨r1, r2, r3, r4⟩ := gn_rule hgp.1 n30 ha
    have hcut := gn_cut hgp.1 n30 ha
    rw [hk] at r1 hcut
    have hlen := (hgp.1 _ r1).1
    have e32 := (hrow k r1).1
    show np_W (f_M_fillHoles_30_b _ t _ _ _ p σ) _
    unfold f_M_fillHoles_30_b
    refine np_W_ck ⟨by omega, by omega⟩ ?_
    refine np_W_ck (by rw [h41]; exact ⟨by omega, by omega⟩) ?_
    refine np_W_ck ⟨⟨by omega, by omega⟩, by rw [h41, e32]; exact ⟨by omega, by omega⟩⟩ ?_
    refine np_W_if (fun z => ?_) (fun z => ?_)
    · rw [h41, e32] at z
      have ep : p = ga_l g (k + 2) := by omega
      subst ep
      rw [gn_pf_all] at hst hw
      rw [List.length_append, List.length_reverse] at hw
      generalize hK : gn_ks g (k + 2) (gn_xs g a) (t : Int) (ga_l g (k + 2)) = K at *
      have hnd : ∀ q, q < K.length → (K.getD q (0, 0, 0, 0)).2.2.2 = (t : Int) := by
        intro q hq
        have hm := gn_mem_getD K (0, 0, 0, 0) hq
        rw [← hK] at hm
        have := gn_ks_ok hgp.1 r1 hcut ha.2.2.1 (t : Int) _ (Nat.le_refl _) _ hm
        rw [hK] at this
        exact this.2.1
      obtain ⟨s1, s2⟩ := (gn_stm_app K.reverse).mp hst
      rw [List.length_reverse] at s2
      have e1 : σ 29 27 - 1 = ((s.length + K.length : Nat) : Int) - 1 - ((0 : Nat) : Int) := by rw [hw]; omega
      have e3 : ((s.length : Nat) : Int) = ((s.length + 0 : Nat) : Int) := rfl
      rw [e1]
      refine np_W_mono (gn_rev (B := s.length) (m := K.length) (by omega) (c := fun q => K.getD q (0, 0, 0, 0)) hnd 20000 0 σ (by omega) (by omega) (fun q hq => ?_)) (fun o ho => ⟨gx_fr_mono ho.1 (by simp), ?_, fun j _ => by rw [ho.1 29 (by decide)], ?_⟩)
      · rw [if_pos (by omega)]
        have := s2 q hq
        rw [gn_rvD _ _ (by omega), show K.length - 1 - (K.length - 1 - q) = q by omega] at this
        exact this
      · rw [ho.1 29 (by decide), hw, List.length_append]
      · refine (gn_stm_app K).mpr ⟨gn_stm_congr s (fun i hi => ?_) s1, fun q hq => ho.2.2 q hq⟩
        obtain ⟨v1, v2, v3⟩ := ho.2.1 i hi
        exact ⟨v1, v2, v3, by rw [ho.1 48 (by decide)]⟩
    · rw [h41, e32] at z
      have hpl : p < ga_l g (k + 2) := by omega
      obtain ⟨e30, _⟩ := (hrow k r1).2.2 p hpl
      have hh := (hgp.1 _ r1).2.2.1 p hpl
      obtain ⟨d1, d2, d3⟩ := hcut.2.2.2 p hpl
      have e1 : 7 * σ 41 (t : Int) + (p : Int) = ((7 * k + p : Nat) : Int) := by rw [h41]; omega
      have e4 : (p : Int) + 1 = ((p + 1 : Nat) : Int) := by omega
      refine np_W_ck ⟨by omega, by omega⟩ ?_
      rw [e1]
      have e5 : ((gn_xs g a p : Nat) : Int) + 1 = ((gn_xs g a p + 1 : Nat) : Int) := by omega
      rw [e5]
      by_cases hne : ga_h g (k + 2) p = -1
      · have d4 := (d2 hne).1
        show np_W (f_M_fillHoles_65_b _ _ t _ _ _ p _ _ σ) _
        unfold f_M_fillHoles_65_b f_M_fillHoles_122 f_M_fillHoles_148
        refine np_W_ck ⟨by omega, by omega⟩ ?_
        refine np_W_ck ⟨by rw [e30]; exact ⟨by omega, by omega⟩, by decide⟩ ?_
        refine np_W_if (fun _ => ?_) (fun z => absurd (by rw [e30]; exact hne) z)
        refine np_W_ck ⟨by omega, by omega⟩ ?_
        refine np_W_ck ⟨by rw [e30]; exact ⟨by omega, by omega⟩, by decide⟩ ?_
        refine np_W_if (fun _ => ?_) (fun z => absurd (by rw [e30]; exact hne) z)
        have epf : gn_pf g (k + 2) (gn_xs g a) (t : Int) (p + 1) = gn_pf g (k + 2) (gn_xs g a) (t : Int) p := by
          show _ ++ (if ga_h g (k + 2) p = -1 then [] else _) = _
          rw [if_pos hne, List.append_nil]
        rw [e4, ← d4]
        exact ih (p + 1) σ (by omega) (by omega) henv h41 (by rw [epf]; exact hst) (by rw [epf]; exact hw)
      · obtain ⟨h, eh⟩ : ∃ h : Nat, ga_h g (k + 2) p = h := ⟨(ga_h g (k + 2) p).toNat, by omega⟩
        refine gn_65 henv ha hk hpl eh ?_ 20000 (gn_xs g a p + 1) (by omega) (by omega) (by have := gn_x_mono hcut (ga_l g (k + 2) - (p + 1)) (p + 1) (by omega); rw [show p + 1 + (ga_l g (k + 2) - (p + 1)) = ga_l g (k + 2) by omega, hcut.2.1] at this; have := ha.2.2.1; omega)
        unfold f_M_fillHoles_122 f_M_fillHoles_148
        refine np_W_ck ⟨by omega, by omega⟩ ?_
        refine np_W_ck ⟨by rw [e30]; exact ⟨by omega, by omega⟩, by decide⟩ ?_
        refine np_W_if (fun z => absurd (by rw [← e30]; exact z) hne) (fun _ => ?_)
        refine np_W_ck ⟨by omega, by omega⟩ ?_
        rw [e30]
        have epf : gn_pf g (k + 2) (gn_xs g a) (t : Int) (p + 1) = gn_pf g (k + 2) (gn_xs g a) (t : Int) p ++ [(ga_h g (k + 2) p, gn_xs g a p, gn_xs g a (p + 1), (t : Int))] := by
          show _ ++ (if ga_h g (k + 2) p = -1 then [] else _) = _
          rw [if_neg hne]
        have erv : (gn_pf g (k + 2) (gn_xs g a) (t : Int) (p + 1)).reverse ++ s = (ga_h g (k + 2) p, gn_xs g a p, gn_xs g a (p + 1), (t : Int)) :: ((gn_pf g (k + 2) (gn_xs g a) (t : Int) p).reverse ++ s) := by
          rw [epf, List.reverse_append]; rfl
        have hpl2 : (gn_pf g (k + 2) (gn_xs g a) (t : Int) (p + 1)).length ≤ (gn_ks g (k + 2) (gn_xs g a) (t : Int) (ga_l g (k + 2))).length := by
          rw [← gn_pf_ks (g := g) (k + 2) (gn_xs g a) (t : Int) (p + 1) (by omega), List.length_append]
          exact Nat.le_add_right _ _
        rw [epf, List.length_append] at hpl2
        have hpl2 : (gn_pf g (k + 2) (gn_xs g a) (t : Int) p).length + 1 ≤ _ := hpl2
        have hl2 : ((gn_pf g (k + 2) (gn_xs g a) (t : Int) p).reverse ++ s).length = (gn_pf g (k + 2) (gn_xs g a) (t : Int) p).length + s.length := by rw [List.length_append, List.length_reverse]
        refine np_W_seq (gn_lt hst hw (by omega) (ga_h g (k + 2) p, gn_xs g a p, gn_xs g a (p + 1), (t : Int))) (fun o ho => ?_)
        obtain ⟨v, ρ⟩ := o
        obtain ⟨w1, w2, w3, w4⟩ := ho
        dsimp only at w1 w2 w3 w4 ⊢
        rw [e4]
        exact np_W_mono (ih (p + 1) ρ (by omega) (by omega) (gn_menv_fr henv w1 (by decide) (fun j _ j2 => w3 j j2)) (by rw [w1 41 (by decide)]; exact h41) (by rw [erv]; exact w4) (by rw [erv]; exact w2)) (fun o ho => ⟨gx_fr_trans w1 ho.1, ho.2.1, fun j hj => (ho.2.2.1 j hj).trans (w3 j hj), ho.2.2.2⟩)
end
