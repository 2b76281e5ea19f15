/-! the class grows its tree -/
section
variable {g : ga_G} {n : Nat}
noncomputable def gn_hd (g : ga_G) (n t : Nat) : gn_sl := (gn_S g n t).headD (0, 0, 0, 0)
theorem gn_orl {σ : np_S} {L : Nat → Int} (hC : gx_C g n σ) (hch : gx_ch g L n σ) {a : gn_sl} (ha : gn_ok g n a) (hL : L a.2.1 ≤ a.1) : ∀ (f k : Nat), k < ga_R g → k < f → (∀ r, r < ga_R g → k < r → r ≠ gn_rs g a) → np_W (f_Chart_onlyRule_11 f a.2.1 a.2.2.1 a.1 k σ) (fun o => o.2 = σ ∧ o.1 = gn_rs g a) := by
  obtain ⟨hp, n30, hR, hrow, htok⟩ := id hC
  have R14 := hp.2.2.1
  obtain ⟨hA, hB, hL0, hLn, hfull⟩ := id hch
  obtain ⟨⟨l0, l10⟩, a2, a3, a4⟩ := id ha
  obtain ⟨r1, r2, r3, r4⟩ := gn_rule hp.1 n30 ha
  intro f
  induction f with
  | zero => intro k _ h; omega
  | succ f ih =>
    intro k hk hf hno
    show np_W (f_Chart_onlyRule_11_b _ a.2.1 a.2.2.1 a.1 k σ) _
    unfold f_Chart_onlyRule_11_b f_Chart_onlyRule_51
    refine np_W_ck ⟨by omega, by omega⟩ ?_
    refine np_W_if (fun z => np_W_some ⟨rfl, ?_⟩) (fun z => ?_)
    · have : gn_rs g a = 0 := by
        refine Classical.byContradiction (fun y => hno _ r1 (by omega) rfl)
      rw [this]; rfl
    obtain ⟨q, hq⟩ : ∃ q, k = q + 1 := ⟨k - 1, by omega⟩
    have e1 : (k : Int) + -1 = (q : Int) := by omega
    obtain ⟨hl, hv⟩ := gx_len hC hk
    have next : k ≠ gn_rs g a → np_W (f_Chart_onlyRule_11 f a.2.1 a.2.2.1 a.1 ((k : Int) + -1) σ) (fun o => o.2 = σ ∧ o.1 = gn_rs g a) := by
      intro y
      rw [e1]
      refine ih q (by omega) (by omega) (fun r q1 q2 => ?_)
      by_cases e : r = k
      · rw [e]; exact y
      · exact hno r q1 (by omega)
    have e4 := (hrow k hk).2.1
    refine np_W_ck ⟨by omega, by omega⟩ ?_
    refine np_W_ck ⟨by rw [e4]; exact ⟨by omega, by omega⟩, ⟨by omega, by omega⟩⟩ ?_
    refine np_W_if (fun y => next (fun e => ?_)) (fun y => ?_)
    · rw [e4, e] at y; omega
    rw [e4] at y
    rw [gx_lastDot hC hk]
    refine np_W_bind (np_W_some ?_)
    dsimp only
    have hbit := hfull a.2.2.1 a3 k (ga_l g k) hk (by omega)
    refine np_W_seq (gx_reach (by omega) (by omega) hbit) (fun o ho => ?_)
    obtain ⟨v, τ⟩ := o
    obtain ⟨e, hb⟩ := ho
    dsimp only at e hb ⊢
    subst e
    refine np_W_ck (gs_bo_R hb) ?_
    refine np_W_if (fun y2 => next (fun e => ?_)) (fun y2 => np_W_some ⟨rfl, ?_⟩)
    · refine absurd y2 ((gs_bo_1 hb).mpr ⟨Nat.le_refl _, by omega, by omega, ?_⟩)
      rw [ga_PS, e, r3]; omega
    · have := (gs_bo_1 hb).mp y2
      have h4 := this.2.2.2
      rw [ga_PS] at h4
      have := r4 k hk (by omega) h4
      dsimp only
      rw [this]
theorem gn_or {σ : np_S} {L : Nat → Int} (hC : gx_C g n σ) (hch : gx_ch g L n σ) {a : gn_sl} (ha : gn_ok g n a) (hL : L a.2.1 ≤ a.1) : np_W (f_Chart_onlyRule a.2.1 a.2.2.1 a.1 σ) (fun o => o.2 = σ ∧ o.1 = gn_rs g a) := by
  unfold f_Chart_onlyRule
  have R2 := hC.1.2.1
  have R14 := hC.1.2.2.1
  have e : σ 1 4 - 1 = ((ga_R g - 1 : Nat) : Int) := by rw [hC.2.2.1]; omega
  rw [e]
  exact gn_orl hC hch ha hL 20000 (ga_R g - 1) (by omega) (by omega) (fun r a b => by omega)
theorem gn_os {σ : np_S} {L : Nat → Int} (hC : gx_C g n σ) (hch : gx_ch g L n σ) (ht : gx_tok g L n 0 σ) {r p i e xp h : Nat} (hr : r < ga_R g) (hpl : p < ga_l g r) (hv : L i ≤ ga_v g r) (hh : ga_h g r p = h) (he : e ≤ n) (h1 : i ≤ xp) (h2 : xp < e) (h3 : 0 < ga_P g (ga_C g) r p i xp) (h4 : 0 < ga_C g h xp e) (h5 : ∀ m, m < e → 0 < ga_P g (ga_C g) r p i m → 0 < ga_C g h m e → m = xp) : ∀ (f m : Nat), xp ≤ m → m < e → m < f → np_W (f_Chart_onlySplit_16 f (((7 * r + p : Nat)) : Int) i e h m σ) (fun o => o.2 = σ ∧ o.1 = xp) := by
  obtain ⟨hp, n30, hR, hrow, htok⟩ := id hC
  have R14 := hp.2.2.1
  obtain ⟨hA, hB, hL0, hLn, hfull⟩ := id hch
  have hlen := (hp.1 r hr).1
  have hh10 := (hp.1 r hr).2.2.1 p hpl
  have hne : ga_h g r p ≠ -1 := by omega
  intro f
  induction f with
  | zero => intro m _ _ h; omega
  | succ f ih =>
    intro m m1 m2 hf
    show np_W (f_Chart_onlySplit_16_b _ _ i e h m σ) _
    unfold f_Chart_onlySplit_16_b f_Chart_onlySplit_53
    refine np_W_ck ⟨⟨by omega, by omega⟩, ⟨by omega, by omega⟩⟩ ?_
    refine np_W_if (fun z => np_W_some ⟨rfl, by dsimp only; omega⟩) (fun z => ?_)
    have e1 : (m : Int) + -1 = ((m - 1 : Nat) : Int) := by omega
    have next : m ≠ xp → np_W (f_Chart_onlySplit_16 f (((7 * r + p : Nat)) : Int) i e h ((m : Int) + -1) σ) (fun o => o.2 = σ ∧ o.1 = xp) := by
      intro y
      rw [e1]
      exact ih (m - 1) (by omega) (by omega) (by omega)
    have hbit := hfull m (by omega) r p hr (by omega)
    refine np_W_seq (gx_reach (by omega) (by omega) hbit) (fun o ho => ?_)
    obtain ⟨v, τ⟩ := o
    obtain ⟨ee, hb⟩ := ho
    dsimp only at ee hb ⊢
    subst ee
    refine np_W_ck (gs_bo_R hb) ?_
    refine np_W_if (fun y => next (fun q => absurd y ((gs_bo_1 hb).mpr ⟨by omega, by omega, hv, by rw [q]; exact h3⟩))) (fun y => ?_)
    obtain ⟨_, _, _, pos⟩ := (gs_bo_1 hb).mp y
    have Lm := hB i m r p (by omega) (by omega) hr hpl hv pos hne
    have tv := ht m (by omega) (by omega) (by omega) e h (by omega) he (by omega) (by omega)
    unfold gx_tr at tv
    have bc := gx_cel_lt (i := m) (j := e) (l := h) (by omega) (by omega) (by omega)
    have bs := ga_sat_le (ga_C g h m e)
    rw [gx_cell (by omega)]
    refine np_W_bind (np_W_some ?_)
    dsimp only
    refine np_W_ck ⟨by omega, by omega⟩ ?_
    refine np_W_ck (by rw [tv]; exact ⟨by omega, by omega⟩) ?_
    refine np_W_if (fun y2 => next (fun q => ?_)) (fun y2 => np_W_some ⟨rfl, ?_⟩)
    · rw [tv] at y2
      rw [q] at y2
      have := ga_sat_pos.mpr h4
      omega
    · rw [tv] at y2
      have := h5 m m2 pos (ga_sat_pos.mp (by omega))
      dsimp only
      rw [this]
def gn_stc (σ : np_S) : List gn_sl → Prop
  | [] => True
  | a :: s => (σ 24 (s.length : Int) = a.1 ∧ σ 22 (s.length : Int) = a.2.1 ∧ σ 23 (s.length : Int) = a.2.2.1 ∧ σ 25 (s.length : Int) = a.2.2.2) ∧ gn_stc σ s
theorem gn_stc_congr {σ τ : np_S} : ∀ (s : List gn_sl), (∀ i : Nat, i < s.length → τ 22 (i : Int) = σ 22 (i : Int) ∧ τ 23 (i : Int) = σ 23 (i : Int) ∧ τ 24 (i : Int) = σ 24 (i : Int) ∧ τ 25 (i : Int) = σ 25 (i : Int)) → gn_stc σ s → gn_stc τ s := by
  intro s
  induction s with
  | nil => intro _ _; trivial
  | cons a s ih =>
    intro h hs
    obtain ⟨e1, e2, e3, e4⟩ := h s.length (by show s.length < s.length + 1; omega)
    refine ⟨by rw [e1, e2, e3, e4]; exact hs.1, ih (fun i hi => h i (by show i < s.length + 1; omega)) hs.2⟩
theorem gn_stc_app {σ : np_S} : ∀ (a b : List gn_sl), gn_stc σ (a ++ b) → gn_stc σ b := by
  intro a
  induction a with
  | nil => intro b h; exact h
  | cons x a ih => intro b h; exact ih b h.2
def gn_pc (i j l h : Int) (σ : np_S) : np_S := np_st (np_st (np_st (np_st (np_st σ 22 (σ 15 9) i) 23 (σ 15 9) j) 24 (σ 15 9) l) 25 (σ 15 9) h) 15 9 (σ 15 9 + 1)
theorem gn_aw {σ : np_S} {s : List gn_sl} (hs : gn_stc σ s) (hw : σ 15 9 = s.length) (hl : s.length < 30) (a : gn_sl) : np_W (f_Tree_await a.2.1 a.2.2.1 a.1 a.2.2.2 σ) (fun o => gx_fr [15, 22, 23, 24, 25] σ o.2 ∧ o.2 15 9 = ((a :: s).length : Nat) ∧ (∀ j, j ≠ 9 → o.2 15 j = σ 15 j) ∧ gn_stc o.2 (a :: s)) := by
  have e : f_Tree_await a.2.1 a.2.2.1 a.1 a.2.2.2 σ = np_ck (np_R (σ 15 9) ∧ np_R 30) (if (30 : Int) ≤ σ 15 9 then some (0, σ) else (np_ck ((0 : Int) ≤ σ 15 9 ∧ σ 15 9 < 30) (np_ck ((0 : Int) ≤ σ 15 9 ∧ σ 15 9 < 30) (np_ck ((0 : Int) ≤ σ 15 9 ∧ σ 15 9 < 30) (np_ck ((0 : Int) ≤ σ 15 9 ∧ σ 15 9 < 30) (some (0, gn_pc a.2.1 a.2.2.1 a.1 a.2.2.2 σ))))))) := rfl
  rw [e]
  refine np_W_ck ⟨⟨by omega, by omega⟩, by decide⟩ ?_
  refine np_W_if (fun z => by omega) (fun _ => ?_)
  refine np_W_ck ⟨by omega, by omega⟩ (np_W_ck ⟨by omega, by omega⟩ (np_W_ck ⟨by omega, by omega⟩ (np_W_ck ⟨by omega, by omega⟩ (np_W_some ⟨fun k hk => ?_, ?_, fun j hj => ?_, ⟨?_, ?_⟩⟩))))
  · simp only [List.mem_cons, List.not_mem_nil, or_false, not_or] at hk
    dsimp only
    unfold gn_pc
    rw [np_st_o _ _ _ hk.1, np_st_o _ _ _ hk.2.2.2.2, np_st_o _ _ _ hk.2.2.2.1, np_st_o _ _ _ hk.2.2.1, np_st_o _ _ _ hk.2.1]
  · dsimp only
    unfold gn_pc
    rw [np_st_s, hw]; rfl
  · dsimp only
    unfold gn_pc
    rw [np_st_n _ _ _ hj, np_st_o _ _ _ (by decide), np_st_o _ _ _ (by decide), np_st_o _ _ _ (by decide), np_st_o _ _ _ (by decide)]
  · dsimp only
    unfold gn_pc
    rw [hw]
    refine ⟨?_, ?_, ?_, ?_⟩
    · rw [np_st_o _ _ _ (by decide), np_st_o _ _ _ (by decide), np_st_s]
    · rw [np_st_o _ _ _ (by decide), np_st_o _ _ _ (by decide), np_st_o _ _ _ (by decide), np_st_o _ _ _ (by decide), np_st_s]
    · rw [np_st_o _ _ _ (by decide), np_st_o _ _ _ (by decide), np_st_o _ _ _ (by decide), np_st_s]
    · rw [np_st_o _ _ _ (by decide), np_st_s]
  · refine gn_stc_congr s (fun i hi => ?_) hs
    dsimp only
    unfold gn_pc
    refine ⟨?_, ?_, ?_, ?_⟩
    · rw [np_st_o _ _ _ (by decide), np_st_o _ _ _ (by decide), np_st_o _ _ _ (by decide), np_st_o _ _ _ (by decide), np_st_n _ _ _ (by omega)]
    · rw [np_st_o _ _ _ (by decide), np_st_o _ _ _ (by decide), np_st_o _ _ _ (by decide), np_st_n _ _ _ (by omega), np_st_o _ _ _ (by decide)]
    · rw [np_st_o _ _ _ (by decide), np_st_o _ _ _ (by decide), np_st_n _ _ _ (by omega), np_st_o _ _ _ (by decide), np_st_o _ _ _ (by decide)]
    · rw [np_st_o _ _ _ (by decide), np_st_n _ _ _ (by omega), np_st_o _ _ _ (by decide), np_st_o _ _ _ (by decide), np_st_o _ _ _ (by decide)]
theorem gn_ks_len (r : Nat) (x : Nat → Nat) (nd : Int) {k : Nat} : ∀ {m : Nat}, k ≤ m → (gn_ks g r x nd k).length ≤ (gn_ks g r x nd m).length := by
  intro m h
  induction m with
  | zero =>
    have : k = 0 := by omega
    subst this
    exact Nat.le_refl _
  | succ m ih =>
    by_cases e : k = m + 1
    · subst e; exact Nat.le_refl _
    · have h1 := ih (by omega)
      show _ ≤ (if ga_h g r (ga_l g r - (m + 1)) = -1 then gn_ks g r x nd m else _ :: gn_ks g r x nd m).length
      split
      · exact h1
      · show _ ≤ (gn_ks g r x nd m).length + 1
        omega
def gn_env (g : ga_G) (L : Nat → Int) (n : Nat) (σ : np_S) : Prop := gx_C g n σ ∧ gx_ch g L n σ ∧ gx_tok g L n 0 σ
theorem gn_env_fr {L : Nat → Int} {σ τ : np_S} (h : gn_env g L n σ) {cs : List Nat} (k : gx_fr cs σ τ) (hc : ∀ c, c ∈ [1, 2, 3, 4, 5, 9, 12, 14] → c ∉ cs) : gn_env g L n τ := by
  refine ⟨gx_C_eq h.1 (k 1 (hc 1 (by decide))) (k 2 (hc 2 (by decide))) (k 3 (hc 3 (by decide))) (k 4 (hc 4 (by decide))) (k 5 (hc 5 (by decide))) (k 9 (hc 9 (by decide))), gx_ch_fr h.2.1 (k 12 (hc 12 (by decide))), fun i a b c j q d e f l => ?_⟩
  unfold gx_tr
  rw [k 14 (hc 14 (by decide))]
  exact h.2.2 i a b c j q d e f l
theorem gn_ah {L : Nat → Int} {a : gn_sl} (ha : gn_ok g n a) (hL : L a.2.1 ≤ a.1) {t : Nat} (ht : t < 30) {s : List gn_sl} (hb : (gn_kd g a t ++ s).length < 30) : ∀ (f k : Nat) (σ : np_S), k ≤ ga_l g (gn_rs g a) → ga_l g (gn_rs g a) - k < f → gn_env g L n σ → gn_stc σ (gn_ks g (gn_rs g a) (gn_xs g a) t k ++ s) → σ 15 9 = ((gn_ks g (gn_rs g a) (gn_xs g a) t k ++ s).length : Nat) → np_W (f_Tree_awaitHoles_34 f t a.2.1 (((7 * gn_rs g a : Nat)) : Int) ((gn_ks g (gn_rs g a) (gn_xs g a) t k).length : Nat) ((gn_xs g a (ga_l g (gn_rs g a) - k) : Nat) : Int) (((7 * gn_rs g a + (ga_l g (gn_rs g a) - k) : Nat) : Int) - 1) σ) (fun o => gx_fr [15, 22, 23, 24, 25] σ o.2 ∧ o.1 = ((gn_kd g a t).length : Nat) ∧ o.2 15 9 = ((gn_kd g a t ++ s).length : Nat) ∧ (∀ j, j ≠ 9 → o.2 15 j = σ 15 j) ∧ gn_stc o.2 (gn_kd g a t ++ s)) := by
  intro f
  induction f with
  | zero => intro k σ _ h; omega
  | succ f ih =>
    intro k σ hk hf henv hst hw
    obtain ⟨hC, hch, htk⟩ := id henv
    obtain ⟨hp, n30, hR, hrow, htok⟩ := id hC
    have R14 := hp.2.2.1
    obtain ⟨r1, r2, r3, r4⟩ := gn_rule hp.1 n30 ha
    have hcut := gn_cut hp.1 n30 ha
    have hlen := (hp.1 _ r1).1
    have aN := ha.2.2.1
    generalize hr : gn_rs g a = r at *
    generalize hx : gn_xs g a = x at *
    have ekd : gn_kd g a t = gn_ks g r x t (ga_l g r) := by unfold gn_kd; rw [hr, hx]
    rw [ekd] at hb ⊢
    show np_W (f_Tree_awaitHoles_34_b _ t a.2.1 _ _ _ _ σ) _
    unfold f_Tree_awaitHoles_34_b
    refine np_W_ck ⟨⟨by omega, by omega⟩, ⟨by omega, by omega⟩⟩ ?_
    refine np_W_if (fun z => ?_) (fun z => ?_)
    · have ek : k = ga_l g r := by omega
      subst ek
      exact np_W_some ⟨gx_fr_refl _ _, rfl, hw, fun _ _ => rfl, hst⟩
    obtain ⟨p, hpe⟩ : ∃ p, p = ga_l g r - (k + 1) := ⟨_, rfl⟩
    have e1 : ((7 * r + (ga_l g r - k) : Nat) : Int) - 1 = ((7 * r + p : Nat) : Int) := by omega
    have e3 : ((7 * r + p : Nat) : Int) = 7 * (r : Int) + (p : Int) := by omega
    have hdq := (hrow r r1).2.2 p (by omega)
    have e2 : σ 2 ((7 * r + p : Nat) : Int) = ga_h g r p := by
      rw [e3]
      rcases hdq.2 with ⟨_, c2, _⟩ | ⟨c1, _⟩
      · exact c2
      · omega
    have hh := (hp.1 r r1).2.2.1 p (by omega)
    have hcp := hcut.2.2.2 p (by omega)
    have ep1 : p + 1 = ga_l g r - k := by omega
    rw [ep1] at hcp
    have hm1 := gn_x_mono hcut p 0 (by omega)
    have hm2 := gn_x_mono hcut k (ga_l g r - k) (by omega)
    rw [Nat.zero_add, hcut.1] at hm1
    rw [show ga_l g r - k + k = ga_l g r by omega, hcut.2.1] at hm2
    rw [e1]
    have e4 : ((7 * r + p : Nat) : Int) + -1 = ((7 * r + (ga_l g r - (k + 1)) : Nat) : Int) - 1 := by omega
    refine np_W_ck ⟨by omega, by omega⟩ ?_
    refine np_W_ck ⟨by rw [e2]; exact ⟨by omega, by omega⟩, by decide⟩ ?_
    refine np_W_if (fun hne => ?_) (fun hne => ?_)
    · rw [e2] at hne
      obtain ⟨h, eh⟩ : ∃ h : Nat, ga_h g r p = h := ⟨(ga_h g r p).toNat, by omega⟩
      obtain ⟨d1, d2, d3⟩ := hcp
      obtain ⟨d4, d5, d6⟩ := d3 hne
      unfold f_Chart_onlySplit
      have e5 : ((gn_xs g a (ga_l g r - k) : Nat) : Int) = ((x (ga_l g r - k) : Nat) : Int) := by rw [hx]
      have e6 : ((x (ga_l g r - k) : Nat) : Int) - 1 = ((x (ga_l g r - k) - 1 : Nat) : Int) := by omega
      refine np_W_bind ?_
      refine np_W_ck ⟨by omega, by omega⟩ ?_
      rw [e2, eh, e6]
      rw [eh] at d4 d6
      refine np_W_mono (gn_os hC hch htk (r := r) (p := p) (i := a.2.1) (e := x (ga_l g r - k)) (xp := x p) (h := h) r1 (by omega) (by omega) eh (by omega) (by omega) d1 (by have := (hcut.2.2.1 p (by omega)).2; omega) (by omega) d6 20000 (x (ga_l g r - k) - 1) (by omega) (by omega) (by omega)) (fun o ho => ?_)
      obtain ⟨v, τ⟩ := o
      obtain ⟨ee, hv⟩ := ho
      dsimp only at ee hv ⊢
      subst ee hv
      unfold f_Tree_awaitHoles_78 f_Tree_awaitHoles_100
      refine np_W_ck ⟨⟨by omega, by omega⟩, by decide⟩ ?_
      refine np_W_if (fun z => by omega) (fun _ => ?_)
      have eks : gn_ks g r x t (k + 1) = (ga_h g r p, x p, x (ga_l g r - k), (t : Int)) :: gn_ks g r x t k := by
        show (if ga_h g r (ga_l g r - (k + 1)) = -1 then _ else _) = _
        rw [← hpe, if_neg hne, ep1]
      have hl1 := gn_ks_len (g := g) r x (t : Int) (k := k + 1) (m := ga_l g r) (by omega)
      rw [eks] at hl1
      rw [List.length_append] at hb
      have hl2 : (gn_ks g r x t k ++ s).length = (gn_ks g r x t k).length + s.length := List.length_append
      have hl3 : ((ga_h g r p, x p, x (ga_l g r - k), (t : Int)) :: gn_ks g r x t k).length = (gn_ks g r x t k).length + 1 := rfl
      have aw := gn_aw hst hw (by omega) (h, x p, x (ga_l g r - k), (t : Int))
      refine np_W_seq aw (fun o ho => ?_)
      obtain ⟨v2, ρ⟩ := o
      obtain ⟨w1, w2, w3, w4⟩ := ho
      dsimp only at w1 w2 w3 w4 ⊢
      have henv2 := gn_env_fr henv w1 (by decide)
      have e7 : (((gn_ks g r x t k).length : Nat) : Int) + 1 = (((gn_ks g r x t (k + 1)).length : Nat) : Int) := by rw [eks, hl3]; omega
      rw [e7, e4]
      have := ih (k + 1) ρ (by omega) (by omega) henv2 (by rw [eks, eh]; exact w4) (by rw [eks, eh]; exact w2)
      rw [show ((x (ga_l g r - (k + 1)) : Nat) : Int) = ((x p : Nat) : Int) by rw [hpe], ekd] at this
      exact np_W_mono this (fun o ho => ⟨gx_fr_trans w1 ho.1, ho.2.1, ho.2.2.1, fun j hj => (ho.2.2.2.1 j hj).trans (w3 j hj), ho.2.2.2.2⟩)
    · rw [e2] at hne
      have hne := Classical.not_not.mp hne
      obtain ⟨d1, d2, d3⟩ := hcp
      have d4 := (d2 hne).1
      unfold f_Tree_awaitHoles_78 f_Tree_awaitHoles_100
      refine np_W_ck ⟨by rw [e2]; exact ⟨by omega, by omega⟩, by decide⟩ ?_
      refine np_W_if (fun _ => ?_) (fun z => absurd (by rw [e2]; exact hne) z)
      have eks : gn_ks g r x t (k + 1) = gn_ks g r x t k := by
        show (if ga_h g r (ga_l g r - (k + 1)) = -1 then _ else _) = _
        rw [← hpe, if_pos hne]
      have e8 : ((x (ga_l g r - k) : Nat) : Int) - 1 = ((x (ga_l g r - (k + 1)) : Nat) : Int) := by rw [← hpe]; omega
      rw [e4, e8]
      have := ih (k + 1) σ (by omega) (by omega) henv (by rw [eks]; exact hst) (by rw [eks]; exact hw)
      rw [eks, ekd] at this
      exact this
end
