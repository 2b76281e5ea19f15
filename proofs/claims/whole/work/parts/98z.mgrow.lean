/-! the reference grows its tree: kindOf, later, fillHoles -/
section
variable {g : ga_G} {n : Nat}
def gn_menv (g : ga_G) (n : Nat) (σ : np_S) : Prop := gy_M g n σ ∧ gy_done g n σ
theorem gn_menv_fr {σ τ : np_S} (h : gn_menv g n σ) {cs : List Nat} (k : gx_fr cs σ τ) (hc : ∀ c, c ∈ [1, 2, 3, 4, 5, 30, 31, 32, 33, 35, 37, 38] → c ∉ cs) (h29 : ∀ j, j ≠ 18 → j ≠ 27 → τ 29 j = σ 29 j) : gn_menv g n τ := by
  refine ⟨gy_M_eq h.1 (k 1 (hc 1 (by decide))) (k 2 (hc 2 (by decide))) (k 3 (hc 3 (by decide))) (k 4 (hc 4 (by decide))) (k 5 (hc 5 (by decide))) (h29 1 (by decide) (by decide)) (h29 2 (by decide) (by decide)) (h29 11 (by decide) (by decide)) (k 30 (hc 30 (by decide))) (k 31 (hc 31 (by decide))) (k 32 (hc 32 (by decide))) (k 33 (hc 33 (by decide))) (k 35 (hc 35 (by decide))), fun l i j a b c => ?_, fun i j a k2 p b c => ?_⟩
  · unfold gy_tm
    rw [k 37 (hc 37 (by decide))]
    exact h.2.1 l i j a b c
  · unfold gy_rw
    rw [k 38 (hc 38 (by decide))]
    exact h.2.2 i j a k2 p b c
theorem gn_kol {σ : np_S} (henv : gn_menv g n σ) {a : gn_sl} (ha : gn_ok g n a) : ∀ (f k : Nat) (v : Int), k + 2 ≤ ga_R g → ga_R g - 2 - k < f → ((2 ≤ gn_rs g a ∧ gn_rs g a < k + 2 → v = (gn_rs g a : Int) - 2) ∧ (¬ (2 ≤ gn_rs g a ∧ gn_rs g a < k + 2) → v = -2)) → np_W (f_M_kindOf_7 f a.1 a.2.1 a.2.2.1 v k σ) (fun o => o.2 = σ ∧ o.1 = (gn_rs g a : Int) - 2) := by
  obtain ⟨hM, hd⟩ := henv
  obtain ⟨hgp, n30, hC, hMM, e2, e11, hrow, hwd⟩ := id hM
  have R14 := hgp.2.2.1
  have R2 := hgp.2.1
  obtain ⟨⟨l0, l10⟩, a2, a3, a4⟩ := id ha
  obtain ⟨r1, r2, r3, r4⟩ := gn_rule hgp.1 n30 ha
  have atom : (a.2.2.1 = a.2.1 + 1 ∧ ga_t g a.2.1 = 0) ↔ gn_rs g a = 1 := by
    have s1 := gy_S1 hgp a.2.1 a.2.2.1
    constructor
    · intro h
      rw [if_pos h] at s1
      exact (r4 1 (by omega) (by rw [hgp.2.2.2.2.1.2.1]; exact l10) (by omega)).symm
    · intro h
      rw [h] at r3
      refine Classical.byContradiction (fun z => ?_)
      rw [if_neg z] at s1
      omega
  intro f
  induction f with
  | zero => intro k v _ h; omega
  | succ f ih =>
    intro k v hk hf hv
    show np_W (f_M_kindOf_7_b _ a.1 a.2.1 a.2.2.1 v k σ) _
    unfold f_M_kindOf_7_b f_M_kindOf_74 f_M_kindOf_76 f_M_kindOf_49
    have e2' : σ 29 2 = ((ga_R g - 2 : Nat) : Int) := by rw [e2]; omega
    rw [e2']
    refine np_W_ck ⟨⟨by omega, by omega⟩, ⟨by omega, by omega⟩⟩ ?_
    refine np_W_if (fun z => ?_) (fun z => ?_)
    · have ek : k + 2 = ga_R g := by omega
      have fin : gn_rs g a ≠ 1 → v = (gn_rs g a : Int) - 2 := by
        intro y
        by_cases y2 : 2 ≤ gn_rs g a
        · exact hv.1 ⟨y2, by omega⟩
        · rw [hv.2 (fun q => y2 q.1)]; omega
      refine np_W_ck ⟨⟨by omega, by omega⟩, ⟨by omega, by omega⟩⟩ ?_
      refine np_W_if (fun y => np_W_some ⟨rfl, fin (fun q => ?_)⟩) (fun y => ?_)
      · have := (atom.mpr q).1
        omega
      refine np_W_seq (gy_atom hM (i := a.2.1) (by omega)) (fun o ho => ?_)
      obtain ⟨w, τ⟩ := o
      obtain ⟨e, hb⟩ := ho
      dsimp only at e hb ⊢
      subst e
      refine np_W_ck (gs_bo_R hb) ?_
      refine np_W_if (fun y2 => np_W_some ⟨rfl, fin (fun q => (gs_bo_1 hb).mpr (atom.mpr q).2 y2)⟩) (fun y2 => np_W_some ⟨rfl, ?_⟩)
      have := atom.mp ⟨by omega, (gs_bo_1 hb).mp y2⟩
      dsimp only
      rw [this]; rfl
    · have hk2 : k + 2 < ga_R g := by omega
      have e33 := (hrow k hk2).2.1
      have hvk := (hgp.1 (k + 2) hk2).2.1
      have e5 : (k : Int) + 1 = ((k + 1 : Nat) : Int) := by omega
      rw [e5]
      have next : gn_rs g a ≠ k + 2 → np_W (f_M_kindOf_7 f a.1 a.2.1 a.2.2.1 v (((k + 1 : Nat)) : Int) σ) (fun o => o.2 = σ ∧ o.1 = (gn_rs g a : Int) - 2) := fun y => ih (k + 1) v (by omega) (by omega) ⟨fun q => hv.1 (by omega), fun q => hv.2 (by omega)⟩
      refine np_W_ck ⟨by omega, by omega⟩ ?_
      refine np_W_ck ⟨by rw [e33]; exact ⟨by omega, by omega⟩, ⟨by omega, by omega⟩⟩ ?_
      refine np_W_if (fun y => next (fun q => ?_)) (fun y => ?_)
      · rw [e33, ← q] at y; omega
      rw [e33] at y
      have e6 : 7 * (k : Int) = ((7 * k + 0 : Nat) : Int) := by omega
      rw [e6, gy_cell]
      refine np_W_bind (np_W_some ?_)
      dsimp only
      have b38 : gy_ix (7 * k + 0) a.2.1 a.2.2.1 < 80724 := by unfold gy_ix; omega
      have er := hd.2 a.2.1 a.2.2.1 ⟨by omega, a3⟩ k 0 hk2 (by omega)
      unfold gy_rw at er
      rw [Nat.sub_zero] at er
      have bs := ga_sat_le (ga_S g (ga_C g) (k + 2) (ga_l g (k + 2)) a.2.1 a.2.2.1)
      refine np_W_ck ⟨by omega, by omega⟩ ?_
      refine np_W_ck (by rw [er]; exact ⟨by omega, by omega⟩) ?_
      refine np_W_if (fun y2 => next (fun q => ?_)) (fun y2 => ?_)
      · rw [er, ← q, r3] at y2
        exact absurd y2 (by decide)
      · rw [er] at y2
        have := r4 (k + 2) hk2 (by omega) (ga_sat_pos.mp (by omega))
        exact ih (k + 1) (k : Int) (by omega) (by omega) ⟨fun _ => by omega, fun q => absurd ⟨by omega, by omega⟩ q⟩
theorem gn_ko {σ : np_S} (henv : gn_menv g n σ) {a : gn_sl} (ha : gn_ok g n a) : np_W (f_M_kindOf a.1 a.2.1 a.2.2.1 σ) (fun o => o.2 = σ ∧ o.1 = (gn_rs g a : Int) - 2) := by
  unfold f_M_kindOf
  exact gn_kol henv ha 20000 0 (-2) (by have := henv.1.1.2.1; omega) (by have := henv.1.1.2.2.1; omega) ⟨fun q => by omega, fun _ => rfl⟩
def gn_at (σ : np_S) (i : Nat) (a : gn_sl) : Prop := σ 45 (i : Int) = a.1 ∧ σ 46 (i : Int) = a.2.1 ∧ σ 47 (i : Int) = a.2.2.1 ∧ σ 48 (i : Int) = a.2.2.2
def gn_stm (σ : np_S) : List gn_sl → Prop
  | [] => True
  | a :: s => gn_at σ s.length a ∧ gn_stm σ s
theorem gn_stm_congr {σ τ : np_S} : ∀ (s : List gn_sl), (∀ i : Nat, i < s.length → τ 45 (i : Int) = σ 45 (i : Int) ∧ τ 46 (i : Int) = σ 46 (i : Int) ∧ τ 47 (i : Int) = σ 47 (i : Int) ∧ τ 48 (i : Int) = σ 48 (i : Int)) → gn_stm σ s → gn_stm τ s := by
  intro s
  induction s with
  | nil => intro _ _; trivial
  | cons a s ih =>
    intro h hs
    obtain ⟨e1, e2, e3, e4⟩ := h s.length (by show s.length < s.length + 1; omega)
    refine ⟨?_, ih (fun i hi => h i (by show i < s.length + 1; omega)) hs.2⟩
    unfold gn_at
    rw [e1, e2, e3, e4]
    exact hs.1
/-- the stack by index: l lies on s, from its last up -/
theorem gn_stm_app {σ : np_S} {s : List gn_sl} : ∀ (l : List gn_sl), gn_stm σ (l ++ s) ↔ gn_stm σ s ∧ ∀ q, q < l.length → gn_at σ (s.length + q) (l.getD (l.length - 1 - q) (0, 0, 0, 0)) := by
  intro l
  induction l with
  | nil => exact ⟨fun h => ⟨h, fun q hq => absurd hq (Nat.not_lt_zero _)⟩, fun h => h.1⟩
  | cons a l ih =>
    show (gn_at σ (l ++ s).length a ∧ gn_stm σ (l ++ s)) ↔ _
    rw [ih, List.length_append]
    constructor
    · rintro ⟨h1, h2, h3⟩
      refine ⟨h2, fun q hq => ?_⟩
      have hq : q < l.length + 1 := hq
      by_cases e : q = l.length
      · subst e
        rw [show (a :: l).length - 1 - l.length = 0 by show l.length + 1 - 1 - l.length = 0; omega, Nat.add_comm]
        exact h1
      · have := h3 q (by omega)
        rw [show (a :: l).length - 1 - q = (l.length - 1 - q) + 1 by show l.length + 1 - 1 - q = _; omega]
        exact this
    · rintro ⟨h2, h3⟩
      refine ⟨?_, h2, fun q hq => ?_⟩
      · have := h3 l.length (by show l.length < l.length + 1; omega)
        rw [show (a :: l).length - 1 - l.length = 0 by show l.length + 1 - 1 - l.length = 0; omega, Nat.add_comm] at this
        exact this
      · have := h3 q (by show q < l.length + 1; omega)
        rw [show (a :: l).length - 1 - q = (l.length - 1 - q) + 1 by show l.length + 1 - 1 - q = _; omega] at this
        exact this
def gn_pm (l i j h : Int) (σ : np_S) : np_S := np_st (np_st (np_st (np_st (np_st σ 45 (σ 29 27) l) 46 (σ 29 27) i) 47 (σ 29 27) j) 48 (σ 29 27) h) 29 27 (σ 29 27 + 1)
theorem gn_lt {σ : np_S} {s : List gn_sl} (hs : gn_stm σ s) (hw : σ 29 27 = (s.length : Nat)) (hl : s.length < 80) (a : gn_sl) : np_W (f_M_later a.1 a.2.1 a.2.2.1 a.2.2.2 σ) (fun o => gx_fr [29, 45, 46, 47, 48] σ o.2 ∧ o.2 29 27 = ((a :: s).length : Nat) ∧ (∀ j, j ≠ 27 → o.2 29 j = σ 29 j) ∧ gn_stm o.2 (a :: s)) := by
  have e : f_M_later a.1 a.2.1 a.2.2.1 a.2.2.2 σ = np_ck ((0 : Int) ≤ σ 29 27 ∧ σ 29 27 < 80) (np_ck ((0 : Int) ≤ σ 29 27 ∧ σ 29 27 < 80) (np_ck ((0 : Int) ≤ σ 29 27 ∧ σ 29 27 < 80) (np_ck ((0 : Int) ≤ σ 29 27 ∧ σ 29 27 < 80) (some (0, gn_pm a.1 a.2.1 a.2.2.1 a.2.2.2 σ))))) := rfl
  rw [e]
  refine np_W_ck ⟨by omega, by omega⟩ (np_W_ck ⟨by omega, by omega⟩ (np_W_ck ⟨by omega, by omega⟩ (np_W_ck ⟨by omega, by omega⟩ (np_W_some ⟨fun k hk => ?_, ?_, fun j hj => ?_, ⟨?_, ?_⟩⟩))))
  · simp only [List.mem_cons, List.not_mem_nil, or_false, not_or] at hk
    dsimp only
    unfold gn_pm
    rw [np_st_o _ _ _ hk.1, np_st_o _ _ _ hk.2.2.2.2, np_st_o _ _ _ hk.2.2.2.1, np_st_o _ _ _ hk.2.2.1, np_st_o _ _ _ hk.2.1]
  · dsimp only
    unfold gn_pm
    rw [np_st_s, hw]; rfl
  · dsimp only
    unfold gn_pm
    rw [np_st_n _ _ _ hj, np_st_o _ _ _ (by decide), np_st_o _ _ _ (by decide), np_st_o _ _ _ (by decide), np_st_o _ _ _ (by decide)]
  · dsimp only
    unfold gn_pm gn_at
    rw [hw]
    refine ⟨?_, ?_, ?_, ?_⟩
    · rw [np_st_o _ _ _ (by decide), np_st_o _ _ _ (by decide), np_st_o _ _ _ (by decide), np_st_o _ _ _ (by decide), np_st_s]
    · rw [np_st_o _ _ _ (by decide), np_st_o _ _ _ (by decide), np_st_o _ _ _ (by decide), np_st_s]
    · rw [np_st_o _ _ _ (by decide), np_st_o _ _ _ (by decide), np_st_s]
    · rw [np_st_o _ _ _ (by decide), np_st_s]
  · refine gn_stm_congr s (fun i hi => ?_) hs
    dsimp only
    unfold gn_pm
    refine ⟨?_, ?_, ?_, ?_⟩
    · rw [np_st_o _ _ _ (by decide), np_st_o _ _ _ (by decide), np_st_o _ _ _ (by decide), np_st_o _ _ _ (by decide), np_st_n _ _ _ (by omega)]
    · rw [np_st_o _ _ _ (by decide), np_st_o _ _ _ (by decide), np_st_o _ _ _ (by decide), np_st_n _ _ _ (by omega), np_st_o _ _ _ (by decide)]
    · rw [np_st_o _ _ _ (by decide), np_st_o _ _ _ (by decide), np_st_n _ _ _ (by omega), np_st_o _ _ _ (by decide), np_st_o _ _ _ (by decide)]
    · rw [np_st_o _ _ _ (by decide), np_st_n _ _ _ (by omega), np_st_o _ _ _ (by decide), np_st_o _ _ _ (by decide), np_st_o _ _ _ (by decide)]
def gn_sw (a b : Int) (σ : np_S) : np_S := np_st (np_st (np_st (np_st (np_st (np_st σ 45 a (σ 45 b)) 46 a (σ 46 b)) 47 a (σ 47 b)) 45 b (σ 45 a)) 46 b (σ 46 a)) 47 b (σ 47 a)
theorem gn_swap {a b : Nat} (ha : a < 80) (hb : b < 80) (σ : np_S) : f_M_change a b σ = some (0, gn_sw a b σ) := by
  unfold f_M_change
  rw [np_ck_i ⟨by omega, by omega⟩, np_ck_i ⟨by omega, by omega⟩, np_ck_i ⟨by omega, by omega⟩, np_ck_i ⟨by omega, by omega⟩, np_ck_i ⟨by omega, by omega⟩, np_ck_i ⟨by omega, by omega⟩, np_ck_i ⟨by omega, by omega⟩, np_ck_i ⟨by omega, by omega⟩, np_ck_i ⟨by omega, by omega⟩, np_ck_i ⟨by omega, by omega⟩, np_ck_i ⟨by omega, by omega⟩, np_ck_i ⟨by omega, by omega⟩]
  rfl
theorem gn_sw_rd (a b i : Int) (σ : np_S) : gn_sw a b σ 45 i = (if i = b then σ 45 a else if i = a then σ 45 b else σ 45 i) ∧ gn_sw a b σ 46 i = (if i = b then σ 46 a else if i = a then σ 46 b else σ 46 i) ∧ gn_sw a b σ 47 i = (if i = b then σ 47 a else if i = a then σ 47 b else σ 47 i) ∧ gn_sw a b σ 48 i = σ 48 i := by
  unfold gn_sw
  refine ⟨?_, ?_, ?_, ?_⟩
  · rw [np_st_o _ _ _ (by decide), np_st_o _ _ _ (by decide), np_st_rd, if_pos rfl, np_st_o _ _ _ (by decide), np_st_o _ _ _ (by decide), np_st_rd, if_pos rfl]
  · rw [np_st_o _ _ _ (by decide), np_st_rd, if_pos rfl, np_st_o _ _ _ (by decide), np_st_o _ _ _ (by decide), np_st_rd, if_pos rfl, np_st_o _ _ _ (by decide)]
  · rw [np_st_rd, if_pos rfl, np_st_o _ _ _ (by decide), np_st_o _ _ _ (by decide), np_st_rd, if_pos rfl, np_st_o _ _ _ (by decide), np_st_o _ _ _ (by decide)]
  · rw [np_st_o _ _ _ (by decide), np_st_o _ _ _ (by decide), np_st_o _ _ _ (by decide), np_st_o _ _ _ (by decide), np_st_o _ _ _ (by decide), np_st_o _ _ _ (by decide)]
theorem gn_sw_fr (a b : Int) (σ : np_S) : gx_fr [45, 46, 47] σ (gn_sw a b σ) := by
  intro k hk
  simp only [List.mem_cons, List.not_mem_nil, or_false, not_or] at hk
  unfold gn_sw
  rw [np_st_o _ _ _ hk.2.2, np_st_o _ _ _ hk.2.1, np_st_o _ _ _ hk.1, np_st_o _ _ _ hk.2.2, np_st_o _ _ _ hk.2.1, np_st_o _ _ _ hk.1]
/-- turning the slots of one holder around -/
theorem gn_rev {B m : Nat} (hm : B + m ≤ 80) {c : Nat → gn_sl} {nd : Int} (hnd : ∀ q, q < m → (c q).2.2.2 = nd) : ∀ (f x : Nat) (σ : np_S), 2 * x ≤ m + 1 → m - x < f → (∀ q, q < m → gn_at σ (B + q) (if x ≤ q ∧ q + x < m then c q else c (m - 1 - q))) → np_W (f_M_fillHoles_168 f (((B + x : Nat)) : Int) (((B + m : Nat) : Int) - 1 - x) σ) (fun o => gx_fr [45, 46, 47] σ o.2 ∧ (∀ i : Nat, i < B → o.2 45 (i : Int) = σ 45 (i : Int) ∧ o.2 46 (i : Int) = σ 46 (i : Int) ∧ o.2 47 (i : Int) = σ 47 (i : Int)) ∧ ∀ q, q < m → gn_at o.2 (B + q) (c (m - 1 - q))) := by
  intro f
  induction f with
  | zero => intro x σ _ h; omega
  | succ f ih =>
    intro x σ hx hf hc
    show np_W (f_M_fillHoles_168_b _ _ _ σ) _
    unfold f_M_fillHoles_168_b
    refine np_W_ck ⟨⟨by omega, by omega⟩, ⟨by omega, by omega⟩⟩ ?_
    refine np_W_if (fun z => np_W_some ⟨gx_fr_refl _ _, fun i hi => ⟨rfl, rfl, rfl⟩, fun q hq => ?_⟩) (fun z => ?_)
    · have := hc q hq
      by_cases y : x ≤ q ∧ q + x < m
      · rw [if_pos y] at this
        rw [show m - 1 - q = q by omega]; exact this
      · rw [if_neg y] at this; exact this
    · have e1 : ((B + m : Nat) : Int) - 1 - (x : Int) = ((B + (m - 1 - x) : Nat) : Int) := by omega
      rw [e1, gn_swap (by omega) (by omega)]
      refine np_W_bind (np_W_some ?_)
      dsimp only
      have e2 : ((B + x : Nat) : Int) + 1 = ((B + (x + 1) : Nat) : Int) := by omega
      have e3 : ((B + (m - 1 - x) : Nat) : Int) + -1 = ((B + m : Nat) : Int) - 1 - ((x + 1 : Nat) : Int) := by omega
      rw [e2, e3]
      refine np_W_mono (ih (x + 1) _ (by omega) (by omega) (fun q hq => ?_)) (fun o ho => ⟨gx_fr_trans (gn_sw_fr _ _ _) ho.1, fun i hi => ?_, ho.2.2⟩)
      · obtain ⟨w1, w2, w3, w4⟩ := gn_sw_rd ((B + x : Nat) : Int) ((B + (m - 1 - x) : Nat) : Int) ((B + q : Nat) : Int) σ
        have hx1 := hc x (by omega)
        have hx2 := hc (m - 1 - x) (by omega)
        have hq1 := hc q hq
        rw [if_pos (by omega)] at hx1 hx2
        by_cases y1 : q = m - 1 - x
        · have ho : (if x + 1 ≤ q ∧ q + (x + 1) < m then c q else c (m - 1 - q)) = c x := by
            rw [if_neg (by omega)]; congr 1; omega
          have hb : ((B + q : Nat) : Int) = ((B + (m - 1 - x) : Nat) : Int) := by omega
          rw [if_pos (by omega)] at hq1
          rw [ho]
          unfold gn_at
          rw [w1, w2, w3, w4, if_pos hb, if_pos hb, if_pos hb]
          exact ⟨hx1.1, hx1.2.1, hx1.2.2.1, by rw [hq1.2.2.2, hnd _ hq, hnd _ (by omega)]⟩
        · have hb : ¬ ((B + q : Nat) : Int) = ((B + (m - 1 - x) : Nat) : Int) := by omega
          by_cases y2 : q = x
          · have ho : (if x + 1 ≤ q ∧ q + (x + 1) < m then c q else c (m - 1 - q)) = c (m - 1 - x) := by
              rw [if_neg (by omega), y2]
            have hb2 : ((B + q : Nat) : Int) = ((B + x : Nat) : Int) := by omega
            rw [if_pos (by omega)] at hq1
            rw [ho]
            unfold gn_at
            rw [w1, w2, w3, w4, if_neg hb, if_neg hb, if_neg hb, if_pos hb2, if_pos hb2, if_pos hb2]
            exact ⟨hx2.1, hx2.2.1, hx2.2.2.1, by rw [hq1.2.2.2, hnd _ hq, hnd _ (by omega)]⟩
          · have hb2 : ¬ ((B + q : Nat) : Int) = ((B + x : Nat) : Int) := by omega
            have ho : (if x + 1 ≤ q ∧ q + (x + 1) < m then c q else c (m - 1 - q)) = (if x ≤ q ∧ q + x < m then c q else c (m - 1 - q)) := by
              by_cases y3 : x ≤ q ∧ q + x < m
              · rw [if_pos y3, if_pos (by omega)]
              · rw [if_neg y3, if_neg (by omega)]
            rw [ho]
            unfold gn_at
            rw [w1, w2, w3, w4, if_neg hb, if_neg hb, if_neg hb, if_neg hb2, if_neg hb2, if_neg hb2]
            exact hq1
      · obtain ⟨w1, w2, w3, w4⟩ := gn_sw_rd ((B + x : Nat) : Int) ((B + (m - 1 - x) : Nat) : Int) ((i : Nat) : Int) σ
        obtain ⟨v1, v2, v3⟩ := ho.2.1 i hi
        rw [v1, v2, v3, w1, w2, w3, if_neg (by omega), if_neg (by omega), if_neg (by omega), if_neg (by omega), if_neg (by omega), if_neg (by omega)]
        exact ⟨rfl, rfl, rfl⟩
end
