/-! printing: bytes, the reference's stack of pieces -/
def gq_bk (w : Int) : Nat → List Int
  | 0 => []
  | k + 1 => (if gb_by w k = 0 then [] else [gb_by w k]) ++ gq_bk w k
def gq_em (O : List Int) (w : Int) : List Int := O ++ (if O.length = 0 then [] else [32]) ++ gq_bk w 8
def gq_om (σ : np_S) (O : List Int) : Prop := σ 29 28 = (O.length : Nat) ∧ ∀ i : Nat, i < O.length → σ 49 (i : Int) = O.getD i 0
theorem gq_getD_l (O : List Int) (v : Int) {i : Nat} (h : i < O.length) : (O ++ [v]).getD i 0 = O.getD i 0 := by
  rw [List.getD_eq_getElem?_getD, List.getD_eq_getElem?_getD, List.getElem?_append_left h]
theorem gq_getD_r (O : List Int) (v : Int) : (O ++ [v]).getD O.length 0 = v := by
  rw [List.getD_eq_getElem?_getD, List.getElem?_append_right (Nat.le_refl _), Nat.sub_self]; rfl
theorem gq_bk_le (w : Int) (k : Nat) : (gq_bk w k).length ≤ k := by
  induction k with
  | zero => exact Nat.le_refl _
  | succ k ih =>
    show ((if gb_by w k = 0 then [] else [gb_by w k]) ++ gq_bk w k).length ≤ k + 1
    rw [List.length_append]
    split
    · show 0 + _ ≤ _; omega
    · show 1 + _ ≤ _; omega
theorem gq_om_add {σ : np_S} {O : List Int} (h : gq_om σ O) (v : Int) : gq_om (np_st (np_st σ 49 (σ 29 28) v) 29 28 (σ 29 28 + 1)) (O ++ [v]) := by
  refine ⟨?_, fun i hi => ?_⟩
  · rw [np_st_s, h.1, List.length_append]; rfl
  · rw [List.length_append] at hi
    have hi : i < O.length + 1 := hi
    rw [np_st_o _ _ _ (by decide), np_st_rd, if_pos rfl, h.1]
    by_cases e : i = O.length
    · rw [if_pos (by omega), e, gq_getD_r]
    · rw [if_neg (by omega), gq_getD_l _ _ (by omega)]
      exact h.2 i (by omega)
theorem gq_pw (w : Int) : ∀ (f k : Nat) (σ : np_S) (O : List Int), k ≤ 8 → k < f → gq_om σ O → O.length + k ≤ 1200 → np_W (f_M_putWord_31 f w (8 * (k : Int) - 8) σ) (fun o => gx_fr [29, 49] σ o.2 ∧ (∀ j, j ≠ 28 → o.2 29 j = σ 29 j) ∧ gq_om o.2 (O ++ gq_bk w k)) := by
  intro f
  induction f with
  | zero => intro k σ O _ h; omega
  | succ f ih =>
    intro k σ O hk hf hO hl
    show np_W (f_M_putWord_31_b _ w (8 * (k : Int) - 8) σ) _
    unfold f_M_putWord_31_b f_M_putWord_74
    refine np_W_ck ⟨by omega, by omega⟩ ?_
    cases k with
    | zero =>
      refine np_W_if (fun _ => np_W_some ⟨gx_fr_refl _ _, fun _ _ => rfl, ?_⟩) (fun z => by omega)
      rw [show gq_bk w 0 = [] from rfl, List.append_nil]; exact hO
    | succ k =>
      have e1 : 8 * ((k + 1 : Nat) : Int) - 8 = 8 * (k : Int) := by omega
      have e2 : 8 * (k : Int) + -8 = 8 * (k : Int) - 8 := by omega
      rw [e1, e2, gb_byM w (by omega)]
      have hr := gb_by_r w k
      refine np_W_if (fun z => by omega) (fun _ => ?_)
      refine np_W_ck ⟨by omega, by omega⟩ ?_
      refine np_W_if (fun z => ?_) (fun z => ?_)
      · refine np_W_ck (by rw [hO.1]; exact ⟨by omega, by omega⟩) ?_
        show np_W (f_M_putWord_31 f w (8 * (k : Int) - 8) (np_st (np_st σ 49 (σ 29 28) (gb_by w k)) 29 28 (σ 29 28 + 1))) _
        have hO2 := gq_om_add hO (gb_by w k)
        have fr : gx_fr [29, 49] σ (np_st (np_st σ 49 (σ 29 28) (gb_by w k)) 29 28 (σ 29 28 + 1)) := gx_fr_trans (gx_fr_mono (gx_fr_st _ _ _ _) (by simp)) (gx_fr_mono (gx_fr_st _ _ _ _) (by simp))
        have hlen : (O ++ [gb_by w k]).length = O.length + 1 := by rw [List.length_append]; rfl
        refine np_W_mono (ih k _ _ (by omega) (by omega) hO2 (by omega)) (fun o ho => ⟨gx_fr_trans fr ho.1, fun j hj => ?_, ?_⟩)
        · rw [ho.2.1 j hj, np_st_n _ _ _ hj, np_st_o _ _ _ (by decide)]
        · have : gq_bk w (k + 1) = [gb_by w k] ++ gq_bk w k := by
            show (if gb_by w k = 0 then [] else [gb_by w k]) ++ gq_bk w k = _
            rw [if_neg z]
          rw [this, ← List.append_assoc]; exact ho.2.2
      · have z := Classical.not_not.mp z
        refine np_W_mono (ih k σ O (by omega) (by omega) hO (by omega)) (fun o ho => ⟨ho.1, ho.2.1, ?_⟩)
        have : gq_bk w (k + 1) = gq_bk w k := by
          show (if gb_by w k = 0 then [] else [gb_by w k]) ++ gq_bk w k = _
          rw [if_pos z]; rfl
        rw [this]; exact ho.2.2
theorem gq_put {σ : np_S} {O : List Int} (hO : gq_om σ O) (hl : O.length ≤ 1000) (w : Int) : np_W (f_M_putWord w σ) (fun o => gx_fr [29, 49] σ o.2 ∧ (∀ j, j ≠ 28 → o.2 29 j = σ 29 j) ∧ gq_om o.2 (gq_em O w)) := by
  unfold f_M_putWord f_M_putWord_28
  have e56 : (56 : Int) = 8 * ((8 : Nat) : Int) - 8 := by decide
  refine np_W_ck (by rw [hO.1]; exact ⟨by omega, by omega⟩) ?_
  refine np_W_if (fun z => ?_) (fun z => ?_)
  · rw [hO.1] at z
    rw [e56]
    refine np_W_mono (gq_pw w 20000 8 σ O (by omega) (by omega) hO (by omega)) (fun o ho => ⟨ho.1, ho.2.1, ?_⟩)
    unfold gq_em
    rw [if_pos (by omega), List.append_nil]; exact ho.2.2
  · rw [hO.1] at z
    refine np_W_ck (by rw [hO.1]; exact ⟨by omega, by omega⟩) ?_
    show np_W (f_M_putWord_31 20000 w 56 (np_st (np_st σ 49 (σ 29 28) 32) 29 28 (σ 29 28 + 1))) _
    rw [e56]
    have hO2 := gq_om_add hO 32
    have fr : gx_fr [29, 49] σ (np_st (np_st σ 49 (σ 29 28) 32) 29 28 (σ 29 28 + 1)) := gx_fr_trans (gx_fr_mono (gx_fr_st _ _ _ _) (by simp)) (gx_fr_mono (gx_fr_st _ _ _ _) (by simp))
    have hlen : (O ++ [(32 : Int)]).length = O.length + 1 := by rw [List.length_append]; rfl
    refine np_W_mono (gq_pw w 20000 8 _ _ (by omega) (by omega) hO2 (by omega)) (fun o ho => ⟨gx_fr_trans fr ho.1, fun j hj => ?_, ?_⟩)
    · rw [ho.2.1 j hj, np_st_n _ _ _ hj, np_st_o _ _ _ (by decide)]
    · unfold gq_em
      rw [if_neg (by omega)]; exact ho.2.2
/-! the stack todo -/
def gq_st (σ : np_S) : List Int → Prop
  | [] => True
  | x :: s => σ 50 (s.length : Int) = x ∧ gq_st σ s
theorem gq_st_congr {σ τ : np_S} : ∀ (s : List Int), (∀ i : Nat, i < s.length → τ 50 (i : Int) = σ 50 (i : Int)) → gq_st σ s → gq_st τ s := by
  intro s
  induction s with
  | nil => intro _ _; trivial
  | cons a s ih =>
    intro h hs
    exact ⟨by rw [h s.length (by show s.length < s.length + 1; omega)]; exact hs.1, ih (fun i hi => h i (by show i < s.length + 1; omega)) hs.2⟩
theorem gq_st_app {σ : np_S} {s : List Int} : ∀ (l : List Int), gq_st σ (l ++ s) ↔ gq_st σ s ∧ ∀ q, q < l.length → σ 50 (((s.length + q : Nat)) : Int) = l.getD (l.length - 1 - q) 0 := by
  intro l
  induction l with
  | nil => exact ⟨fun h => ⟨h, fun q hq => absurd hq (Nat.not_lt_zero _)⟩, fun h => h.1⟩
  | cons a l ih =>
    show (σ 50 (((l ++ s).length : Nat) : Int) = a ∧ gq_st σ (l ++ s)) ↔ _
    rw [ih, List.length_append]
    constructor
    · rintro ⟨h1, h2, h3⟩
      refine ⟨h2, fun q hq => ?_⟩
      have hq : q < l.length + 1 := hq
      by_cases e : q = l.length
      · subst e
        rw [show (a :: l).length - 1 - l.length = 0 by show l.length + 1 - 1 - l.length = 0; omega, Nat.add_comm]
        exact h1
      · have := h3 q (by omega)
        rw [show (a :: l).length - 1 - q = (l.length - 1 - q) + 1 by show l.length + 1 - 1 - q = _; omega]
        exact this
    · rintro ⟨h2, h3⟩
      refine ⟨?_, h2, fun q hq => ?_⟩
      · have := h3 l.length (by show l.length < l.length + 1; omega)
        rw [show (a :: l).length - 1 - l.length = 0 by show l.length + 1 - 1 - l.length = 0; omega, Nat.add_comm] at this
        exact this
      · have := h3 q (by show q < l.length + 1; omega)
        rw [show (a :: l).length - 1 - q = (l.length - 1 - q) + 1 by show l.length + 1 - 1 - q = _; omega] at this
        exact this
theorem gq_puts {σ : np_S} {s : List Int} (hs : gq_st σ s) (hw : σ 29 27 = (s.length : Nat)) (hl : s.length < 400) (x : Int) : np_W (f_M_puts x σ) (fun o => gx_fr [29, 50] σ o.2 ∧ (∀ j, j ≠ 27 → o.2 29 j = σ 29 j) ∧ o.2 29 27 = ((x :: s).length : Nat) ∧ gq_st o.2 (x :: s)) := by
  have e : f_M_puts x σ = np_ck ((0 : Int) ≤ σ 29 27 ∧ σ 29 27 < 400) (some (0, np_st (np_st σ 50 (σ 29 27) x) 29 27 (σ 29 27 + 1))) := rfl
  rw [e]
  refine np_W_ck (by rw [hw]; exact ⟨by omega, by omega⟩) (np_W_some ⟨gx_fr_trans (gx_fr_mono (gx_fr_st _ _ _ _) (by simp)) (gx_fr_mono (gx_fr_st _ _ _ _) (by simp)), fun j hj => ?_, ?_, ?_, ?_⟩)
  · dsimp only
    rw [np_st_n _ _ _ hj, np_st_o _ _ _ (by decide)]
  · dsimp only
    rw [np_st_s, hw]; rfl
  · dsimp only
    rw [np_st_o _ _ _ (by decide), hw, np_st_s]
  · refine gq_st_congr s (fun i hi => ?_) hs
    dsimp only
    rw [np_st_o _ _ _ (by decide), np_st_n _ _ _ (by omega)]
theorem gq_rev {B m : Nat} (hm : B + m ≤ 400) {c : Nat → Int} : ∀ (f x : Nat) (σ : np_S), 2 * x ≤ m + 1 → m - x < f → (∀ q, q < m → σ 50 (((B + q : Nat)) : Int) = if x ≤ q ∧ q + x < m then c q else c (m - 1 - q)) → np_W (f_M_takeApart_232 f (((B + x : Nat)) : Int) (((B + m : Nat) : Int) - 1 - x) σ) (fun o => gx_fr [50] σ o.2 ∧ (∀ i : Nat, i < B → o.2 50 (i : Int) = σ 50 (i : Int)) ∧ ∀ q, q < m → o.2 50 (((B + q : Nat)) : Int) = c (m - 1 - q)) := by
  intro f
  induction f with
  | zero => intro x σ _ h; omega
  | succ f ih =>
    intro x σ hx hf hc
    show np_W (f_M_takeApart_232_b _ _ _ σ) _
    unfold f_M_takeApart_232_b
    refine np_W_ck ⟨⟨by omega, by omega⟩, ⟨by omega, by omega⟩⟩ ?_
    refine np_W_if (fun z => np_W_some ⟨gx_fr_refl _ _, fun i hi => rfl, fun q hq => ?_⟩) (fun z => ?_)
    · have := hc q hq
      by_cases y : x ≤ q ∧ q + x < m
      · rw [if_pos y] at this
        rw [show m - 1 - q = q by omega]; exact this
      · rw [if_neg y] at this; exact this
    · have e1 : ((B + m : Nat) : Int) - 1 - (x : Int) = ((B + (m - 1 - x) : Nat) : Int) := by omega
      rw [e1]
      refine np_W_ck ⟨by omega, by omega⟩ (np_W_ck ⟨by omega, by omega⟩ (np_W_ck ⟨by omega, by omega⟩ (np_W_ck ⟨by omega, by omega⟩ ?_)))
      have e2 : ((B + x : Nat) : Int) + 1 = ((B + (x + 1) : Nat) : Int) := by omega
      have e3 : ((B + (m - 1 - x) : Nat) : Int) + -1 = ((B + m : Nat) : Int) - 1 - ((x + 1 : Nat) : Int) := by omega
      rw [e2, e3]
      have rd : ∀ i : Int, np_st (np_st σ 50 ((B + x : Nat) : Int) (σ 50 ((B + (m - 1 - x) : Nat) : Int))) 50 ((B + (m - 1 - x) : Nat) : Int) (σ 50 ((B + x : Nat) : Int)) 50 i = if i = ((B + (m - 1 - x) : Nat) : Int) then σ 50 ((B + x : Nat) : Int) else if i = ((B + x : Nat) : Int) then σ 50 ((B + (m - 1 - x) : Nat) : Int) else σ 50 i := by
        intro i
        rw [np_st_rd, if_pos rfl, np_st_rd, if_pos rfl]
      have fr : gx_fr [50] σ (np_st (np_st σ 50 ((B + x : Nat) : Int) (σ 50 ((B + (m - 1 - x) : Nat) : Int))) 50 ((B + (m - 1 - x) : Nat) : Int) (σ 50 ((B + x : Nat) : Int))) := gx_fr_trans (gx_fr_st _ _ _ _) (gx_fr_st _ _ _ _)
      refine np_W_mono (ih (x + 1) _ (by omega) (by omega) (fun q hq => ?_)) (fun o ho => ⟨gx_fr_trans fr ho.1, fun i hi => ?_, ho.2.2⟩)
      · rw [rd]
        have hx1 := hc x (by omega)
        have hx2 := hc (m - 1 - x) (by omega)
        have hq1 := hc q hq
        rw [if_pos (by omega)] at hx1 hx2
        by_cases y1 : q = m - 1 - x
        · have ho : (if x + 1 ≤ q ∧ q + (x + 1) < m then c q else c (m - 1 - q)) = c x := by
            rw [if_neg (by omega)]; congr 1; omega
          have hb : ((B + q : Nat) : Int) = ((B + (m - 1 - x) : Nat) : Int) := by omega
          rw [ho, if_pos hb]; exact hx1
        · have hb : ¬ ((B + q : Nat) : Int) = ((B + (m - 1 - x) : Nat) : Int) := by omega
          by_cases y2 : q = x
          · have ho : (if x + 1 ≤ q ∧ q + (x + 1) < m then c q else c (m - 1 - q)) = c (m - 1 - x) := by
              rw [if_neg (by omega), y2]
            have hb2 : ((B + q : Nat) : Int) = ((B + x : Nat) : Int) := by omega
            rw [ho, if_neg hb, if_pos hb2]; exact hx2
          · have hb2 : ¬ ((B + q : Nat) : Int) = ((B + x : Nat) : Int) := by omega
            have ho : (if x + 1 ≤ q ∧ q + (x + 1) < m then c q else c (m - 1 - q)) = (if x ≤ q ∧ q + x < m then c q else c (m - 1 - q)) := by
              by_cases y3 : x ≤ q ∧ q + x < m
              · rw [if_pos y3, if_pos (by omega)]
              · rw [if_neg y3, if_neg (by omega)]
            rw [ho, if_neg hb, if_neg hb2]; exact hq1
      · rw [ho.2.1 i hi, rd, if_neg (by omega), if_neg (by omega)]
theorem gq_rvD (l : List Int) (d : Int) {i : Nat} (h : i < l.length) : l.reverse.getD i d = l.getD (l.length - 1 - i) d := by
  rw [List.getD_eq_getElem?_getD, List.getD_eq_getElem?_getD, List.getElem?_reverse h]
/-- turning the pieces of one node around -/
theorem gq_turn {σ : np_S} {s K : List Int} (hst : gq_st σ (K.reverse ++ s)) (hw : σ 29 27 = ((K.reverse ++ s).length : Nat)) (hl : s.length + K.length ≤ 400) : np_W (f_M_takeApart_232 20000 ((s.length : Nat) : Int) (σ 29 27 - 1) σ) (fun o => gx_fr [50] σ o.2 ∧ gq_st o.2 (K ++ s)) := by
  obtain ⟨s1, s2⟩ := (gq_st_app K.reverse).mp hst
  rw [List.length_reverse] at s2
  rw [List.length_append, List.length_reverse] at hw
  have e1 : σ 29 27 - 1 = ((s.length + K.length : Nat) : Int) - 1 - ((0 : Nat) : Int) := by rw [hw]; omega
  rw [e1]
  refine np_W_mono (gq_rev (B := s.length) (m := K.length) hl (c := fun q => K.getD q 0) 20000 0 σ (by omega) (by omega) (fun q hq => ?_)) (fun o ho => ⟨ho.1, ?_⟩)
  · rw [if_pos (by omega)]
    have := s2 q hq
    rw [gq_rvD _ _ (by omega), show K.length - 1 - (K.length - 1 - q) = q by omega] at this
    exact this
  · exact (gq_st_app K).mpr ⟨gq_st_congr s (fun i hi => ho.2.1 i hi) s1, fun q hq => ho.2.2 q hq⟩
