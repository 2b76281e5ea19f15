/-! the law's loop -/
theorem gl_in {o1 : np_O} {M : Option np_O} (h1 : np_R o1.1) (h : np_W M (fun o2 => o2.2 29 0 = o1.1 ∧ np_R o2.1 ∧ (o1.1 = 0 → o2.2 28 0 = o2.1) ∧ gi_I o2.2)) {Q : np_O → Prop} (K Z : np_S → Option np_O) (hK : ∀ ρ, gi_I ρ → np_W (K ρ) Q) : np_W (M.bind (fun o2 => (f_M_thrown o2.2).bind (fun o3 => np_ck (np_R o3.1 ∧ np_R o1.1) (if o3.1 = o1.1 then (np_ck (np_R o1.1) (if o1.1 ≠ 0 then (K o3.2) else (np_ck ((0 : Int) ≤ 0 ∧ (0 : Int) < 1) (np_ck (np_R o2.1) (np_ck (np_R6 (o3.2 28 0) ∧ np_R6 o2.1) (np_ck (np_R (np_cmp (o3.2 28 0) o2.1)) (if np_cmp (o3.2 28 0) o2.1 = 0 then (K o3.2) else (Z o3.2)))))))) else (Z o3.2))))) Q := by
  refine np_W_seq h (fun o2 ho => ?_)
  obtain ⟨a1, a2, a3, a4⟩ := ho
  unfold f_M_thrown
  refine np_W_bind (np_W_some ?_)
  dsimp only
  refine np_W_ck ⟨by rw [a1]; exact h1, h1⟩ ?_
  refine np_W_if (fun _ => ?_) (fun z => absurd a1 z)
  refine np_W_ck h1 ?_
  refine np_W_if (fun _ => hK _ a4) (fun z => ?_)
  have e := a3 (Classical.not_not.mp z)
  have r6 : np_R6 o2.1 := ⟨by have := a2.1; omega, by have := a2.2; omega⟩
  refine np_W_ck (by decide) (np_W_ck a2 (np_W_ck ⟨by rw [e]; exact r6, r6⟩ (np_W_ck (np_cmpR _ _) ?_)))
  exact np_W_if (fun _ => hK _ a4) (fun y => absurd (np_cmp0.mpr e) y)
theorem gl_in1 {o1 : np_O} {M : Option np_O} (h1 : np_R o1.1) (h : np_W M (fun o2 => o2.1 = o1.1 ∧ gi_I o2.2)) {Q : np_O → Prop} (K Z : np_S → Option np_O) (hK : ∀ ρ, gi_I ρ → np_W (K ρ) Q) : np_W (M.bind (fun o2 => np_ck (np_R o1.1 ∧ np_R o2.1) (if o1.1 = o2.1 then (K o2.2) else (Z o2.2)))) Q := by
  refine np_W_seq h (fun o2 ho => ?_)
  refine np_W_ck ⟨h1, by rw [ho.1]; exact h1⟩ ?_
  exact np_W_if (fun _ => hK _ ho.2) (fun z => absurd ho.1.symm z)
theorem gl_loop (xs : Nat → Int32) (L : Nat) (hL : L ≤ 2048) : ∀ (f i : Nat) (σ : np_S), 1 ≤ f → L < 4 * (i + f) → 4 * i ≤ L + 3 → gi_I σ → np_W (f_law_23 xs L f (((4 * i : Nat)) : Int) σ) (fun o => o.1 = 1) := by
  intro f
  induction f with
  | zero => intro i σ h; omega
  | succ f ih =>
    intro i σ _ hf hi hI
    show np_W (f_law_23_b xs L _ _ σ) _
    unfold f_law_23_b
    have sR : ∀ j, np_R (np_sc xs j) := fun j => gb_R5 _
    have aR : np_R (np_andi (np_sc xs ((4 * i : Nat) : Int)) 15) := gb_R5 _
    have lR : ∀ a b : Int, np_R6 (np_orl a b) := fun a b => gb_R6 _
    refine np_W_ck ⟨⟨by omega, by omega⟩, ⟨by omega, by omega⟩⟩ ?_
    refine np_W_if (fun _ => np_W_ck (by decide) (np_W_some rfl)) (fun z => ?_)
    have b0 : (0 : Int) ≤ ((4 * i : Nat) : Int) ∧ ((4 * i : Nat) : Int) < (L : Int) := ⟨by omega, by omega⟩
    have b1 : (0 : Int) ≤ ((4 * i : Nat) : Int) + 1 ∧ ((4 * i : Nat) : Int) + 1 < (L : Int) := ⟨by omega, by omega⟩
    have b2 : (0 : Int) ≤ ((4 * i : Nat) : Int) + 2 ∧ ((4 * i : Nat) : Int) + 2 < (L : Int) := ⟨by omega, by omega⟩
    have b3 : (0 : Int) ≤ ((4 * i : Nat) : Int) + 3 ∧ ((4 * i : Nat) : Int) + 3 < (L : Int) := ⟨by omega, by omega⟩
    have next : ∀ ρ, gi_I ρ → np_W (f_law_23 xs L f (((4 * i : Nat) : Int) + 4) ρ) (fun o => o.1 = 1) := by
      intro ρ hρ
      have e : ((4 * i : Nat) : Int) + 4 = ((4 * (i + 1) : Nat) : Int) := by omega
      rw [e]
      exact ih (i + 1) ρ (by omega) (by omega) (by omega) hρ
    refine np_W_ck b0 (np_W_ck aR ?_)
    refine np_W_if (fun _ => ?_) (fun _ => ?_)
    · refine np_W_ck b1 (np_W_seq (gk_hole hI (sR _)) (fun o ho => np_W_ck b1 ?_))
      exact gl_in ho.1 ho.2 (fun ρ => f_law_153 xs L (fun x4 σ => f_law_23 xs L f x4 σ) ((4 * i : Nat) : Int) ρ) (fun ρ => np_ck ((0 : Int) = 0 ∨ (0 : Int) = 1) (some (0, ρ))) next
    refine np_W_if (fun _ => ?_) (fun _ => ?_)
    · refine np_W_ck b1 (np_W_ck (sR _) (np_W_ck b2 (np_W_ck (sR _) (np_W_ck b3 (np_W_seq (gk_word hI (lR _ _) (sR _)) (fun o ho => np_W_ck b1 (np_W_ck (sR _) (np_W_ck b2 (np_W_ck (sR _) (np_W_ck b3 ?_))))))))))
      exact gl_in ho.1 ho.2 (fun ρ => f_law_253 xs L (fun x4 σ => f_law_23 xs L f x4 σ) ((4 * i : Nat) : Int) ρ) (fun ρ => np_ck ((0 : Int) = 0 ∨ (0 : Int) = 1) (some (0, ρ))) next
    refine np_W_if (fun _ => ?_) (fun _ => ?_)
    · refine np_W_ck b1 (np_W_seq (gk_notation hI (sR _)) (fun o ho => np_W_ck b1 ?_))
      exact gl_in ho.1 ho.2 (fun ρ => f_law_309 xs L (fun x4 σ => f_law_23 xs L f x4 σ) ((4 * i : Nat) : Int) ρ) (fun ρ => np_ck ((0 : Int) = 0 ∨ (0 : Int) = 1) (some (0, ρ))) next
    refine np_W_if (fun _ => ?_) (fun _ => ?_)
    · refine np_W_ck b1 (np_W_ck (sR _) (np_W_ck b2 (np_W_ck (sR _) (np_W_ck b3 (np_W_seq (gk_put hI (sR _)) (fun o ho => np_W_ck b1 (np_W_ck (sR _) (np_W_ck b2 (np_W_ck (sR _) (np_W_ck b3 ?_))))))))))
      exact gl_in1 ho.1 ho.2 (fun ρ => f_law_692 xs L (fun x4 σ => f_law_23 xs L f x4 σ) ((4 * i : Nat) : Int) ρ) (fun ρ => np_ck ((0 : Int) = 0 ∨ (0 : Int) = 1) (some (0, ρ))) next
    refine np_W_if (fun _ => ?_) (fun _ => ?_)
    · exact np_W_seq (gk_clear hI) (fun o ho => np_W_seq ho (fun q hq => next q.2 hq))
    refine np_W_if (fun _ => ?_) (fun _ => ?_)
    · refine np_W_seq (gk_read hI) (fun o ho => ?_)
      exact gl_in ho.1 ho.2 (fun ρ => f_law_433 xs L (fun x4 σ => f_law_23 xs L f x4 σ) ((4 * i : Nat) : Int) ρ) (fun ρ => np_ck ((0 : Int) = 0 ∨ (0 : Int) = 1) (some (0, ρ))) next
    refine np_W_if (fun _ => ?_) (fun _ => ?_)
    · refine np_W_ck b1 (np_W_seq (gk_fault hI (sR _)) (fun o ho => np_W_ck b1 ?_))
      exact gl_in1 ho.1 ho.2 (fun ρ => f_law_692 xs L (fun x4 σ => f_law_23 xs L f x4 σ) ((4 * i : Nat) : Int) ρ) (fun ρ => np_ck ((0 : Int) = 0 ∨ (0 : Int) = 1) (some (0, ρ))) next
    refine np_W_if (fun _ => ?_) (fun _ => ?_)
    · refine np_W_ck b1 (np_W_ck b2 (np_W_seq (gk_node hI (sR _) (sR _)) (fun o ho => np_W_ck b1 (np_W_ck b2 ?_))))
      exact gl_in ho.1 ho.2 (fun ρ => f_law_526 xs L (fun x4 σ => f_law_23 xs L f x4 σ) ((4 * i : Nat) : Int) ρ) (fun ρ => np_ck ((0 : Int) = 0 ∨ (0 : Int) = 1) (some (0, ρ))) next
    refine np_W_if (fun _ => ?_) (fun _ => ?_)
    · refine np_W_seq (gk_print hI) (fun o ho => ?_)
      exact gl_in ho.1 ho.2 (fun ρ => f_law_570 xs L (fun x4 σ => f_law_23 xs L f x4 σ) ((4 * i : Nat) : Int) ρ) (fun ρ => np_ck ((0 : Int) = 0 ∨ (0 : Int) = 1) (some (0, ρ))) next
    refine np_W_if (fun _ => ?_) (fun _ => ?_)
    · refine np_W_ck b1 (np_W_seq (gk_at hI (sR _)) (fun o ho => np_W_ck b1 ?_))
      exact gl_in1 ho.1 ho.2 (fun ρ => f_law_692 xs L (fun x4 σ => f_law_23 xs L f x4 σ) ((4 * i : Nat) : Int) ρ) (fun ρ => np_ck ((0 : Int) = 0 ∨ (0 : Int) = 1) (some (0, ρ))) next
    refine np_W_if (fun _ => ?_) (fun _ => ?_)
    · refine np_W_ck b1 (np_W_ck (sR _) (np_W_ck b2 (np_W_ck (sR _) (np_W_ck b3 (np_W_seq (gk_keyq hI (lR _ _) (sR _)) (fun o ho => np_W_ck b1 (np_W_ck (sR _) (np_W_ck b2 (np_W_ck (sR _) (np_W_ck b3 ?_))))))))))
      exact gl_in1 ho.1 ho.2 (fun ρ => f_law_692 xs L (fun x4 σ => f_law_23 xs L f x4 σ) ((4 * i : Nat) : Int) ρ) (fun ρ => np_ck ((0 : Int) = 0 ∨ (0 : Int) = 1) (some (0, ρ))) next
    refine np_W_if (fun _ => ?_) (fun _ => ?_)
    · refine np_W_ck b1 (np_W_seq (gk_about hI (sR _)) (fun o ho => np_W_ck b1 ?_))
      exact gl_in1 ho.1 ho.2 (fun ρ => f_law_692 xs L (fun x4 σ => f_law_23 xs L f x4 σ) ((4 * i : Nat) : Int) ρ) (fun ρ => np_ck ((0 : Int) = 0 ∨ (0 : Int) = 1) (some (0, ρ))) next
    · exact next σ hI
