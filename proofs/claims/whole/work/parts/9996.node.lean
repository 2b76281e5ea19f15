/-! node: both sides together -/
theorem gk_children {g : ga_G} {n T : Nat} {σ : np_S} (h : gt_ok g n T) (hrm : ∀ u, u < T → gn_rm g (gn_hd g n u) u σ) (h18 : σ 29 18 = (T : Nat)) (u : Nat) (hu : u < T) : ∀ (f k : Nat) (v : Nat), u < k → k ≤ T → T - k < f → np_W (f_M_children_6 f u v k σ) (fun o => o.2 = σ ∧ o.1 = ((v + gt_cn g n u k (T - k) : Nat) : Int)) := by
  have hT := Nat.le_trans h.2.2.2.2.2.2 h.2.2.1
  intro f
  induction f with
  | zero => intro k v _ _ h; omega
  | succ f ih =>
    intro k v uk kT hf
    show np_W (f_M_children_6_b _ u v k σ) _
    unfold f_M_children_6_b f_M_children_30
    rw [h18]
    refine np_W_ck ⟨⟨by omega, by omega⟩, ⟨by omega, by omega⟩⟩ ?_
    refine np_W_if (fun z => np_W_some ⟨rfl, ?_⟩) (fun z => ?_)
    · have : T - k = 0 := by omega
      rw [this]; rfl
    · have hk : k < T := by omega
      obtain ⟨m1, m2, m3, m4⟩ := hrm k hk
      have hpr := gt_parR h hk
      have e5 : (k : Int) + 1 = ((k + 1 : Nat) : Int) := by omega
      have ec : gt_cn g n u k (T - k) = (if (gn_hd g n k).2.2.2 = (u : Int) then 1 else 0) + gt_cn g n u (k + 1) (T - (k + 1)) := by
        rw [show T - k = (T - (k + 1)) + 1 by omega]; rfl
      refine np_W_ck ⟨by omega, by omega⟩ ?_
      refine np_W_ck ⟨by rw [m4]; exact ⟨by omega, by omega⟩, ⟨by omega, by omega⟩⟩ ?_
      rw [e5]
      refine np_W_if (fun y => ?_) (fun y => ?_) <;> rw [m4] at y
      · have := ih (k + 1) v (by omega) (by omega) (by omega)
        rw [if_neg y] at ec
        rw [ec, Nat.zero_add]
        have e0 : (v : Int) + 0 = (v : Int) := by omega
        rw [e0]; exact this
      · have := ih (k + 1) (v + 1) (by omega) (by omega) (by omega)
        rw [if_pos (Classical.not_not.mp y)] at ec
        rw [ec, show v + (1 + gt_cn g n u (k + 1) (T - (k + 1))) = v + 1 + gt_cn g n u (k + 1) (T - (k + 1)) by omega]
        have e0 : (v : Int) + 1 = ((v + 1 : Nat) : Int) := by omega
        rw [e0]; exact this
theorem gk_node {σ : np_S} (hI : gi_I σ) {x w : Int} (hx : np_R x) (hw : np_R w) : gl_ok2 (f_L_node x w σ) (f_M_node x w) := by
  obtain ⟨i1, i2, i3, i4, i5, i6, i7⟩ := id hI
  have hZ := gi_Zz i7
  obtain ⟨z0, z1, z2⟩ := hZ
  -- what the reference leaves
  have after : ∀ (τ : np_S) (v : Int), gl_28 τ σ → gi_I (np_st τ 29 0 v) := by
    intro τ v hτ
    refine gi_I_0 hI (fun c hc => ?_) (fun j hj => ?_)
    · simp only [List.mem_cons, List.not_mem_nil, or_false, not_or] at hc
      rw [np_st_o _ _ _ hc.2, hτ c hc.1]
    · rw [np_st_n _ _ _ hj, hτ 29 (by decide)]
  have bad : (x < 0 ∨ σ 15 2 ≤ x) → gl_cls (3, 0, σ) 1 (f_M_node x w) := by
    intro hb
    refine ⟨by dsimp only; decide, fun τ hτ => ?_⟩
    have hτ : gl_28 τ σ := hτ
    have t18 : τ 29 18 = σ 15 2 := by rw [hτ 29 (by decide)]; exact z0
    have fin : np_W (f_M_node_13 x w τ) (fun q => gl_T 1 (((3, 0, σ) : np_X).2.1) q ∧ gi_I q.2 ∧ q.2 28 = τ 28) := by
      unfold f_M_node_13 f_M_node_18
      refine np_W_ck (by rw [np_st_s]; decide) ?_
      exact np_W_if (fun y => absurd y (by rw [np_st_s]; decide)) (fun _ => np_W_some ⟨⟨by dsimp only; decide, by dsimp only; rw [np_st_s], fun y => absurd y (by decide)⟩, after τ 1 hτ, by dsimp only; rw [np_st_o _ _ _ (show 28 ≠ 29 by decide)]⟩)
    unfold f_M_node
    refine np_W_ck hx ?_
    refine np_W_if (fun _ => fin) (fun y => ?_)
    refine np_W_ck ⟨hx, by rw [t18]; exact ⟨by omega, by omega⟩⟩ ?_
    refine np_W_if (fun y2 => ?_) (fun _ => fin)
    rw [t18] at y2; omega
  refine gl_w2 ?_
  unfold f_N_node f_N_node_15
  refine np_W_ck hx ?_
  refine np_W_if (fun y => np_W_some (Or.inr ⟨rfl, bad (Or.inl y)⟩)) (fun y => ?_)
  refine np_W_ck ⟨hx, ⟨by omega, by omega⟩⟩ ?_
  refine np_W_if (fun y2 => ?_) (fun y2 => np_W_some (Or.inr ⟨rfl, bad (Or.inr (by omega))⟩))
  rcases i7.2 with z | ⟨g, n, T, hNT⟩
  · omega
  obtain ⟨n1, n2, n3, n4, n5, n6, n7, n8, n9⟩ := id hNT
  have hT := Nat.le_trans n1.2.2.2.2.2.2 n1.2.2.1
  have hn30 := n1.2.2.1
  obtain ⟨t, ht⟩ : ∃ t : Nat, x = (t : Int) := ⟨x.toNat, by omega⟩
  subst ht
  have htT : t < T := by omega
  obtain ⟨c16, c17, c18, c19, c20, c21⟩ := n6 t htT
  obtain ⟨m41, m42, m43, m44⟩ := n7 t htT
  have ha := gt_hd n1 htT
  have a1 := ha.2.1
  have a2 := ha.2.2.1
  have hr := (gn_rule n1.1.1 n1.2.2.1 ha).1
  have hR14 := n1.1.2.2.1
  have hpr := gt_parR n1 htT
  obtain ⟨nn, w1, w2, w3, w4, _⟩ := id i4
  have en : nn = n := by omega
  subst en
  have hkl : (gn_kd g (gn_hd g nn t) t).length ≤ 30 := by
    have h1 := gn_wd_pos (s := gn_kd g (gn_hd g nn t) t) (fun b hb => (gn_kd_ok n1.1.1 n1.2.2.1 ha _ b hb).1)
    have h2 := gn_kd_wd n1.1.1 n1.2.2.1 ha (t : Int)
    omega
  -- the reference at a good node
  have good : ∀ v : Int, np_R v → (∀ S : np_S, gx_fr [28, 29] σ S → S 29 18 = (T : Nat) → np_W (np_ck (np_R w) (if w = 0 then (np_ck ((0 : Int) ≤ (t : Int) ∧ (t : Int) < 40) (some (S 41 (t : Int), S))) else (if w = 1 then ((f_M_children (t : Int) S).bind (fun o1 => some (o1.1, o1.2))) else (if w = 2 then (np_ck ((0 : Int) ≤ (t : Int) ∧ (t : Int) < 40) (np_ck ((0 : Int) ≤ S 42 (t : Int) ∧ S 42 (t : Int) < 31) (some (S 36 (S 42 (t : Int)), S)))) else (if w = 3 then (np_ck ((0 : Int) ≤ (t : Int) ∧ (t : Int) < 40) (some (S 43 (t : Int), S))) else (if w = 4 then (np_ck ((0 : Int) ≤ (t : Int) ∧ (t : Int) < 40) (some (S 44 (t : Int), S))) else (some ((-3), S)))))))) (fun q => q = (v, S))) → (((0, v, σ) : np_X).1 = 0 ∧ gl_cls (0, v, σ) 0 (f_M_node (t : Int) w)) := by
    intro v hv hS
    refine ⟨rfl, hv, fun τ hτ => ?_⟩
    have hτ : gl_28 τ σ := hτ
    have t18 : τ 29 18 = (T : Nat) := by rw [hτ 29 (by decide), z0]; exact n2
    unfold f_M_node f_M_node_18
    refine np_W_ck hx ?_
    refine np_W_if (fun y3 => absurd y3 y) (fun _ => ?_)
    refine np_W_ck ⟨hx, by rw [t18]; exact ⟨by omega, by omega⟩⟩ ?_
    refine np_W_if (fun _ => ?_) (fun y3 => absurd (by rw [t18]; omega) y3)
    refine np_W_ck (by rw [np_st_s]; decide) ?_
    refine np_W_if (fun _ => ?_) (fun y3 => absurd (by rw [np_st_s]; decide) y3)
    refine np_W_mono (hS (np_st τ 29 0 0) (fun c hc => ?_) (by rw [np_st_n _ _ _ (by decide)]; exact t18)) (fun q hq => ?_)
    · simp only [List.mem_cons, List.not_mem_nil, or_false, not_or] at hc
      rw [np_st_o _ _ _ hc.2, hτ c hc.1]
    · rw [hq]
      exact ⟨⟨hv, by dsimp only; rw [np_st_s], fun _ => rfl⟩, after τ 0 hτ, by dsimp only; rw [np_st_o _ _ _ (show 28 ≠ 29 by decide)]⟩
  refine np_W_ck hw ?_
  refine np_W_if (fun e => ?_) (fun e0 => ?_)
  · refine np_W_ck ⟨by omega, by omega⟩ (np_W_some (Or.inl (good _ (by rw [c16]; exact ⟨by omega, by omega⟩) (fun S fS _ => ?_))))
    refine np_W_ck hw ?_
    rw [if_pos e]
    exact np_W_ck ⟨by omega, by omega⟩ (np_W_some (by rw [fS 41 (by decide), m41, c16]))
  refine np_W_if (fun e => ?_) (fun e1 => ?_)
  · refine np_W_ck ⟨by omega, by omega⟩ (np_W_some (Or.inl (good _ (by rw [c17]; exact ⟨by omega, by omega⟩) (fun S fS h18 => ?_))))
    refine np_W_ck hw ?_
    rw [if_neg e0, if_pos e]
    unfold f_M_children
    have e5 : (t : Int) + 1 = ((t + 1 : Nat) : Int) := by omega
    rw [e5]
    have hrmS : ∀ u, u < T → gn_rm g (gn_hd g nn u) u S := by
      unfold gn_rm at n7 ⊢
      rw [fS 41 (by decide), fS 42 (by decide), fS 43 (by decide), fS 44 (by decide)]; exact n7
    refine np_W_seq (gk_children n1 hrmS h18 t htT 20000 (t + 1) 0 (by omega) (by omega) (by omega)) (fun o ho => np_W_some ?_)
    obtain ⟨ov, os⟩ := o
    obtain ⟨o1, o2⟩ := ho
    dsimp only at o1 o2 ⊢
    rw [o1, o2, c17, Nat.zero_add, gt_count n1 htT]
  refine np_W_if (fun e => ?_) (fun e2 => ?_)
  · have hi : (gn_hd g nn t).2.1 < nn := by omega
    refine np_W_ck ⟨by omega, by omega⟩ (np_W_ck (by rw [c18]; exact ⟨by omega, by omega⟩) (np_W_some (Or.inl (good _ (by rw [c18]; exact (w4 _ hi).2.2.1) (fun S fS _ => ?_)))))
    refine np_W_ck hw ?_
    rw [if_neg e0, if_neg e1, if_pos e]
    refine np_W_ck ⟨by omega, by omega⟩ (np_W_ck (by rw [fS 42 (by decide), m42]; exact ⟨by omega, by omega⟩) (np_W_some ?_))
    rw [fS 42 (by decide), fS 36 (by decide), m42, c18, (w4 _ hi).2.1]
  refine np_W_if (fun e => ?_) (fun e3 => ?_)
  · refine np_W_ck ⟨by omega, by omega⟩ (np_W_some (Or.inl (good _ (by rw [c19]; exact ⟨by omega, by omega⟩) (fun S fS _ => ?_))))
    refine np_W_ck hw ?_
    rw [if_neg e0, if_neg e1, if_neg e2, if_pos e]
    exact np_W_ck ⟨by omega, by omega⟩ (np_W_some (by rw [fS 43 (by decide), m43, c19]))
  refine np_W_if (fun e => ?_) (fun e4 => ?_)
  · refine np_W_ck ⟨by omega, by omega⟩ (np_W_some (Or.inl (good _ (by rw [c20]; exact ⟨by omega, by omega⟩) (fun S fS _ => ?_))))
    refine np_W_ck hw ?_
    rw [if_neg e0, if_neg e1, if_neg e2, if_neg e3, if_pos e]
    exact np_W_ck ⟨by omega, by omega⟩ (np_W_some (by rw [fS 44 (by decide), m44, c20]))
  · refine np_W_some (Or.inl (good _ (by decide) (fun S fS _ => ?_)))
    refine np_W_ck hw ?_
    rw [if_neg e0, if_neg e1, if_neg e2, if_neg e3, if_neg e4]
    exact np_W_some rfl
