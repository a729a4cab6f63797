/-! Promises and settings. -/
theorem e_level {u μ : PS} (h : RI u (μ 0)) : f6_levelBy μ (f6_available μ) = f1_level u := by
  unfold f1_level
  rw [e_avail h, e_levelBy h.E]
theorem e_promise {u μ : PS} (h : RI u (μ 0)) (p1 p2 : Int32) : opOk u μ (f1_changePromise u p1 p2) (f6_promise μ p1 p2) := by
  unfold f1_changePromise f6_promise
  rw [e_isVol h.L, e_rng]
  dsimp only [sq]
  rcases e_liv u p1 with h0 | ⟨v, hv, rfl, hl, h1⟩
  · rw [if_pos h0, if_pos h0]; exact opOk_err (by decide)
  · rw [h1, if_neg ne10, if_neg ne10]
    by_cases q1 : p2 < 0
    · rw [if_pos q1, if_pos q1]; exact opOk_err (by decide)
    · rw [if_neg q1, if_neg q1]
      by_cases q2 : p2 ≤ 30
      · rw [if_pos q2, if_pos q2]
        obtain ⟨n, hn, rfl⟩ := nI_of2 (n := 30) (by decide) q1 q2
        obtain ⟨p, hp, ep⟩ := vp_in_of (h.iQ v hv).1 (by decide)
        have ppr := sm_ge (g := fun w => (u 2 w).toNatClampNeg) v 8 0 (Nat.zero_le _) (by omega)
        rw [ep, nI_clamp (by omega)] at ppr
        have ppr2 : p ≤ prs u := ppr
        have hf : prs u ≤ fre u := h.iF
        have hf30 := fre_le u
        rw [nI_clamp (by omega), e_of3 hv, (h.V v hv hl).2.2.1, ep, e_promises h, e_free h, e_prs h.iQ, e_fre, pk_sub ppr2, nI_add]
        by_cases q3 : nI (prs u - p + n) ≤ nI (fre u)
        · rw [if_pos q3, if_pos q3]
          have q4 := (nI_leI (by omega) (by omega)).mp q3
          have hc := RI_chg h
          rw [e_puts3 hv, e_level hc]
          have R : RI (wr u 2 v (nI n)) ((wr (f6_changes μ) 0 (70 + 47 * v) (nI n)) 0) := RI_pro hv hl (vp_in_nI (by omega) (by decide)) (by rw [ep, nI_clamp (by omega), nI_clamp (by omega)]; omega) hc
          obtain ⟨a, b⟩ := e_ends R (f1_level u)
          exact Or.inr ⟨err_nI (by omega), rfl, a, fun j hj => (b j hj).trans (by rw [wr_ne hj])⟩
        · rw [if_neg q3, if_neg q3]; exact opOk_err (by decide)
      · rw [if_neg q2, if_neg q2]; exact opOk_err (by decide)
theorem e_set1 {u μ : PS} (h : RI u (μ 0)) {j : Nat} (hj : j < 3) {x : Int32} (hx : vp_in x 101) (hr : f5_isError (u 9 j) = 0) : opOk u μ (u 9 j, f1_warnIfLevelRose (wr u 9 j x) (f1_level u)) ((f6_changes μ) 0 j, f6_ends (wr (f6_changes μ) 0 j x) (f1_level u)) := by
  have hc := RI_chg h
  have R : RI (wr u 9 j x) ((wr (f6_changes μ) 0 j x) 0) := RI_set hj hx hc
  obtain ⟨a, b⟩ := e_ends R (f1_level u)
  exact Or.inr ⟨hr, hc.E j hj, a, fun i hi => (b i hi).trans (by rw [wr_ne hi])⟩
theorem e_set {u μ : PS} (h : RI u (μ 0)) (p1 p2 : Int32) : opOk u μ (f1_changeSetting u p1 p2) (f6_set μ p1 p2) := by
  unfold f1_changeSetting f6_set f1_highestSetting
  rw [e_rng, e_rng, e_rng]
  dsimp only [sq]
  rcases pk_ix p1 (n := 3) (by decide) with q | q | ⟨j, hj, rfl⟩
  · rw [if_pos q, if_pos q]; exact opOk_err (by decide)
  · have n0 : ¬ p1 < 0 := by
      rw [le_t] at q; rw [lt_t]
      have t2 : (nI 3).toInt = 3 := by decide
      have t1 : (0 : Int32).toInt = 0 := by decide
      omega
    have n3 : ¬ p1 ≤ 2 := by
      rw [le_t] at q ⊢
      have t2 : (nI 3).toInt = 3 := by decide
      have t1 : (2 : Int32).toInt = 2 := by decide
      omega
    rw [if_neg n0, if_pos (show (3 : Int32) ≤ p1 from q), if_neg n0, if_neg n3]; exact opOk_err (by decide)
  · have hr : f5_isError (u 9 j) = 0 := by
      obtain ⟨k, hk, e⟩ := vp_in_of (h.iK.2 j hj) (by decide)
      rw [e]; exact err_nI (by omega)
    have hc := RI_chg h
    rw [if_neg (nI_pos (by omega)), if_neg (show ¬ (3 : Int32) ≤ nI j from nI_ge (b := 3) hj (by decide)), if_neg (nI_pos (by omega)), if_pos (show nI j ≤ 2 from nI_le (b := 2) (by omega) (by decide)), nI_clamp (by omega), e_level hc]
    by_cases q1 : p2 < 0
    · rw [if_pos q1, if_pos q1, if_pos q1]
      split <;> exact opOk_err (by decide)
    · rw [if_neg q1, if_neg q1, if_neg q1]
      by_cases q2 : nI j = 2
      · rw [if_pos q2, if_pos q2]
        by_cases q3 : p2 ≤ 100
        · obtain ⟨n, hn, rfl⟩ := nI_of2 (n := 100) (by decide) q1 q3
          rw [if_pos q3, if_pos q3]; exact e_set1 h hj (vp_in_nI (by omega) (by decide)) hr
        · rw [if_neg q3, if_neg q3]; exact opOk_err (by decide)
      · rw [if_neg q2, if_neg q2]
        by_cases q3 : p2 ≤ 30
        · obtain ⟨n, hn, rfl⟩ := nI_of2 (n := 30) (by decide) q1 q3
          rw [if_pos q3, if_pos q3]; exact e_set1 h hj (vp_in_nI (by omega) (by decide)) hr
        · rw [if_neg q3, if_neg q3]; exact opOk_err (by decide)
/-! Writing. -/
theorem e_low {u : PS} : ∀ n i : Nat, i + n = 30 → (f1_lowestFreePiece_L2 u n i = -1 ∧ (∀ q, i ≤ q → q < 30 → u 8 q ≠ 0)) ∨ ∃ p, p < 30 ∧ u 8 p = 0 ∧ f1_lowestFreePiece_L2 u n i = nI p ∧ ∀ w μ : PS, RI w (μ 0) → w 8 = u 8 → f6_lowestFree_L2 μ n i = nI p := by
  intro n
  induction n with
  | zero => intro i hi; left; rw [f1_lowestFreePiece_L2]; exact ⟨rfl, fun q a b => absurd b (by omega)⟩
  | succ n ih =>
    intro i hi
    rw [f1_lowestFreePiece_L2]
    by_cases z : u 8 i = 0
    · rw [if_pos z]
      refine Or.inr ⟨i, by omega, z, rfl, fun w μ h e => ?_⟩
      rw [f6_lowestFree_L2, e_owners8 h (by omega), e, z, if_pos (by decide)]
    · rw [if_neg z]
      rcases ih (i + 1) (by omega) with ⟨a, b⟩ | ⟨p, a, b, c, d⟩
      · refine Or.inl ⟨a, fun q q1 q2 => ?_⟩
        by_cases e : q = i
        · rw [e]; exact z
        · exact b q (by omega) q2
      · refine Or.inr ⟨p, a, b, c, fun w μ h e => ?_⟩
        have o := h.iO i (by omega)
        rw [e] at o
        have ol := own_le w (nI i)
        rw [f6_lowestFree_L2, e_owners8 h (by omega), e, o, if_neg (nI_nle (Nat.pos_of_ne_zero (fun q => z (by rw [o, q]; rfl))) (by omega))]
        exact d w μ h e
theorem low_none {u : PS} (h : ∀ q, 0 ≤ q → q < 30 → u 8 q ≠ 0) : fre u = 0 := sm_zero 30 0 (fun k _ k2 => if_neg (h k (Nat.zero_le k) (by omega)))
theorem low_some {u : PS} {p : Nat} (hp : p < 30) (h : u 8 p = 0) : 0 < fre u := by
  have := sm_ge (g := fun q => if u 8 q = 0 then 1 else 0) p 30 0 (Nat.zero_le _) (by omega)
  rw [if_pos h] at this
  exact this
/-- a refused write -/
theorem e_refuse {u μ : PS} (h : RI u (μ 0)) {v : Nat} (hv : v < 8) (hl : 0 < u 0 v) {μ1 : PS} (e1 : wr μ 0 (69 + 47 * v) (refM (u 1 v)) = μ1) : RI (f1_refuse u (nI v)) ((f6_warns (wr (f6_puts μ1 (nI v) 5 ((f6_of μ1 (nI v) 5) + 1)) 0 3 (((f6_puts μ1 (nI v) 5 ((f6_of μ1 (nI v) 5) + 1)) 0 3) + 1)) 1 (nI v)) 0) ∧ ∀ j, j ≠ 0 → (f6_warns (wr (f6_puts μ1 (nI v) 5 ((f6_of μ1 (nI v) 5) + 1)) 0 3 (((f6_puts μ1 (nI v) 5 ((f6_of μ1 (nI v) 5) + 1)) 0 3) + 1)) 1 (nI v)) j = μ j := by
  have R1 : RI (wr u 1 v (refM (u 1 v))) (μ1 0) := by rw [← e1]; exact RI_man hv (refM_in (h.iM v hv)) h
  have m1 : ∀ j, j ≠ 0 → μ1 j = μ j := fun j hj => by rw [← e1, wr_ne hj]
  have hl1 : 0 < (wr u 1 v (refM (u 1 v))) 0 v := hl
  have c4 : (wr u 1 v (refM (u 1 v))) 4 v = u 4 v := rfl
  rw [e_puts5 hv, e_of5 hv, (R1.V v hv hl1).2.2.2.2.1, c4]
  have R2 : RI (wr (wr u 1 v (refM (u 1 v))) 4 v (u 4 v + 1)) ((wr μ1 0 (72 + 47 * v) (u 4 v + 1)) 0) := RI_nog hv R1
  have c3 : (wr μ1 0 (72 + 47 * v) (u 4 v + 1)) 0 3 = u 13 0 := R2.S.1
  rw [c3]
  have R3 : RI (wr (wr (wr u 1 v (refM (u 1 v))) 4 v (u 4 v + 1)) 13 0 (u 13 0 + 1)) ((wr (wr μ1 0 (72 + 47 * v) (u 4 v + 1)) 0 3 (u 13 0 + 1)) 0) := RI_s0 R2
  obtain ⟨a, b⟩ := e_warns R3 1 (nI v)
  refine ⟨?_, fun j hj => (b j hj).trans (by rw [wr_ne hj, wr_ne hj, m1 j hj])⟩
  have e : f1_refuse u (nI v) = f4_add (wr (wr (wr u 1 v (refM (u 1 v))) 4 v (u 4 v + 1)) 13 0 (u 13 0 + 1)) 1 (nI v) (f1_available (wr (wr (wr u 1 v (refM (u 1 v))) 4 v (u 4 v + 1)) 13 0 (u 13 0 + 1))) := by
    unfold f1_refuse
    dsimp only [sq]
    rw [nI_clamp (by omega)]
    rfl
  rw [e]; exact a
