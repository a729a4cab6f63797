/-! The start, and all calls together. -/
theorem in120 : ∀ n i : Nat, ∀ u : PS, (∀ k, (f1_init_L120 n i u) 3 k = if i ≤ k ∧ k < i + n then -1 else u 3 k) ∧ ∀ j, j ≠ 3 → (f1_init_L120 n i u) j = u j := by
  intro n
  induction n with
  | zero => intro i u; rw [f1_init_L120]; exact ⟨fun k => by rw [if_neg (by omega)], fun _ _ => rfl⟩
  | succ n ih =>
    intro i u
    rw [f1_init_L120]
    dsimp only [sq]
    obtain ⟨a, b⟩ := ih (i + 1) (wr u 3 i (-1))
    refine ⟨fun k => ?_, fun j hj => (b j hj).trans (wr_ne hj)⟩
    rw [a k]
    have r : (wr u 3 i (-1)) 3 k = upd (u 3) i (-1) k := rfl
    rw [r]
    by_cases e : k = i
    · subst e; rw [if_neg (by omega), if_pos (by omega), pk_us]
    · by_cases z : i + 1 ≤ k ∧ k < i + 1 + n
      · rw [if_pos z, if_pos (by omega)]
      · rw [if_neg z, if_neg (by omega), pk_un e]
theorem in141 : ∀ n i : Nat, ∀ u : PS, (∀ k, (f1_init_L141 n i u) 6 k = if i ≤ k ∧ k < i + n then -1 else u 6 k) ∧ ∀ j, j ≠ 6 → (f1_init_L141 n i u) j = u j := by
  intro n
  induction n with
  | zero => intro i u; rw [f1_init_L141]; exact ⟨fun k => by rw [if_neg (by omega)], fun _ _ => rfl⟩
  | succ n ih =>
    intro i u
    rw [f1_init_L141]
    dsimp only [sq]
    obtain ⟨a, b⟩ := ih (i + 1) (wr u 6 i (-1))
    refine ⟨fun k => ?_, fun j hj => (b j hj).trans (wr_ne hj)⟩
    rw [a k]
    have r : (wr u 6 i (-1)) 6 k = upd (u 6) i (-1) k := rfl
    rw [r]
    by_cases e : k = i
    · subst e; rw [if_neg (by omega), if_pos (by omega), pk_us]
    · by_cases z : i + 1 ≤ k ∧ k < i + 1 + n
      · rw [if_pos z, if_pos (by omega)]
      · rw [if_neg z, if_neg (by omega), pk_un e]
theorem init_rows : (∀ j k, j ≠ 3 → j ≠ 6 → j ≠ 9 → f1_init j k = 0) ∧ (∀ k, k < 8 → f1_init 3 k = -1) ∧ (∀ k, k < 320 → f1_init 6 k = -1) ∧ f1_init 9 0 = 10 ∧ f1_init 9 1 = 4 ∧ f1_init 9 2 = 40 := by
  unfold f1_init
  dsimp only [sq]
  obtain ⟨a, b⟩ := in120 8 0 (wr (wr (wr pz 9 0 10) 9 1 4) 9 2 40)
  obtain ⟨u, hu⟩ : ∃ u, f1_init_L120 8 0 (wr (wr (wr pz 9 0 10) 9 1 4) 9 2 40) = u := ⟨_, rfl⟩
  rw [hu] at a b ⊢
  obtain ⟨c, d⟩ := in141 320 0 u
  obtain ⟨w, hw⟩ : ∃ w, f1_init_L141 320 0 u = w := ⟨_, rfl⟩
  rw [hw] at c d ⊢
  have e9 : w 9 = (wr (wr (wr pz 9 0 10) 9 1 4) 9 2 40) 9 := (d 9 (by decide)).trans (b 9 (by decide))
  refine ⟨fun j k h3 h6 h9 => ?_, fun k hk => ?_, fun k hk => ?_, ?_, ?_, ?_⟩
  · rw [d j h6, b j h3, wr_ne h9, wr_ne h9, wr_ne h9]; rfl
  · rw [d 3 (by decide), a k, if_pos ⟨Nat.zero_le k, by omega⟩]
  · rw [c k, if_pos ⟨Nat.zero_le k, by omega⟩]
  · rw [e9]; rfl
  · rw [e9]; rfl
  · rw [e9]; rfl
theorem init6 : (∀ k, 2 < k → f6_init 0 k = 0) ∧ f6_init 0 0 = 10 ∧ f6_init 0 1 = 4 ∧ f6_init 0 2 = 40 := by
  unfold f6_init
  dsimp only [sq]
  refine ⟨fun k hk => ?_, rfl, rfl, rfl⟩
  show upd (upd (upd (pz 0) 0 10) 1 4) 2 40 k = 0
  rw [pk_un (by omega), pk_un (by omega), pk_un (by omega)]; rfl
theorem in0 {n : Nat} (h : 0 < n) (h2 : n < 2 ^ 31) : vp_in (0 : Int32) n := vp_in_nI (n := 0) h h2
theorem RI_init : RI f1_init (f6_init 0) := by
  obtain ⟨z, a3, a6, b0, b1, b2⟩ := init_rows
  obtain ⟨s, s0, s1, s2⟩ := init6
  obtain ⟨u, hu⟩ : ∃ u, f1_init = u := ⟨_, rfl⟩
  obtain ⟨m, hm⟩ : ∃ m, f6_init 0 = m := ⟨_, rfl⟩
  rw [hu] at z a3 a6 b0 b1 b2 ⊢
  rw [hm] at s s0 s1 s2 ⊢
  have u0 : ∀ v, u 0 v = 0 := fun v => z 0 v (by decide) (by decide) (by decide)
  have dead : ∀ v, ¬ 0 < u 0 v := fun v => by rw [u0]; decide
  refine ⟨⟨fun v hv => Or.inr ⟨u0 v, s _ (by omega)⟩, fun v _ h => absurd h (dead v), fun v k _ _ h => absurd h (dead v), fun p _ => ?_, fun i hi => ?_, ⟨?_, ?_, ?_, ?_⟩, fun i _ => ⟨?_, ?_, ?_⟩, fun a _ => ?_, fun a k _ _ => ?_⟩, fun v _ => ?_, fun v k hv hk => Or.inl (a6 _ (by omega)), fun v _ => ?_, fun v _ => ⟨?_, fun _ => z 2 v (by decide) (by decide) (by decide)⟩, fun v hv => Or.inl (a3 v hv), ⟨fun _ => 0, fun v w hv hw h => ?_⟩, fun p hp => ?_, ?_, ⟨?_, fun j hj => ?_⟩⟩
  · rw [s _ (by omega), z 7 p (by decide) (by decide) (by decide)]
  · rcases (show i = 0 ∨ i = 1 ∨ i = 2 by omega) with rfl | rfl | rfl
    · rw [s0, b0]
    · rw [s1, b1]
    · rw [s2, b2]
  · rw [s _ (by omega), z 13 0 (by decide) (by decide) (by decide)]
  · rw [s _ (by omega), z 13 1 (by decide) (by decide) (by decide)]
  · rw [s _ (by omega), z 13 2 (by decide) (by decide) (by decide)]
  · rw [s _ (by omega), z 13 3 (by decide) (by decide) (by decide)]
  · rw [s _ (by omega), z 10 i (by decide) (by decide) (by decide)]
  · rw [s _ (by omega), z 11 i (by decide) (by decide) (by decide)]
  · rw [s _ (by omega), z 12 i (by decide) (by decide) (by decide)]
  · rw [s _ (by omega)]; decide
  · rw [s _ (by omega)]; decide
  · rw [u0]; exact in0 (by decide) (by decide)
  · rw [z 1 v (by decide) (by decide) (by decide)]; exact in0 (by decide) (by decide)
  · rw [z 2 v (by decide) (by decide) (by decide)]; exact in0 (by decide) (by decide)
  · rw [a3 v hv] at h; exact absurd h.symm (e_neg (by omega))
  · have o : own u (nI p) = 0 := sm_zero 320 0 (fun k _ hk => by rw [a6 k (by omega), if_neg (fun q => e_neg (show p < 2 ^ 31 by omega) q.symm)])
    rw [z 8 p (by decide) (by decide) (by decide), o]; rfl
  · have o : prs u = 0 := sm_zero 8 0 (fun k _ _ => by rw [z 2 k (by decide) (by decide) (by decide)]; rfl)
    show prs u ≤ fre u
    rw [o]; exact Nat.zero_le _
  · rw [z 13 3 (by decide) (by decide) (by decide)]; exact in0 (by decide) (by decide)
  · rcases (show j = 0 ∨ j = 1 ∨ j = 2 by omega) with rfl | rfl | rfl
    · rw [b0]; exact vp_in_nI (n := 10) (by decide) (by decide)
    · rw [b1]; exact vp_in_nI (n := 4) (by decide) (by decide)
    · rw [b2]; exact vp_in_nI (n := 40) (by decide) (by decide)
theorem mkZ_0 (z0 z1 z2 z3 z4 z5 z6 z7 z8 z9 : PS) : mkZ z0 z1 z2 z3 z4 z5 z6 z7 z8 z9 0 = z0 := rfl
theorem mkZ_7 (z0 z1 z2 z3 z4 z5 z6 z7 z8 z9 : PS) : mkZ z0 z1 z2 z3 z4 z5 z6 z7 z8 z9 7 = z7 := rfl
theorem mkZ_8 (z0 z1 z2 z3 z4 z5 z6 z7 z8 z9 : PS) : mkZ z0 z1 z2 z3 z4 z5 z6 z7 z8 z9 8 = z8 := rfl
theorem Sim_init : Sim f5_init f6_init := by
  have e0 : f5_init 0 = f1_init := by unfold f5_init; rw [mkZ_0]
  have e7 : f5_init 7 = pz := by unfold f5_init; rw [mkZ_7]
  have e8 : f5_init 8 = pz := by unfold f5_init; rw [mkZ_8]
  have e6 : f6_init 6 = pz 6 := by
    unfold f6_init
    dsimp only [sq]
    rw [wr_ne (by decide), wr_ne (by decide), wr_ne (by decide)]
  unfold Sim
  rw [e0, e7, e8, e6]
  exact ⟨RI_init, ⟨0, by omega, rfl, rfl, fun j hj => absurd hj (Nat.not_lt_zero j)⟩, ⟨0, by omega, rfl, rfl, fun i hi => absurd hi (Nat.not_lt_zero i)⟩, rfl⟩
theorem sim_pre : simPre Sim := fun Z μ h => by
  have hH := Sim_H h
  obtain ⟨a, ⟨k, k1, k2, k3, _⟩, ⟨t, t1, t2, t3, _⟩, d⟩ := h
  refine ⟨by rw [k2]; exact vp_in_nI (by omega) (by decide), hH, a.M.1, a.M.2, ?_, (show vp_in (μ 6 2) 61 by rw [t3]; exact vp_in_nI (by omega) (by decide))⟩
  show (μ 0 6).toInt ≤ 10
  obtain ⟨c, c1, c2⟩ := vp_in_of a.iK.1 (by decide)
  rw [a.S.2.2.2, c2, nI_toInt (by omega)]
  omega
theorem fam_hi : ∀ t, t < 32 → ¬ t < 8 → ∀ i, i < 8 → ¬ ((((1 : Int32) <<< (nI t)) >>> (nI i &&& 31)) &&& (1 : Int32)) = (1 : Int32) := by decide +kernel
theorem fam41_0 (μ : PS) {y : Int32} (h : ∀ i, i < 8 → ¬ ((y >>> (nI i &&& 31)) &&& (1 : Int32)) = (1 : Int32)) : ∀ n i, i + n = 8 → f6_family_L41 μ y n i 0 = 0 := by
  intro n
  induction n with
  | zero => intro i _; rw [f6_family_L41]
  | succ n ih =>
    intro i hi
    rw [f6_family_L41, if_neg (h i (by omega)), show (0 : Int32) ||| 0 = 0 from by decide]
    exact ih (i + 1) (by omega)
theorem sim_fam : simFam Sim := fun Z μ a h => by
  obtain ⟨t, ht, e⟩ := pk_andE a (m := 31) 5 (by decide)
  have ht : t < 32 := ht
  rw [e]
  by_cases z : t < 8
  · have := e_famT0 h.1 z (p1 := nI t) rfl
    rw [pk_andN (by omega) 5 (by decide), Nat.mod_eq_of_lt ht] at this
    exact this
  · rw [f6_family_T]
    intro _
    rw [fam41_0 μ (fam_hi t ht z) 8 0 rfl, show (0 : Int32) &&& (((1 : Int32) <<< (nI t)) ^^^ (-1)) = 0 from Int32.zero_and]
    rw [f6_family_T]
    exact fun q => absurd rfl q
theorem sim_plays : simPlays Sim := fun Z μ h => by
  obtain ⟨V, y, σ2, _, pl, pT, _, hS, _⟩ := e_try h
  refine ⟨pT, fun r u1 u2 u3 h1 h2 h3 => ?_⟩
  subst h1
  rw [pl] at h2
  cases h2
  subst h3
  obtain ⟨_, _, _, _, _, pT2, _⟩ := e_again hS
  exact ⟨Sim_H hS, pT2⟩
theorem g_volume (Z : ST) (a : Int32) : f5_volume Z a = f5_gen (fun p => f1_openVolume p a) Z := by
  unfold f5_volume f5_gen
  dsimp only [sq, sq2]
theorem s_volume : simOk_volume Sim := fun Z μ a h => by
  rw [g_volume]
  exact gen_ok h (fun p => f1_openVolume p a) (M := f6_volume μ a) (e_volume h.1 a)
theorem g_share (Z : ST) (a : Int32) : f5_share Z a = f5_gen (fun p => f1_cloneVolume p a) Z := by
  unfold f5_share f5_gen
  dsimp only [sq, sq2]
theorem s_share : simOk_share Sim := fun Z μ a h => by
  rw [g_share]
  exact gen_ok h (fun p => f1_cloneVolume p a) (M := f6_share μ a) (e_share h.1 a)
theorem g_drop (Z : ST) (a : Int32) : f5_drop Z a = f5_gen (fun p => f1_dropVolume p a) Z := by
  unfold f5_drop f5_gen
  dsimp only [sq, sq2]
theorem s_drop : simOk_drop Sim := fun Z μ a h => by
  rw [g_drop]
  exact gen_ok h (fun p => f1_dropVolume p a) (M := f6_drop μ a) (e_drop h.1 a)
theorem g_promise (Z : ST) (a b : Int32) : f5_promise Z a b = f5_gen (fun p => f1_changePromise p a b) Z := by
  unfold f5_promise f5_gen
  dsimp only [sq, sq2]
theorem s_promise : simOk_promise Sim := fun Z μ a b h => by
  rw [g_promise]
  exact gen_ok h (fun p => f1_changePromise p a b) (M := f6_promise μ a b) (e_promise h.1 a b)
theorem g_set (Z : ST) (a b : Int32) : f5_set Z a b = f5_gen (fun p => f1_changeSetting p a b) Z := by
  unfold f5_set f5_gen
  dsimp only [sq, sq2]
theorem s_set : simOk_set Sim := fun Z μ a b h => by
  rw [g_set]
  exact gen_ok h (fun p => f1_changeSetting p a b) (M := f6_set μ a b) (e_set h.1 a b)
theorem g_write (Z : ST) (a b c : Int32) : f5_write Z a b c = f5_gen (fun p => f1_writePlace p a b c) Z := by
  unfold f5_write f5_gen
  dsimp only [sq, sq2]
theorem s_write : simOk_write Sim := fun Z μ a b c h => by
  rw [g_write]
  exact gen_ok h (fun p => f1_writePlace p a b c) (M := f6_write μ a b c) (e_write h.1 a b c)
theorem g_trim (Z : ST) (a b : Int32) : f5_trim Z a b = f5_gen (fun p => f1_trimPlace p a b) Z := by
  unfold f5_trim f5_gen
  dsimp only [sq, sq2]
theorem s_trim : simOk_trim Sim := fun Z μ a b h => by
  rw [g_trim]
  exact gen_ok h (fun p => f1_trimPlace p a b) (M := f6_trim μ a b) (e_trim h.1 a b)
theorem g_sweep (Z : ST) (a : Int32) : f5_sweep Z a = f5_gen (fun p => f1_sweepVolume p a) Z := by
  unfold f5_sweep f5_gen
  dsimp only [sq, sq2]
theorem s_sweep : simOk_sweep Sim := fun Z μ a h => by
  rw [g_sweep]
  exact gen_ok h (fun p => f1_sweepVolume p a) (M := f6_sweep μ a) (e_sweep h.1 a)
theorem g_merge (Z : ST) : f5_merge Z = f5_gen (fun p => f1_mergePieces p) Z := by
  unfold f5_merge f5_gen
  dsimp only [sq, sq2]
theorem s_merge : simOk_merge Sim := fun Z μ h => by
  rw [g_merge]
  exact gen_ok h (fun p => f1_mergePieces p) (M := f6_merge μ) (e_merge h.1)
theorem s_get : simOk_couldGet Sim := fun Z μ a h => by
  obtain ⟨_, b, c, d⟩ := e_couldGet h.1 a
  exact ⟨b, Sim_back h ⟨c, d⟩⟩
theorem s_free : simOk_couldFree Sim := fun Z μ a h => by
  obtain ⟨b, c, u, d⟩ := e_couldFree h.1 a
  refine ⟨b, ?_⟩
  rw [d]; exact Sim_trial (Sim_back h c)
theorem s_count : simOk_count Sim := fun Z μ a h => by
  have h0 := h
  obtain ⟨_, ⟨k, _, k2, k3, _⟩, ⟨t, _, t2, t3, _⟩, _⟩ := h
  exact e_count h0.1 (k2.trans k3.symm) (t2.trans t3.symm) a
theorem simAll : SimOk Sim := ⟨Sim_init, sim_pre, fun _ _ a h => (e_couldGet h.1 a).1, sim_fam, sim_plays, s_volume, s_share, s_drop, s_promise, s_set, s_write, s_trim, s_sweep, s_merge, fun _ _ a b c h => e_read h.1 a b c, fun _ _ a b h => e_volumeOf h.1 a b, fun _ _ a b h => e_pieceOf h.1 a b, fun _ _ a b h => e_warningOf h.1 a b, s_get, s_free, fun _ _ a b h => e_family h.1 a b, fun _ _ a h => e_ranked h.1 a, fun _ _ a h => e_over h.1 a, s_count, fun _ _ h => e_undo h, fun _ _ a h => e_type h a, fun _ _ h => e_clear h, fun _ _ a h => e_fault h a, fun _ _ h => e_play h⟩
