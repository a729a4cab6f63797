/-! Sweeping. -/
theorem wr_comm2 (u : PS) {i j a b : Nat} {x y : Int32} (h : i ≠ j) : wr (wr u i a x) j b y = wr (wr u j b y) i a x := by
  funext c k
  by_cases e : c = j
  · subst e
    rw [wr_at, wr_ne (Ne.symm h), wr_ne (Ne.symm h), wr_at]
  · rw [wr_ne e]
    by_cases q : c = i
    · subst q; rw [wr_at, wr_at, wr_ne e]
    · rw [wr_ne q, wr_ne q, wr_ne e]
def Mf (m f : Nat) : Int32 := clB (nI m + 2 * nI f)
theorem Mf_in (m f : Nat) : vp_in (Mf m f) 101 := clB_in _
theorem clB_nI : ∀ k, k < 300 → clB (nI k) = nI (min k 100) := by decide +kernel
theorem Mf_nat {m f : Nat} (hm : m < 101) (hf : f < 41) : Mf m f = nI (min (m + 2 * f) 100) := by
  unfold Mf
  rw [show (2 : Int32) = nI 2 from rfl, pk_mul, nI_add, clB_nI _ (by omega)]
theorem Mf_0 {m : Nat} (hm : m < 101) : Mf m 0 = nI m := by rw [Mf_nat hm (by omega)]; exact congrArg nI (by omega)
theorem Mf_s0 {m f : Nat} (hm : m < 101) (hf : f < 41) : clB (Mf m f + 2 * 0) = Mf m f := by
  rw [show (2 : Int32) * 0 = nI 0 from rfl, Mf_nat hm hf, nI_add, clB_nI _ (by omega)]
  exact congrArg nI (by omega)
theorem Mf_s1 {m f : Nat} (hm : m < 101) (hf : f < 40) : clB (Mf m f + 2 * nI 1) = Mf m (f + 1) := by
  rw [show (2 : Int32) * nI 1 = nI 2 from rfl, Mf_nat hm (by omega), Mf_nat hm (by omega), nI_add, clB_nI _ (by omega)]
  exact congrArg nI (by omega)
theorem pieceAt_man (u : PS) (v : Nat) (x p k : Int32) : f1_pieceAt (wr u 1 v x) p k = f1_pieceAt u p k := by
  unfold f1_pieceAt f1_hasPlace f1_lives
  rw [wr_ne (show (0 : Nat) ≠ 1 by decide), wr_ne (show (6 : Nat) ≠ 1 by decide)]
theorem loosen_kept (u : PS) (p k : Int32) : kept1 u (f1_loosen u p k).2 := by
  unfold f1_loosen
  by_cases h : f1_isPiece u (f1_pieceAt u p k) = 0
  · rw [if_pos h]; exact kept1.rf u
  · rw [if_neg h]
    dsimp only [sq]
    split
    · intro j a b c
      show wr _ 13 _ _ j = u j
      rw [wr_ne c, wr_ne b, wr_ne a]
    · intro j a b c
      show wr _ 8 _ _ j = u j
      rw [wr_ne b, wr_ne a]
theorem isPiece_any (u w : PS) (y : Int32) : f1_isPiece u y = f1_isPiece w y := by unfold f1_isPiece; rfl
theorem loosen_man (u : PS) (v : Nat) (x p k : Int32) : f1_loosen (wr u 1 v x) p k = ((f1_loosen u p k).1, wr (f1_loosen u p k).2 1 v x) := by
  unfold f1_loosen
  rw [pieceAt_man, isPiece_any (wr u 1 v x) u]
  generalize f1_pieceAt u p k = y
  generalize (p * 40 + k).toNatClampNeg = z
  by_cases h : f1_isPiece u y = 0
  · rw [if_pos h, if_pos h]
  · rw [if_neg h, if_neg h]
    dsimp only [sq]
    rw [wr_comm2 u (i := 1) (j := 6) (by decide)]
    generalize wr u 6 z (-1) = u1
    rw [show (wr u1 1 v x) 8 = u1 8 from wr_ne (by decide), wr_comm2 u1 (i := 1) (j := 8) (by decide)]
    generalize wr u1 8 y.toNatClampNeg (u1 8 y.toNatClampNeg - 1) = u4
    rw [show (wr u4 1 v x) 8 = u4 8 from wr_ne (by decide), show (wr u4 1 v x) 13 = u4 13 from wr_ne (by decide), wr_comm2 u4 (i := 1) (j := 13) (by decide)]
    by_cases h2 : u4 8 y.toNatClampNeg ≤ 0
    · rw [if_pos h2, if_pos h2]
    · rw [if_neg h2, if_neg h2]
theorem sweep15_none {u : PS} (hP : iP u) {v : Nat} (hv : v < 8) : ∀ n i x, i + n = 40 → (∀ k, i ≤ k → k < 40 → u 6 (40 * v + k) = -1) → f1_sweepVolume_L15 (nI v) n i x u = (x, u) := by
  intro n
  induction n with
  | zero => intro i x _ _; rw [f1_sweepVolume_L15]
  | succ n ih =>
    intro i x hi hk
    rw [f1_sweepVolume_L15, e_pieceAt hP hv (by omega), hk i (Nat.le_refl i) (by omega), e_isP0, if_pos rfl]
    exact ih (i + 1) x (by omega) (fun k a b => hk k (by omega) b)
theorem e_sweepL {v m : Nat} (hv : v < 8) (hm : m < 101) : ∀ n i f : Nat, ∀ u τ : PS, i + n = 40 → f ≤ i → RI (wr u 1 v (Mf m f)) (τ 0) → 0 < u 0 v → ∃ (g : Nat) (u2 τ2 : PS), f ≤ g ∧ g ≤ f + n ∧ f1_sweepVolume_L15 (nI v) n i (nI f) u = (nI g, u2) ∧ f6_sweeps_L4 (nI v) n i (nI f) τ = (nI g, τ2) ∧ RI (wr u2 1 v (Mf m g)) (τ2 0) ∧ (∀ j, j ≠ 0 → τ2 j = τ j) ∧ kept1 u u2 := by
  intro n
  induction n with
  | zero =>
    intro i f u τ hi hf h hl
    rw [f1_sweepVolume_L15, f6_sweeps_L4]
    exact ⟨f, u, τ, Nat.le_refl _, Nat.le_refl _, rfl, rfl, h, fun _ _ => rfl, kept1.rf u⟩
  | succ n ih =>
    intro i f u τ hi hf h hl
    have hP : iP u := h.iP
    have hl' : 0 < (wr u 1 v (Mf m f)) 0 v := hl
    rw [f6_sweeps_L4, e_of1 hv, (h.V v hv hl').1]
    have r0 : (wr u 1 v (Mf m f)) 0 v = u 0 v := rfl
    rw [r0]
    by_cases hs : u 0 v ≤ nI i
    · rw [if_pos hs, sweep15_none hP hv (n + 1) i (nI f) hi (fun k a b => e_behind hP hv b a hs)]
      exact ⟨f, u, τ, Nat.le_refl _, by omega, rfl, rfl, h, fun _ _ => rfl, kept1.rf u⟩
    · rw [if_neg hs, f1_sweepVolume_L15, e_pieceAt hP hv (by omega), e_piece hv (by omega), h.P v i hv (by omega) hl']
      have r6 : (wr u 1 v (Mf m f)) 6 (40 * v + i) = u 6 (40 * v + i) := rfl
      have rM : (wr u 1 v (Mf m f)) 1 v = Mf m f := pk_us (f := u 1)
      rw [r6, e_behaves h hv hl', rM, Mf_s0 hm (by omega)]
      dsimp only [sq]
      rw [show nI f + 0 = nI f from Int32.add_zero _]
      have R0 : RI (wr u 1 v (Mf m f)) ((wr τ 0 (69 + 47 * v) (Mf m f)) 0) := by
        have := RI_man hv (Mf_in m f) h
        rw [wr_wr] at this; exact this
      have skip : ∃ (g : Nat) (u2 τ2 : PS), f ≤ g ∧ g ≤ f + (n + 1) ∧ f1_sweepVolume_L15 (nI v) n (i + 1) (nI f) u = (nI g, u2) ∧ f6_sweeps_L4 (nI v) n (i + 1) (nI f) (wr τ 0 (69 + 47 * v) (Mf m f)) = (nI g, τ2) ∧ RI (wr u2 1 v (Mf m g)) (τ2 0) ∧ (∀ j, j ≠ 0 → τ2 j = τ j) ∧ kept1 u u2 := by
        obtain ⟨g, u2, τ2, a1, a2, a3, a4, a5, a6, a7⟩ := ih (i + 1) f u (wr τ 0 (69 + 47 * v) (Mf m f)) (by omega) (by omega) R0 hl
        exact ⟨g, u2, τ2, a1, by omega, a3, a4, a5, fun j hj => (a6 j hj).trans (by rw [wr_ne hj]), a7⟩
      rcases e_spot hP hv (show i < 40 by omega) with e | ⟨p, hp, e, _⟩
      · rw [e, e_isP0, if_pos rfl, if_pos (show (-1 : Int32) < 0 by decide)]
        exact skip
      · rw [e, e_isP hp, if_neg ne10, if_neg (nI_pos (by omega)), show (7 : Int32) + nI p = nI (7 + p) from nI_add 7 p, nI_clamp (by omega), nI_clamp (by omega), h.D p hp]
        have r7 : (wr u 1 v (Mf m f)) 7 p = u 7 p := rfl
        rw [r7]
        by_cases z : u 7 p = 0
        · rw [if_pos z, if_pos z]
          obtain ⟨r, u2, τ2, r1, a, b, c, d, k1, g6, _⟩ := e_loosen h hv (show i < 40 by omega) hp hl' e
          rw [loosen_man] at a
          rw [b]
          dsimp only [sq2]
          have a1 : (f1_loosen u (nI v) (nI i)).1 = nI r := congrArg Prod.fst a
          have a2 : wr (f1_loosen u (nI v) (nI i)).2 1 v (Mf m f) = u2 := congrArg Prod.snd a
          rw [a1]
          have hk3 := loosen_kept u (nI v) (nI i)
          generalize (f1_loosen u (nI v) (nI i)).2 = u3 at a2 hk3 ⊢
          have hl2 : 0 < u2 0 v := by rw [k1 0 (by decide) (by decide) (by decide)]; exact hl
          have rM2 : u2 1 v = Mf m f := by rw [← a2]; exact pk_us (f := u3 1)
          have hl3 : 0 < u3 0 v := by rw [← a2] at hl2; exact hl2
          rw [e_behaves c hv hl2, rM2, nI_add]
          have eM : clB (Mf m f + 2 * nI r) = Mf m (f + r) := by
            rcases (show r = 0 ∨ r = 1 by omega) with q | q
            · subst q; exact Mf_s0 hm (by omega)
            · subst q; exact Mf_s1 hm (by omega)
          rw [eM]
          have R3 : RI (wr u3 1 v (Mf m (f + r))) ((wr τ2 0 (69 + 47 * v) (Mf m (f + r))) 0) := by
            have := RI_man hv (Mf_in m (f + r)) c
            rw [← a2, wr_wr] at this; exact this
          obtain ⟨g, u4, τ4, b1, b2, b3, b4, b5, b6, b7⟩ := ih (i + 1) (f + r) u3 (wr τ2 0 (69 + 47 * v) (Mf m (f + r))) (by omega) (by omega) R3 hl3
          exact ⟨g, u4, τ4, by omega, by omega, b3, b4, b5, fun j hj => (b6 j hj).trans (by rw [wr_ne hj, d j hj]), hk3.tr b7⟩
        · rw [if_neg z, if_neg z]
          exact skip
