/-! What could be freed. -/
theorem cf37_no {p : Int32} (hp : p ≠ -2) : ∀ n i : Nat, ∀ (x : Int32) (τ : PS), i + n = 8 → (∀ j, i ≤ j → j < 8 → nI j ≠ p) → f6_couldFree_L37 p n i x τ = (x, τ) := by
  intro n
  induction n with
  | zero => intro i x τ _ _; rw [f6_couldFree_L37]
  | succ n ih =>
    intro i x τ hi hj
    rw [f6_couldFree_L37, if_neg (hj i (Nat.le_refl i) (by omega)), if_neg hp, show x + 0 = x from Int32.add_zero x, ite_self]
    exact ih (i + 1) x τ (by omega) (fun j a b => hj j (by omega) b)
theorem cf37_one {v g : Nat} (hv : v < 8) {τ ν : PS} (hl : τ 0 (67 + 47 * v) = 1) (hs : f6_sweeps τ (nI v) = (nI g, ν)) : ∀ n i : Nat, ∀ x : Int32, i + n = 8 → i ≤ v → f6_couldFree_L37 (nI v) n i x τ = (x + nI g, ν) := by
  have n2 : nI v ≠ -2 := fun q => by
    have := nI_pos (n := v) (by omega)
    rw [q] at this; exact this (by decide)
  intro n
  induction n with
  | zero => intro i x hi h; omega
  | succ n ih =>
    intro i x hi h
    rw [f6_couldFree_L37, e_of0 (by omega)]
    by_cases e : i = v
    · subst e
      rw [hl, if_pos rfl, if_pos rfl, hs]
      exact cf37_no n2 n (i + 1) (x + nI g) ν (by omega) (fun j a b q => by have := e_inj (by omega) (by omega) q; omega)
    · rw [if_neg (fun q => e (e_inj (by omega) (by omega) q)), if_neg n2, show x + 0 = x from Int32.add_zero x, ite_self]
      exact ih (i + 1) x (by omega) (by omega)
theorem cf_all {z0 z1 z2 z3 z4 z5 z7 z8 z9 : PS} : ∀ n i a : Nat, ∀ u τ : PS, i + n = 8 → RI u (τ 0) → ∃ (b : Nat) (u2 τ2 : PS), b ≤ a + 40 * n ∧ f5_couldFree_L43 n i (nI a) (mkZ z0 z1 z2 z3 z4 z5 u z7 z8 z9) = (nI b, mkZ z0 z1 z2 z3 z4 z5 u2 z7 z8 z9) ∧ f6_couldFree_L37 (-2) n i (nI a) τ = (nI b, τ2) ∧ RI u2 (τ2 0) ∧ ∀ j, j ≠ 0 → τ2 j = τ j := by
  intro n
  induction n with
  | zero =>
    intro i a u τ hi h
    rw [f5_couldFree_L43, f6_couldFree_L37]
    exact ⟨a, u, τ, by omega, rfl, rfl, h, fun _ _ => rfl⟩
  | succ n ih =>
    intro i a u τ hi h
    have hi8 : i < 8 := by omega
    rw [f5_couldFree_L43, f6_couldFree_L37, e_of0 hi8]
    have p6 : (mkZ z0 z1 z2 z3 z4 z5 u z7 z8 z9) 6 = u := rfl
    rw [p6]
    rcases h.L i hi8 with ⟨l, m⟩ | ⟨l, m⟩
    · obtain ⟨g, u2, τ2, g1, a1, a2, a3, a4, _⟩ := e_sweepV h hi8 l
      rw [e_lives1 hi8 l, if_neg ne10, m, if_pos rfl, a1, a2]
      dsimp only [sq2]
      rw [nI_add]
      have ne : ¬ nI i = -2 := fun q => by
        have := nI_pos (n := i) (by omega)
        rw [q] at this; exact this (by decide)
      rw [if_neg ne, if_pos rfl]
      obtain ⟨b, u3, τ3, b1, b2, b3, b4, b5⟩ := ih (i + 1) (a + g) u2 τ2 (by omega) a3
      exact ⟨b, u3, τ3, by omega, b2, b3, b4, fun j hj => (b5 j hj).trans (a4 j hj)⟩
    · rw [e_lives0 hi8 l, if_pos rfl, m, if_neg ne01, show nI a + 0 = nI a from Int32.add_zero _]
      obtain ⟨b, u3, τ3, b1, b2, b3, b4, b5⟩ := ih (i + 1) a u τ (by omega) h
      exact ⟨b, u3, τ3, by omega, b2, b3, b4, b5⟩
/-- a model that has gone back to where it was -/
def back (μ ν : PS) : Prop := (∀ k, k < 443 → ν 0 k = μ 0 k) ∧ ∀ j, j ≠ 0 → j ≠ 3 → ν j = μ j
theorem bk_of {μ ν : PS} (h : ∀ j, j ≠ 0 → ν j = (cpyR μ 0 3) j) : back μ (cpyR ν 3 0) := by
  refine ⟨fun k hk => ?_, fun j j0 j3 => ?_⟩
  · rw [cpyR_at _ hk, h 3 (by decide), cpyR_at _ hk]
  · rw [cpyR_ne _ j0, h j j0, cpyR_ne _ j3]
theorem cf_m1 {Z : ST} {μ : PS} (h : RI (Z 0) (μ 0)) : (f5_couldFree Z (-1)).1 = (f6_couldFree μ (-1)).1 ∧ back μ (f6_couldFree μ (-1)).2 ∧ ∃ u, (f5_couldFree Z (-1)).2 = mkZ (Z 0) (Z 1) (Z 2) (Z 3) (Z 4) (Z 5) u (Z 7) (Z 8) (Z 9) := by
  have h5 : RI (f1_copyFrom (Z 6) (Z 0)) (μ 0) := RI_cpy h
  have h6 : RI (f1_copyFrom (Z 6) (Z 0)) ((cpyR μ 0 3) 0) := by rw [cpyR_ne μ (show (0 : Nat) ≠ 3 by decide)]; exact h5
  obtain ⟨u5, hu5⟩ : ∃ u5, f1_copyFrom (Z 6) (Z 0) = u5 := ⟨_, rfl⟩
  obtain ⟨τ, hτ⟩ : ∃ τ, cpyR μ 0 3 = τ := ⟨_, rfl⟩
  rw [hu5] at h5 h6
  rw [hτ] at h6
  have l0 : f1_lives u5 (-1) = 0 := by unfold f1_lives; rw [if_pos (by decide)]
  obtain ⟨g, V, ν, g1, a, b, c, d⟩ := e_merges h6
  have A1 : (f5_couldFree Z (-1)) = (nI g, mkZ (Z 0) (Z 1) (Z 2) (Z 3) (Z 4) (Z 5) V (Z 7) (Z 8) (Z 9)) := by
    unfold f5_couldFree
    dsimp only [sq]
    rw [hu5, if_pos (show (-1 : Int32) = -1 from rfl)]
    dsimp only [sq2]
    rw [a]
  have no : f6_couldFree_L37 (-1) 8 0 0 τ = (0, τ) := cf37_no (by decide) 8 0 0 τ rfl (fun j _ b q => e_neg (show j < 2 ^ 31 by omega) q)
  have A2 : f6_couldFree μ (-1) = (0 + nI g, cpyR ν 3 0) := by
    have iv : f6_isVolume μ (-1) = 0 := (e_isVol h5.L (-1)).trans l0
    unfold f6_couldFree
    rw [if_pos iv, if_pos (show (-1 : Int32) = -1 from rfl)]
    dsimp only [sq, sq2]
    rw [hτ, no]
    dsimp only
    rw [b, if_neg e_m1]
  rw [A1, A2]
  exact ⟨(Int32.zero_add _).symm, bk_of (fun j hj => by rw [d j hj, hτ]), V, rfl⟩
theorem cf_m2 {Z : ST} {μ : PS} (h : RI (Z 0) (μ 0)) : (f5_couldFree Z (-2)).1 = (f6_couldFree μ (-2)).1 ∧ back μ (f6_couldFree μ (-2)).2 ∧ ∃ u, (f5_couldFree Z (-2)).2 = mkZ (Z 0) (Z 1) (Z 2) (Z 3) (Z 4) (Z 5) u (Z 7) (Z 8) (Z 9) := by
  have h5 : RI (f1_copyFrom (Z 6) (Z 0)) (μ 0) := RI_cpy h
  have h6 : RI (f1_copyFrom (Z 6) (Z 0)) ((cpyR μ 0 3) 0) := by rw [cpyR_ne μ (show (0 : Nat) ≠ 3 by decide)]; exact h5
  unfold f5_couldFree f6_couldFree
  rw [e_isVol h5.L]
  dsimp only [sq]
  obtain ⟨u5, hu5⟩ : ∃ u5, f1_copyFrom (Z 6) (Z 0) = u5 := ⟨_, rfl⟩
  obtain ⟨τ, hτ⟩ : ∃ τ, cpyR μ 0 3 = τ := ⟨_, rfl⟩
  rw [hu5] at h5 h6 ⊢
  have bk : ∀ ν : PS, (∀ j, j ≠ 0 → ν j = τ j) → back μ (cpyR ν 3 0) := fun ν hν => bk_of (fun j hj => by rw [hν j hj, hτ])
  rw [hτ] at h6 ⊢
  have q1 : ¬ (-2 : Int32) = -1 := by decide
  have l0 : f1_lives u5 (-2) = 0 := by unfold f1_lives; rw [if_pos (by decide)]
  rw [if_neg q1, if_pos rfl, l0, if_pos rfl, if_neg q1, if_pos rfl]
  obtain ⟨b, u2, τ2, b1, b2, b3, b4, b5⟩ := cf_all (z0 := Z 0) (z1 := Z 1) (z2 := Z 2) (z3 := Z 3) (z4 := Z 4) (z5 := Z 5) (z7 := Z 7) (z8 := Z 8) (z9 := Z 9) 8 0 0 u5 τ rfl h6
  rw [nI_0] at b2 b3
  rw [b2, b3]
  dsimp only [sq2]
  obtain ⟨g, V, ν, g1, a, m, c, d⟩ := e_merges b4
  have p6 : (mkZ (Z 0) (Z 1) (Z 2) (Z 3) (Z 4) (Z 5) u2 (Z 7) (Z 8) (Z 9)) 6 = u2 := rfl
  rw [p6, a, m, if_neg (show ¬ 0 ≤ (-2 : Int32) by decide)]
  exact ⟨rfl, bk ν (fun j hj => (d j hj).trans (b5 j hj)), V, rfl⟩
theorem cf_vol {Z : ST} {μ : PS} (h : RI (Z 0) (μ 0)) {p1 : Int32} (q1 : ¬ p1 = -1) (q2 : ¬ p1 = -2) : (f5_couldFree Z p1).1 = (f6_couldFree μ p1).1 ∧ back μ (f6_couldFree μ p1).2 ∧ ∃ u, (f5_couldFree Z p1).2 = mkZ (Z 0) (Z 1) (Z 2) (Z 3) (Z 4) (Z 5) u (Z 7) (Z 8) (Z 9) := by
  have h5 : RI (f1_copyFrom (Z 6) (Z 0)) (μ 0) := RI_cpy h
  have h6 : RI (f1_copyFrom (Z 6) (Z 0)) ((cpyR μ 0 3) 0) := by rw [cpyR_ne μ (show (0 : Nat) ≠ 3 by decide)]; exact h5
  unfold f5_couldFree f6_couldFree
  rw [e_isVol h5.L]
  dsimp only [sq]
  obtain ⟨u5, hu5⟩ : ∃ u5, f1_copyFrom (Z 6) (Z 0) = u5 := ⟨_, rfl⟩
  obtain ⟨τ, hτ⟩ : ∃ τ, cpyR μ 0 3 = τ := ⟨_, rfl⟩
  rw [hu5] at h5 h6 ⊢
  have bk : ∀ ν : PS, (∀ j, j ≠ 0 → ν j = τ j) → back μ (cpyR ν 3 0) := fun ν hν => bk_of (fun j hj => by rw [hν j hj, hτ])
  rw [hτ] at h6 ⊢
  rw [if_neg q1, if_neg q2]
  rcases e_liv u5 p1 with l | ⟨v, hv, rfl, hl, l⟩
  · have e : f1_sweepVolume u5 p1 = ((-1000001 : Int32), u5) := by unfold f1_sweepVolume; rw [if_pos l]
    rw [l, if_pos rfl, if_neg q1, if_neg q2, e]
    exact ⟨rfl, ⟨fun _ _ => rfl, fun _ _ _ => rfl⟩, u5, rfl⟩
  · obtain ⟨g, u2, τ2, g1, a1, a2, a3, a4, _⟩ := e_sweepV h6 hv hl
    have fl : τ 0 (67 + 47 * v) = 1 := by
      rcases h6.L v hv with ⟨_, z⟩ | ⟨z, _⟩
      · exact z
      · rw [z] at hl; exact absurd hl (by decide)
    rw [l, if_neg ne10, a1, cf37_one hv fl a2 8 0 0 rfl (Nat.zero_le v)]
    dsimp only [sq2]
    rw [if_pos (nI_pos' (by omega)), show (0 : Int32) + nI g = nI g from Int32.zero_add _]
    exact ⟨(Int32.add_zero _).symm, bk τ2 a4, u2, rfl⟩
theorem e_couldFree {Z : ST} {μ : PS} (h : RI (Z 0) (μ 0)) (p1 : Int32) : (f5_couldFree Z p1).1 = (f6_couldFree μ p1).1 ∧ back μ (f6_couldFree μ p1).2 ∧ ∃ u, (f5_couldFree Z p1).2 = mkZ (Z 0) (Z 1) (Z 2) (Z 3) (Z 4) (Z 5) u (Z 7) (Z 8) (Z 9) := by
  by_cases q1 : p1 = -1
  · subst q1; exact cf_m1 h
  · by_cases q2 : p1 = -2
    · subst q2; exact cf_m2 h
    · exact cf_vol h q1 q2
/-! The whole: pool, history, text. -/
def Sim (Z : ST) (μ : PS) : Prop := RI (Z 0) (μ 0) ∧ (∃ k, k ≤ 4 ∧ Z 8 0 0 = nI k ∧ μ 6 0 = nI k ∧ ∀ j, j < k → RI (Z (j + 1)) (fun q => μ 1 (443 * j + q))) ∧ (∃ t, t ≤ 60 ∧ Z 7 2 0 = nI t ∧ μ 6 2 = nI t ∧ ∀ i, i < t → Z 7 0 i = μ 4 i) ∧ μ 6 1 = 0
theorem Sim_back {Z : ST} {μ ν : PS} (h : Sim Z μ) (b : back μ ν) : Sim Z ν := by
  obtain ⟨a, ⟨k, k1, k2, k3, k4⟩, ⟨t, t1, t2, t3, t4⟩, d⟩ := h
  obtain ⟨b0, bj⟩ := b
  have b1 := bj 1 (by decide) (by decide)
  have b4 := bj 4 (by decide) (by decide)
  have b6 := bj 6 (by decide) (by decide)
  refine ⟨RI_s b0 a, ⟨k, k1, k2, by rw [b6]; exact k3, fun j hj => by rw [b1]; exact k4 j hj⟩, ⟨t, t1, t2, by rw [b6]; exact t3, fun i hi => by rw [b4]; exact t4 i hi⟩, by rw [b6]; exact d⟩
theorem Sim_trial {Z : ST} {μ u : PS} (h : Sim Z μ) : Sim (mkZ (Z 0) (Z 1) (Z 2) (Z 3) (Z 4) (Z 5) u (Z 7) (Z 8) (Z 9)) μ := by
  obtain ⟨a, ⟨k, k1, k2, k3, k4⟩, c, d⟩ := h
  refine ⟨a, ⟨k, k1, k2, k3, fun j hj => ?_⟩, c, d⟩
  have := k4 j hj
  rcases (show j = 0 ∨ j = 1 ∨ j = 2 ∨ j = 3 by omega) with rfl | rfl | rfl | rfl <;> exact this
/-! the model's history -/
theorem chg18_at : ∀ n i : Nat, ∀ u : PS, ∀ q, (f6_changes_L18 n i u) 1 q = if i ≤ q ∧ q < i + n then u 1 (q + 443) else u 1 q := by
  intro n
  induction n with
  | zero => intro i u q; rw [f6_changes_L18, if_neg (by omega)]
  | succ n ih =>
    intro i u q
    rw [f6_changes_L18]
    dsimp only [sq]
    have r1 : ∀ q, (wr u 1 i (u 1 (i + 443))) 1 q = upd (u 1) i (u 1 (i + 443)) q := fun _ => rfl
    rw [ih (i + 1), r1, r1]
    by_cases e : q = i
    · subst e
      rw [if_neg (by omega), if_pos (by omega), pk_us]
    · by_cases z : i + 1 ≤ q ∧ q < i + 1 + n
      · rw [if_pos z, if_pos (by omega), pk_un (by omega)]
      · rw [if_neg z, if_neg (by omega), pk_un e]
theorem chg59_at {k : Nat} (hk : k ≤ 3) : ∀ n i : Nat, ∀ u : PS, i + n = 443 → u 6 0 = nI k → ∀ q, (f6_changes_L59 n i u) 1 q = if 443 * k + i ≤ q ∧ q < 443 * k + 443 then u 0 (q - 443 * k) else u 1 q := by
  intro n
  induction n with
  | zero => intro i u hi _ q; rw [f6_changes_L59, if_neg (by omega)]
  | succ n ih =>
    intro i u hi h6 q
    rw [f6_changes_L59]
    dsimp only [sq]
    have ix : ((443 : Int32) * (u 6 0) + nI i).toNatClampNeg = 443 * k + i := by
      rw [h6, show (443 : Int32) * nI k + nI i = nI (443 * k + i) from by rw [show (443 : Int32) = nI 443 from rfl, pk_mul, nI_add], nI_clamp (by omega)]
    rw [ix]
    have r1 : ∀ q, (wr u 1 (443 * k + i) (u 0 i)) 1 q = upd (u 1) (443 * k + i) (u 0 i) q := fun _ => rfl
    have r0 : ∀ q, (wr u 1 (443 * k + i) (u 0 i)) 0 q = u 0 q := fun _ => rfl
    rw [ih (i + 1) (wr u 1 (443 * k + i) (u 0 i)) (by omega) h6, r0, r1]
    by_cases e : q = 443 * k + i
    · subst e
      rw [if_neg (by omega), if_pos (by omega), pk_us]
      exact congrArg (u 0) (by omega)
    · by_cases z : 443 * k + (i + 1) ≤ q ∧ q < 443 * k + 443
      · rw [if_pos z, if_pos (by omega)]
      · rw [if_neg z, if_neg (by omega), pk_un e]
theorem chg_spec {μ : PS} {k : Nat} (hk : k ≤ 4) (h1 : μ 6 1 = 0) (h0 : μ 6 0 = nI k) : ∃ ν, f6_changes μ = ν ∧ (∀ j, j ≠ 1 → j ≠ 6 → ν j = μ j) ∧ (∀ i, i ≠ 0 → ν 6 i = μ 6 i) ∧ ((k < 4 ∧ ν 6 0 = nI (k + 1) ∧ (∀ j q, j < k → q < 443 → ν 1 (443 * j + q) = μ 1 (443 * j + q)) ∧ ∀ q, q < 443 → ν 1 (443 * k + q) = μ 0 q) ∨ (k = 4 ∧ ν 6 0 = nI 4 ∧ (∀ j q, j < 3 → q < 443 → ν 1 (443 * j + q) = μ 1 (443 * (j + 1) + q)) ∧ ∀ q, q < 443 → ν 1 (443 * 3 + q) = μ 0 q)) := by
  refine ⟨f6_changes μ, rfl, fun j a b => chg_ne a b, ?_⟩
  unfold f6_changes
  rw [if_pos h1]
  dsimp only [sq]
  by_cases q4 : μ 6 0 = 4
  · have k4 : k = 4 := e_inj (b := 4) (by omega) (by decide) (h0.symm.trans q4)
    rw [if_pos q4]
    have a18 := chg18_at 1329 0 μ
    have n18 : ∀ j, j ≠ 1 → f6_changes_L18 1329 0 μ j = μ j := chg18 1329 0 μ
    obtain ⟨σ, hσ⟩ : ∃ σ, f6_changes_L18 1329 0 μ = σ := ⟨_, rfl⟩
    rw [hσ] at a18 n18 ⊢
    have s6 : σ 6 0 - 1 = nI 3 := by rw [n18 6 (by decide), q4]; decide
    rw [s6]
    have c6 : (wr σ 6 0 (nI 3)) 6 0 = nI 3 := rfl
    have a59 := chg59_at (k := 3) (by decide) 443 0 (wr σ 6 0 (nI 3)) rfl c6
    have n59 := chg59 443 0 (wr σ 6 0 (nI 3))
    obtain ⟨ρ, hρ⟩ : ∃ ρ, f6_changes_L59 443 0 (wr σ 6 0 (nI 3)) = ρ := ⟨_, rfl⟩
    rw [hρ] at a59 n59 ⊢
    have r60 : ρ 6 0 = nI 3 := by rw [n59 6 (by decide)]; rfl
    rw [r60]
    have x1 : ∀ q, (wr ρ 6 0 (nI 3 + 1)) 1 q = ρ 1 q := fun _ => rfl
    have x6 : ∀ q, (wr ρ 6 0 (nI 3 + 1)) 6 q = upd (ρ 6) 0 (nI 3 + 1) q := fun _ => rfl
    refine ⟨fun i hi => ?_, Or.inr ⟨k4, by rw [x6, pk_us]; rfl, fun j q hj hq => ?_, fun q hq => ?_⟩⟩
    · rw [x6, pk_un hi, n59 6 (by decide)]
      show upd (σ 6) 0 (nI 3) i = μ 6 i
      rw [pk_un hi, n18 6 (by decide)]
    · rw [x1, a59, if_neg (by omega)]
      show σ 1 (443 * j + q) = _
      rw [a18, if_pos (by omega)]
      exact congrArg (μ 1) (by omega)
    · rw [x1, a59, if_pos (by omega)]
      show σ 0 (443 * 3 + q - 443 * 3) = μ 0 q
      rw [n18 0 (by decide)]
      exact congrArg (μ 0) (by omega)
  · rw [if_neg q4]
    have k4 : k ≠ 4 := fun e => q4 (by rw [h0, e]; rfl)
    have a59 := chg59_at (k := k) (by omega) 443 0 μ rfl h0
    have n59 := chg59 443 0 μ
    obtain ⟨ρ, hρ⟩ : ∃ ρ, f6_changes_L59 443 0 μ = ρ := ⟨_, rfl⟩
    rw [hρ] at a59 n59 ⊢
    have r60 : ρ 6 0 + 1 = nI (k + 1) := by rw [n59 6 (by decide), h0]; exact nI_1 k
    rw [r60]
    have x1 : ∀ q, (wr ρ 6 0 (nI (k + 1))) 1 q = ρ 1 q := fun _ => rfl
    have x6 : ∀ q, (wr ρ 6 0 (nI (k + 1))) 6 q = upd (ρ 6) 0 (nI (k + 1)) q := fun _ => rfl
    refine ⟨fun i hi => ?_, Or.inl ⟨by omega, by rw [x6, pk_us], fun j q hj hq => ?_, fun q hq => ?_⟩⟩
    · rw [x6, pk_un hi, n59 6 (by decide)]
    · rw [x1, a59, if_neg (by
        intro y
        have : 443 * j + 443 ≤ 443 * k := by
          have := Nat.mul_le_mul_left 443 (show j + 1 ≤ k from hj)
          omega
        omega)]
    · rw [x1, a59, if_pos (by omega)]
      exact congrArg (μ 0) (by omega)
