/-! Calls that change the pool: what class and model come to, for each. -/
theorem chg18 : ∀ n i : Nat, ∀ u : PS, ∀ j, j ≠ 1 → f6_changes_L18 n i u j = u j := by
  intro n
  induction n with
  | zero => intro i u j _; rw [f6_changes_L18]
  | succ n ih => intro i u j hj; rw [f6_changes_L18]; dsimp only [sq]; rw [ih _ _ j hj, wr_ne hj]
theorem chg59 : ∀ n i : Nat, ∀ u : PS, ∀ j, j ≠ 1 → f6_changes_L59 n i u j = u j := by
  intro n
  induction n with
  | zero => intro i u j _; rw [f6_changes_L59]
  | succ n ih => intro i u j hj; rw [f6_changes_L59]; dsimp only [sq]; rw [ih _ _ j hj, wr_ne hj]
theorem chg_ne {μ : PS} {j : Nat} (h1 : j ≠ 1) (h6 : j ≠ 6) : f6_changes μ j = μ j := by
  unfold f6_changes; dsimp only [sq]
  by_cases h : μ 6 1 = 0
  · rw [if_pos h]
    by_cases h2 : μ 6 0 = 4
    · rw [if_pos h2, wr_ne h6, chg59 _ _ _ _ h1, wr_ne h6, chg18 _ _ _ _ h1]
    · rw [if_neg h2, wr_ne h6, chg59 _ _ _ _ h1]
  · rw [if_neg h]
theorem RI_chg {u μ : PS} (h : RI u (μ 0)) : RI u ((f6_changes μ) 0) := by rw [chg_ne (by decide) (by decide)]; exact h
/-- class and model come to the same: an error, and nothing has changed; or the same answer and the same pool -/
def opOk (u μ : PS) (C M : Int32 × PS) : Prop := (f5_isError C.1 = 1 ∧ C.2 = u ∧ M = (C.1, μ)) ∨ (f5_isError C.1 = 0 ∧ M.1 = C.1 ∧ RI C.2 (M.2 0) ∧ ∀ j, j ≠ 0 → M.2 j = (f6_changes μ) j)
theorem err_nI {k : Nat} (h : k < 2 ^ 31) : f5_isError (nI k) = 0 := by
  have g : ∀ c : Int32, c < 0 → ¬ nI k = c := fun c hc q => by rw [← q] at hc; exact nI_pos h hc
  unfold f5_isError
  rw [if_neg (g _ (by decide)), if_neg (g _ (by decide)), if_neg (g _ (by decide)), if_neg (g _ (by decide))]
theorem opOk_err {u μ : PS} {c : Int32} (h : f5_isError c = 1) : opOk u μ (c, u) (c, μ) := Or.inl ⟨h, rfl, rfl⟩
theorem wr_comm (u : PS) {j a b : Nat} {x y : Int32} (h : a ≠ b) : wr (wr u j a x) j b y = wr (wr u j b y) j a x := by
  funext i k
  by_cases e : i = j
  · subst e
    rw [wr_at, wr_at, wr_at, wr_at]
    by_cases q : k = b
    · rw [if_pos q, if_neg (by omega), if_pos q]
    · rw [if_neg q, if_neg q]
  · rw [wr_ne e, wr_ne e, wr_ne e, wr_ne e]
theorem no_self {u : PS} (hT : iT u) {v : Nat} (hv : v < 8) : u 3 v ≠ nI v := fun e => by
  obtain ⟨rk, hr⟩ := hT
  exact Nat.lt_irrefl _ (hr v v hv hv e)
theorem RI_par {u : PS} {s : Nat → Int32} {v i : Nat} (hv : v < 8) (hi : i < 8) (e : u 3 i = nI v) (h : RI u s) : RI (wr u 3 i (u 3 v)) (upd s (71 + 47 * i) (u 3 v)) := by
  refine ⟨qR_f3 hi h.1, h.iS, h.iP, h.iM, h.iQ, fun w hw => ?_, ?_, h.iO, h.iF, h.iK⟩
  · show upd (u 3) i (u 3 v) w = -1 ∨ (0 < u 0 w ∧ ∃ x, x < 8 ∧ upd (u 3) i (u 3 v) w = nI x ∧ 0 < u 0 x)
    by_cases q : w = i
    · subst q
      rw [pk_us]
      rcases h.iA w hw with z | ⟨z, _⟩
      · rw [e] at z; exact absurd z (e_neg (by omega))
      · rcases h.iA v hv with y | ⟨_, y⟩
        · exact Or.inl y
        · exact Or.inr ⟨z, y⟩
    · rw [pk_un q]; exact h.iA w hw
  · obtain ⟨rk, hr⟩ := h.iT
    refine ⟨rk, fun a b ha hb hab => ?_⟩
    have hab : upd (u 3) i (u 3 v) a = nI b := hab
    by_cases q : a = i
    · subst q
      rw [pk_us] at hab
      exact Nat.lt_trans (hr v b hv hb hab) (hr a v ha hv e)
    · rw [pk_un q] at hab; exact hr a b ha hb hab
theorem e_drop66 {v : Nat} (hv : v < 8) : ∀ n i : Nat, ∀ u τ : PS, i + n = 8 → RI u (τ 0) → 0 < u 0 v → (∀ j, j < i → u 3 j ≠ nI v) → ∃ u2 τ2 : PS, f1_dropVolume_L38 (nI v) n i u = u2 ∧ f6_drop_L66 (nI v) n i (wr τ 0 (67 + 47 * v) 0) = wr τ2 0 (67 + 47 * v) 0 ∧ RI u2 (τ2 0) ∧ (∀ j, j ≠ 0 → τ2 j = τ j) ∧ (∀ j, j ≠ 3 → u2 j = u j) ∧ ∀ j, j < 8 → u2 3 j ≠ nI v := by
  intro n
  induction n with
  | zero =>
    intro i u τ hi h hl hj
    rw [f1_dropVolume_L38, f6_drop_L66]
    exact ⟨u, τ, rfl, rfl, h, fun _ _ => rfl, fun _ _ => rfl, fun j q => hj j (by omega)⟩
  | succ n ih =>
    intro i u τ hi h hl hj
    have hi8 : i < 8 := by omega
    rw [f1_dropVolume_L38, f6_drop_L66, e_of0 hi8, nI_clamp (by omega)]
    have r0 : (wr τ 0 (67 + 47 * v) 0) 0 = upd (τ 0) (67 + 47 * v) 0 := rfl
    dsimp only [sq]
    rw [r0]
    have skip : u 3 i ≠ nI v → ∃ u2 τ2 : PS, f1_dropVolume_L38 (nI v) n (i + 1) u = u2 ∧ f6_drop_L66 (nI v) n (i + 1) (wr τ 0 (67 + 47 * v) 0) = wr τ2 0 (67 + 47 * v) 0 ∧ RI u2 (τ2 0) ∧ (∀ j, j ≠ 0 → τ2 j = τ j) ∧ (∀ j, j ≠ 3 → u2 j = u j) ∧ ∀ j, j < 8 → u2 3 j ≠ nI v := fun q => ih (i + 1) u τ (by omega) h hl (fun j hjj => by
      by_cases z : j = i
      · rw [z]; exact q
      · exact hj j (by omega))
    by_cases e : i = v
    · subst e
      rw [pk_us, if_neg ne01, if_neg (no_self h.iT hv)]
      exact skip (no_self h.iT hv)
    · rw [pk_un (by omega)]
      rcases h.L i hi8 with ⟨a, b⟩ | ⟨a, b⟩
      · rw [b, if_pos rfl, e_of4 hi8, e_of4 hv, r0, pk_un (by omega), pk_un (by omega), (h.V i hi8 a).2.2.2.1, (h.V v hv hl).2.2.2.1]
        by_cases q : u 3 i = nI v
        · rw [if_pos q, if_pos q, e_puts4 hi8, wr_comm τ (show 67 + 47 * v ≠ 71 + 47 * i by omega)]
          have R : RI (wr u 3 i (u 3 v)) ((wr τ 0 (71 + 47 * i) (u 3 v)) 0) := RI_par hv hi8 q h
          obtain ⟨u2, τ2, c1, c2, c3, c4, c5, c6⟩ := ih (i + 1) (wr u 3 i (u 3 v)) (wr τ 0 (71 + 47 * i) (u 3 v)) (by omega) R hl (fun j hjj => by
            show upd (u 3) i (u 3 v) j ≠ nI v
            by_cases z : j = i
            · rw [z, pk_us]; exact no_self h.iT hv
            · rw [pk_un z]; exact hj j (by omega))
          exact ⟨u2, τ2, c1, c2, c3, fun j hjj => (c4 j hjj).trans (by rw [wr_ne hjj]), fun j hjj => (c5 j hjj).trans (by rw [wr_ne hjj]), c6⟩
        · rw [if_neg q, if_neg q]; exact skip q
      · have q : u 3 i ≠ nI v := fun q => by
          rcases h.iA i hi8 with z | ⟨z, _⟩
          · rw [q] at z; exact e_neg (by omega) z
          · rw [a] at z; exact absurd z (by decide)
        rw [b, if_neg ne01, if_neg q]; exact skip q
/-- a volume dies -/
theorem RI_dead {u : PS} {s : Nat → Int32} {v : Nat} (hv : v < 8) (h : RI u s) (sp : ∀ k, k < 40 → u 6 (40 * v + k) = -1) (np : ∀ j, j < 8 → u 3 j ≠ nI v) : RI (wr (wr (wr u 3 v (-1)) 2 v 0) 0 v 0) (upd s (67 + 47 * v) 0) := by
  have u0 : ∀ w, (wr (wr (wr u 3 v (-1)) 2 v 0) 0 v 0) 0 w = upd (u 0) v 0 w := fun _ => rfl
  have u2 : ∀ w, (wr (wr (wr u 3 v (-1)) 2 v 0) 0 v 0) 2 w = upd (u 2) v 0 w := fun _ => rfl
  have u3 : ∀ w, (wr (wr (wr u 3 v (-1)) 2 v 0) 0 v 0) 3 w = upd (u 3) v (-1) w := fun _ => rfl
  have ne : ∀ w, 0 < upd (u 0) v 0 w → w ≠ v := fun w hw q => by rw [q, pk_us] at hw; exact absurd hw (by decide)
  refine ⟨⟨fun w hw => ?_, fun w hw hl => ?_, fun w k hw hk hl => ?_, fun p hp => ?_, fun i hi => ?_, ⟨?_, ?_, ?_, ?_⟩, fun i hi => ⟨?_, ?_, ?_⟩, fun a ha => ?_, fun a k ha hk => ?_⟩, fun w hw => ?_, fun w k hw hk => ?_, h.iM, fun w hw => ?_, fun w hw => ?_, ?_, h.iO, ?_, h.iK⟩
  · rw [u0]
    by_cases e : w = v
    · subst e; rw [pk_us, pk_us]; exact Or.inr ⟨rfl, rfl⟩
    · rw [pk_un e, pk_un (by omega)]; exact h.L w hw
  · rw [u0] at hl ⊢
    have e := ne w hl
    rw [pk_un e] at hl ⊢
    rw [u2, u3, pk_un e, pk_un e]
    obtain ⟨a1, a2, a3, a4, a5, a6⟩ := h.V w hw hl
    exact ⟨(pk_un (by omega)).trans a1, (pk_un (by omega)).trans a2, (pk_un (by omega)).trans a3, (pk_un (by omega)).trans a4, (pk_un (by omega)).trans a5, (pk_un (by omega)).trans a6⟩
  · rw [u0] at hl
    have e := ne w hl
    rw [pk_un e] at hl
    exact (pk_un (by omega)).trans (h.P w k hw hk hl)
  · exact (pk_un (by omega)).trans (h.D p hp)
  · exact (pk_un (by omega)).trans (h.E i hi)
  · exact (pk_un (by omega)).trans h.S.1
  · exact (pk_un (by omega)).trans h.S.2.1
  · exact (pk_un (by omega)).trans h.S.2.2.1
  · exact (pk_un (by omega)).trans h.S.2.2.2
  · exact (pk_un (by omega)).trans (h.W i hi).1
  · exact (pk_un (by omega)).trans (h.W i hi).2.1
  · exact (pk_un (by omega)).trans (h.W i hi).2.2
  · rw [pk_un (by omega)]; exact h.M.1 a ha
  · rw [pk_un (by omega)]; exact h.M.2 a k ha hk
  · rw [u0]
    by_cases e : w = v
    · rw [e, pk_us]; exact vp_in_nI (n := 0) (by decide) (by decide)
    · rw [pk_un e]; exact h.iS w hw
  · show u 6 (40 * w + k) = -1 ∨ (vp_in (u 6 (40 * w + k)) 30 ∧ nI k < upd (u 0) v 0 w)
    by_cases e : w = v
    · subst e; exact Or.inl (sp k hk)
    · rw [pk_un e]; exact h.iP w k hw hk
  · rw [u0, u2]
    by_cases e : w = v
    · rw [e, pk_us, pk_us]; exact ⟨vp_in_nI (n := 0) (by decide) (by decide), fun _ => rfl⟩
    · rw [pk_un e, pk_un e]; exact h.iQ w hw
  · rw [u0, u3]
    by_cases e : w = v
    · rw [e, pk_us]; exact Or.inl rfl
    · rw [pk_un e, pk_un e]
      rcases h.iA w hw with z | ⟨z, x, x1, x2, x3⟩
      · exact Or.inl z
      · have xv : x ≠ v := fun q => np w hw (by rw [x2, q])
        refine Or.inr ⟨z, x, x1, x2, ?_⟩
        rw [u0, pk_un xv]; exact x3
  · obtain ⟨rk, hr⟩ := h.iT
    refine ⟨rk, fun a b ha hb hab => ?_⟩
    rw [u3] at hab
    by_cases e : a = v
    · rw [e, pk_us] at hab; exact absurd hab.symm (e_neg (by omega))
    · rw [pk_un e] at hab; exact hr a b ha hb hab
  · have pw := prs_wr (u := u) (x := 0) hv
    have e0 : (0 : Int32).toNatClampNeg = 0 := by decide
    rw [e0] at pw
    have f2 : prs u ≤ fre u := h.iF
    have e1 : prs (wr (wr (wr u 3 v (-1)) 2 v 0) 0 v 0) = prs (wr u 2 v 0) := rfl
    show prs (wr (wr (wr u 3 v (-1)) 2 v 0) 0 v 0) ≤ fre u
    omega
theorem e_drop {u μ : PS} (h : RI u (μ 0)) (p1 : Int32) : opOk u μ (f1_dropVolume u p1) (f6_drop μ p1) := by
  unfold f1_dropVolume f6_drop
  rw [e_isVol h.L]
  rcases e_liv u p1 with h0 | ⟨v, hv, rfl, hl, h1⟩
  · rw [if_pos h0, if_pos h0]; exact opOk_err (by decide)
  · rw [h1, if_neg ne10, if_neg ne10]
    dsimp only [sq, sq2]
    have hc := RI_chg h
    obtain ⟨y, u2, τ2, a, b, c, d, f, g, z, z1, z2⟩ := e_drop19 hv 40 0 0 u (f6_changes μ) rfl hc hl
    rw [a, b]
    dsimp only
    have hl2 : 0 < u2 0 v := by rw [f 0 (by decide) (by decide) (by decide)]; exact hl
    obtain ⟨u3, τ3, a3, b3, c3, d3, f3, g3⟩ := e_drop66 hv 8 0 u2 τ2 rfl c hl2 (fun j q => absurd q (Nat.not_lt_zero j))
    rw [a3, e_puts0 hv, b3, nI_clamp (by omega)]
    right
    have yz : y = nI z := by rw [z1]; exact Int32.zero_add _
    refine ⟨?_, rfl, ?_, fun j hj => ?_⟩
    · show f5_isError y = 0
      rw [yz]; exact err_nI (by omega)
    · exact RI_dead hv c3 (fun k hk => by rw [f3 6 (by decide)]; exact g k hk (Or.inl (Nat.zero_le k))) g3
    · show wr τ3 0 (67 + 47 * v) 0 j = _
      rw [wr_ne hj, d3 j hj, d j hj]
/-! trimming -/
theorem clB_thank : ∀ k, k < 101 → ∀ f, f < 41 → clB (nI k + 2 * nI f) = (if 100 < nI k + 2 * nI f then 100 else nI k + 2 * nI f) := by decide +kernel
theorem e_thank {u μ : PS} (h : RI u (μ 0)) {v : Nat} (hv : v < 8) (hl : 0 < u 0 v) {f : Nat} (hf : f < 41) : ∃ m, vp_in m 101 ∧ f1_thank u (nI v) (nI f) = wr u 1 v m ∧ f6_behaves μ (nI v) (2 * nI f) = wr μ 0 (69 + 47 * v) m := by
  obtain ⟨m, hm, em⟩ := vp_in_of (h.iM v hv) (by decide)
  refine ⟨clB (u 1 v + 2 * nI f), clB_in _, ?_, e_behaves h hv hl _⟩
  unfold f1_thank
  dsimp only [sq]
  rw [nI_clamp (by omega), em, clB_thank m hm f hf]
theorem e_trim {u μ : PS} (h : RI u (μ 0)) (p1 p2 : Int32) : opOk u μ (f1_trimPlace u p1 p2) (f6_trim μ p1 p2) := by
  unfold f1_trimPlace f6_trim
  rw [e_isPlace h]
  rcases e_has h.iS p1 p2 with h0 | ⟨v, k, hv, hk, rfl, rfl, hl, h3, h4⟩
  · rw [if_pos h0, if_pos h0]; exact opOk_err (by decide)
  · rw [h4, if_neg ne10, if_neg ne10, e_pieceAt h.iP hv hk, e_piece hv hk, h.P v k hv hk hl]
    rcases e_spot h.iP hv hk with e | ⟨p, hp, e, _⟩
    · rw [e, if_pos rfl, if_neg e_m1]; exact opOk_err (by decide)
    · rw [e, if_neg (e_neg (by omega)), if_pos (nI_pos' (by omega))]
      dsimp only [sq, sq2]
      obtain ⟨r, u2, τ2, r1, a, b, c, d, f, g, _⟩ := e_loosen (RI_chg h) hv hk hp hl e
      rw [a, b]
      dsimp only
      have hl2 : 0 < u2 0 v := by rw [f 0 (by decide) (by decide) (by decide)]; exact hl
      obtain ⟨m, m1, m2, m3⟩ := e_thank c hv hl2 (show r < 41 by omega)
      rw [m2, m3]
      right
      refine ⟨err_nI (by omega), rfl, RI_man hv m1 c, fun j hj => ?_⟩
      show wr τ2 0 (69 + 47 * v) m j = _
      rw [wr_ne hj, d j hj]
