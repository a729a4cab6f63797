/-! Sweeping a volume; copies; new volumes. -/
theorem e_sweepV {u τ : PS} (h : RI u (τ 0)) {v : Nat} (hv : v < 8) (hl : 0 < u 0 v) : ∃ (g : Nat) (u2 τ2 : PS), g ≤ 40 ∧ f1_sweepVolume u (nI v) = (nI g, u2) ∧ f6_sweeps τ (nI v) = (nI g, τ2) ∧ RI u2 (τ2 0) ∧ (∀ j, j ≠ 0 → τ2 j = τ j) ∧ u2 0 = u 0 := by
  obtain ⟨m, hm, em⟩ := vp_in_of (h.iM v hv) (by decide)
  have R : RI (wr u 1 v (Mf m 0)) (τ 0) := by rw [Mf_0 hm, wr_id em]; exact h
  obtain ⟨g, u2, τ2, a1, a2, a3, a4, a5, a6, a7⟩ := e_sweepL hv hm 40 0 0 u τ rfl (Nat.le_refl 0) R hl
  refine ⟨g, wr u2 1 v (Mf m g), τ2, by omega, ?_, ?_, a5, a6, ?_⟩
  · unfold f1_sweepVolume
    rw [e_lives1 hv hl, if_neg ne10]
    dsimp only [sq, sq2]
    rw [show (0 : Int32) = nI 0 from rfl, a3]
    dsimp only
    have e1 : u2 1 v = nI m := by rw [a7 1 (by decide) (by decide) (by decide)]; exact em
    unfold f1_thank
    dsimp only [sq]
    rw [nI_clamp (by omega), e1, ← clB_thank m hm g (by omega)]; rfl
  · unfold f6_sweeps
    dsimp only [sq2]
    rw [show (0 : Int32) = nI 0 from rfl, a4]
  · rw [wr_ne (by decide)]; exact a7 0 (by decide) (by decide) (by decide)
theorem e_sweep {u μ : PS} (h : RI u (μ 0)) (p1 : Int32) : opOk u μ (f1_sweepVolume u p1) (f6_sweep μ p1) := by
  unfold f6_sweep
  rw [e_isVol h.L]
  rcases e_liv u p1 with h0 | ⟨v, hv, rfl, hl, h1⟩
  · rw [if_pos h0]
    unfold f1_sweepVolume
    rw [if_pos h0]; exact opOk_err (by decide)
  · obtain ⟨g, u2, τ2, a0, a1, a2, a3, a4, _⟩ := e_sweepV (RI_chg h) hv hl
    rw [h1, if_neg ne10]
    dsimp only [sq, sq2]
    rw [a1, a2]
    exact Or.inr ⟨err_nI (by omega), rfl, a3, a4⟩
/-! a pool that agrees wherever it is read -/
def agr (u w : PS) : Prop := (∀ j k, j < 6 → k < 8 → w j k = u j k) ∧ (∀ k, k < 320 → w 6 k = u 6 k) ∧ (∀ k, k < 30 → w 7 k = u 7 k) ∧ (∀ k, k < 30 → w 8 k = u 8 k) ∧ (∀ k, k < 3 → w 9 k = u 9 k) ∧ (∀ k, k < 10 → w 10 k = u 10 k ∧ w 11 k = u 11 k ∧ w 12 k = u 12 k) ∧ ∀ k, k < 4 → w 13 k = u 13 k
theorem own_agr {u w : PS} (a : agr u w) (x : Int32) : own w x = own u x := sm_congr 320 0 (fun k _ k2 => by rw [a.2.1 k (by omega)])
theorem RI_agr {u w : PS} {s : Nat → Int32} (a : agr u w) (h : RI u s) : RI w s := by
  obtain ⟨a0, a6, a7, a8, a9, aW, aS⟩ := a
  have f : fre w = fre u := sm_congr 30 0 (fun k _ k2 => by rw [a8 k (by omega)])
  have p : prs w = prs u := sm_congr 8 0 (fun k _ k2 => by rw [a0 2 k (by decide) (by omega)])
  refine ⟨⟨fun v hv => ?_, fun v hv hl => ?_, fun v k hv hk hl => ?_, fun p hp => ?_, fun i hi => ?_, ⟨?_, ?_, ?_, ?_⟩, fun i hi => ?_, h.M⟩, fun v hv => ?_, fun v k hv hk => ?_, fun v hv => ?_, fun v hv => ?_, fun v hv => ?_, ?_, fun p hp => ?_, ?_, ?_⟩
  · rw [a0 0 v (by decide) hv]; exact h.L v hv
  · rw [a0 0 v (by decide) hv] at hl ⊢
    rw [a0 1 v (by decide) hv, a0 2 v (by decide) hv, a0 3 v (by decide) hv, a0 4 v (by decide) hv, a0 5 v (by decide) hv]
    exact h.V v hv hl
  · rw [a0 0 v (by decide) hv] at hl
    rw [a6 _ (by omega)]; exact h.P v k hv hk hl
  · rw [a7 p hp]; exact h.D p hp
  · rw [a9 i hi]; exact h.E i hi
  · rw [aS 0 (by decide)]; exact h.S.1
  · rw [aS 1 (by decide)]; exact h.S.2.1
  · rw [aS 2 (by decide)]; exact h.S.2.2.1
  · rw [aS 3 (by decide)]; exact h.S.2.2.2
  · rw [(aW i hi).1, (aW i hi).2.1, (aW i hi).2.2]; exact h.W i hi
  · rw [a0 0 v (by decide) hv]; exact h.iS v hv
  · rw [a6 _ (by omega), a0 0 v (by decide) hv]; exact h.iP v k hv hk
  · rw [a0 1 v (by decide) hv]; exact h.iM v hv
  · rw [a0 0 v (by decide) hv, a0 2 v (by decide) hv]; exact h.iQ v hv
  · rw [a0 0 v (by decide) hv, a0 3 v (by decide) hv]
    rcases h.iA v hv with z | ⟨z, x, x1, x2, x3⟩
    · exact Or.inl z
    · exact Or.inr ⟨z, x, x1, x2, by rw [a0 0 x (by decide) x1]; exact x3⟩
  · obtain ⟨rk, hr⟩ := h.iT
    exact ⟨rk, fun x y hx hy e => hr x y hx hy (by rw [← a0 3 x (by decide) hx]; exact e)⟩
  · rw [a8 p hp, h.iO p hp, own_agr ⟨a0, a6, a7, a8, a9, aW, aS⟩]
  · show prs w ≤ fre w
    rw [f, p]; exact h.iF
  · refine ⟨?_, fun j hj => ?_⟩
    · rw [aS 3 (by decide)]; exact h.iK.1
    · rw [a9 j hj]; exact h.iK.2 j hj
theorem cpy_agr (σ τ : PS) : agr τ (f1_copyFrom σ τ) := by
  have c : ∀ (f g : Nat → Int32) (n k : Nat), k < n → va_cpy f g 0 0 n k = f k := fun f g n k hk => by rw [pk_cpy_in (Nat.zero_le _) (by omega)]; exact congrArg f (by omega)
  refine ⟨fun j k hj hk => ?_, fun k hk => ?_, fun k hk => ?_, fun k hk => ?_, fun k hk => ?_, fun k hk => ⟨?_, ?_, ?_⟩, fun k hk => ?_⟩
  · rcases (show j = 0 ∨ j = 1 ∨ j = 2 ∨ j = 3 ∨ j = 4 ∨ j = 5 by omega) with rfl | rfl | rfl | rfl | rfl | rfl
    · exact c (τ 0) (σ 0) 8 k hk
    · exact c (τ 1) (σ 1) 8 k hk
    · exact c (τ 2) (σ 2) 8 k hk
    · exact c (τ 3) (σ 3) 8 k hk
    · exact c (τ 4) (σ 4) 8 k hk
    · exact c (τ 5) (σ 5) 8 k hk
  · exact c (τ 6) (σ 6) 320 k hk
  · exact c (τ 7) (σ 7) 30 k hk
  · exact c (τ 8) (σ 8) 30 k hk
  · exact c (τ 9) (σ 9) 3 k hk
  · exact c (τ 10) (σ 10) 10 k hk
  · exact c (τ 11) (σ 11) 10 k hk
  · exact c (τ 12) (σ 12) 10 k hk
  · rcases (show k = 0 ∨ k = 1 ∨ k = 2 ∨ k = 3 by omega) with rfl | rfl | rfl | rfl <;> rfl
theorem RI_cpy {σ τ : PS} {s : Nat → Int32} (h : RI τ s) : RI (f1_copyFrom σ τ) s := RI_agr (cpy_agr σ τ) h
/-! new volumes -/
theorem e_open16 {u μ : PS} (h : RI u (μ 0)) (x : Int32) : ∀ n i : Nat, i + n = 8 → ((f6_free8_L2 μ n i = 8 ∧ f1_openVolume_L16 x n i u = (-1000003, u)) ∨ ∃ v, v < 8 ∧ u 0 v = 0 ∧ f6_free8_L2 μ n i = nI v ∧ f1_openVolume_L16 x n i u = (nI v, wr (wr (wr (wr (wr (wr u 0 v x) 1 v 50) 2 v 0) 3 v (-1)) 4 v 0) 5 v 0)) := by
  intro n
  induction n with
  | zero =>
    intro i hi
    left
    rw [f6_free8_L2, f1_openVolume_L16]
    exact ⟨congrArg nI (show i = 8 by omega), rfl⟩
  | succ n ih =>
    intro i hi
    rw [f6_free8_L2, f1_openVolume_L16, e_of0 (by omega)]
    rcases h.L i (by omega) with ⟨a, b⟩ | ⟨a, b⟩
    · rw [b, if_pos rfl, e_lives1 (by omega) a, if_neg ne10]
      exact ih (i + 1) (by omega)
    · rw [b, if_neg ne01, e_lives0 (by omega) a, if_pos rfl]
      exact Or.inr ⟨i, by omega, a, rfl, rfl⟩
/-- the class's new volume -/
def newU (u : PS) (v : Nat) (x : Int32) : PS := wr (wr (wr (wr (wr (wr u 0 v x) 1 v 50) 2 v 0) 3 v (-1)) 4 v 0) 5 v 0
theorem beg53 {v : Nat} (hv : v < 8) : ∀ n i : Nat, ∀ τ : PS, i + n = 40 → (∀ q, (q < 74 + 47 * v + i ∨ 114 + 47 * v ≤ q) → (f6_begins_L53 (nI v) n i τ) 0 q = τ 0 q) ∧ (∀ k, i ≤ k → k < 40 → (f6_begins_L53 (nI v) n i τ) 0 (74 + 47 * v + k) = -1) ∧ ∀ j, j ≠ 0 → (f6_begins_L53 (nI v) n i τ) j = τ j := by
  intro n
  induction n with
  | zero => intro i τ hi; rw [f6_begins_L53]; exact ⟨fun _ _ => rfl, fun k a b => absurd b (by omega), fun _ _ => rfl⟩
  | succ n ih =>
    intro i τ hi
    rw [f6_begins_L53, e_putp hv (by omega)]
    dsimp only [sq]
    obtain ⟨a, b, c⟩ := ih (i + 1) (wr τ 0 (74 + 47 * v + i) (-1)) (by omega)
    have r0 : ∀ q, (wr τ 0 (74 + 47 * v + i) (-1)) 0 q = upd (τ 0) (74 + 47 * v + i) (-1) q := fun _ => rfl
    refine ⟨fun q hq => ?_, fun k k1 k2 => ?_, fun j hj => ?_⟩
    · rw [a q (by omega), r0, pk_un (by omega)]
    · by_cases e : k = i
      · subst e; rw [a _ (by omega), r0, pk_us]
      · exact b k (by omega) k2
    · rw [c j hj, wr_ne hj]
/-- the model's new volume: what its row holds -/
theorem e_begins {v : Nat} (hv : v < 8) (τ : PS) (x : Int32) : (∀ q, (q < 67 + 47 * v ∨ 114 + 47 * v ≤ q) → (f6_begins τ (nI v) x) 0 q = τ 0 q) ∧ (f6_begins τ (nI v) x) 0 (67 + 47 * v) = 1 ∧ (f6_begins τ (nI v) x) 0 (68 + 47 * v) = x ∧ (f6_begins τ (nI v) x) 0 (69 + 47 * v) = 50 ∧ (f6_begins τ (nI v) x) 0 (70 + 47 * v) = 0 ∧ (f6_begins τ (nI v) x) 0 (71 + 47 * v) = -1 ∧ (f6_begins τ (nI v) x) 0 (72 + 47 * v) = 0 ∧ (f6_begins τ (nI v) x) 0 (73 + 47 * v) = 0 ∧ (∀ k, k < 40 → (f6_begins τ (nI v) x) 0 (74 + 47 * v + k) = -1) ∧ ∀ j, j ≠ 0 → (f6_begins τ (nI v) x) j = τ j := by
  unfold f6_begins
  dsimp only [sq]
  rw [e_puts0 hv, e_puts1 hv, e_puts2 hv, e_puts3 hv, e_puts4 hv, e_puts5 hv, e_puts6 hv]
  generalize hτ2 : wr (wr (wr (wr (wr (wr (wr τ 0 (67 + 47 * v) 1) 0 (68 + 47 * v) x) 0 (69 + 47 * v) 50) 0 (70 + 47 * v) 0) 0 (71 + 47 * v) (-1)) 0 (72 + 47 * v) 0) 0 (73 + 47 * v) 0 = τ2
  obtain ⟨a, b, c⟩ := beg53 hv 40 0 τ2 rfl
  have r0 : ∀ q, τ2 0 q = upd (upd (upd (upd (upd (upd (upd (τ 0) (67 + 47 * v) 1) (68 + 47 * v) x) (69 + 47 * v) 50) (70 + 47 * v) 0) (71 + 47 * v) (-1)) (72 + 47 * v) 0) (73 + 47 * v) 0 q := fun q => by rw [← hτ2]; rfl
  refine ⟨fun q hq => ?_, ?_, ?_, ?_, ?_, ?_, ?_, ?_, fun k hk => b k (Nat.zero_le k) hk, fun j hj => ?_⟩
  · rw [a q (by omega), r0, pk_un (by omega), pk_un (by omega), pk_un (by omega), pk_un (by omega), pk_un (by omega), pk_un (by omega), pk_un (by omega)]
  · rw [a _ (by omega), r0, pk_un (by omega), pk_un (by omega), pk_un (by omega), pk_un (by omega), pk_un (by omega), pk_un (by omega), pk_us]
  · rw [a _ (by omega), r0, pk_un (by omega), pk_un (by omega), pk_un (by omega), pk_un (by omega), pk_un (by omega), pk_us]
  · rw [a _ (by omega), r0, pk_un (by omega), pk_un (by omega), pk_un (by omega), pk_un (by omega), pk_us]
  · rw [a _ (by omega), r0, pk_un (by omega), pk_un (by omega), pk_un (by omega), pk_us]
  · rw [a _ (by omega), r0, pk_un (by omega), pk_un (by omega), pk_us]
  · rw [a _ (by omega), r0, pk_un (by omega), pk_us]
  · rw [a _ (by omega), r0, pk_us]
  · rw [c j hj, ← hτ2, wr_ne hj, wr_ne hj, wr_ne hj, wr_ne hj, wr_ne hj, wr_ne hj, wr_ne hj]
theorem RI_new {u : PS} {s t : Nat → Int32} {v n : Nat} (hv : v < 8) (hn : 0 < n) (hn2 : n ≤ 40) (h : RI u s) (hd : u 0 v = 0) (t0 : ∀ q, (q < 67 + 47 * v ∨ 114 + 47 * v ≤ q) → t q = s q) (t1 : t (67 + 47 * v) = 1) (t2 : t (68 + 47 * v) = nI n) (t3 : t (69 + 47 * v) = 50) (t4 : t (70 + 47 * v) = 0) (t5 : t (71 + 47 * v) = -1) (t6 : t (72 + 47 * v) = 0) (t7 : t (73 + 47 * v) = 0) (t8 : ∀ k, k < 40 → t (74 + 47 * v + k) = -1) : RI (newU u v (nI n)) t := by
  have u0 : ∀ w, (newU u v (nI n)) 0 w = upd (u 0) v (nI n) w := fun _ => rfl
  have u1 : ∀ w, (newU u v (nI n)) 1 w = upd (u 1) v 50 w := fun _ => rfl
  have u2 : ∀ w, (newU u v (nI n)) 2 w = upd (u 2) v 0 w := fun _ => rfl
  have u3 : ∀ w, (newU u v (nI n)) 3 w = upd (u 3) v (-1) w := fun _ => rfl
  have u4 : ∀ w, (newU u v (nI n)) 4 w = upd (u 4) v 0 w := fun _ => rfl
  have u5 : ∀ w, (newU u v (nI n)) 5 w = upd (u 5) v 0 w := fun _ => rfl
  have u6 : ∀ w, (newU u v (nI n)) 6 w = u 6 w := fun _ => rfl
  have hp := nI_lt (a := 0) hn (by omega)
  refine ⟨⟨fun w hw => ?_, fun w hw hl => ?_, fun w k hw hk hl => ?_, fun p hp => ?_, fun i hi => ?_, ⟨?_, ?_, ?_, ?_⟩, fun i hi => ⟨?_, ?_, ?_⟩, fun a ha => ?_, fun a k ha hk => ?_⟩, fun w hw => ?_, fun w k hw hk => ?_, fun w hw => ?_, fun w hw => ?_, fun w hw => ?_, ?_, h.iO, ?_, h.iK⟩
  · rw [u0]
    by_cases e : w = v
    · subst e; rw [pk_us, t1]; exact Or.inl ⟨hp, rfl⟩
    · rw [pk_un e, t0 _ (by omega)]; exact h.L w hw
  · rw [u0, u1, u2, u3, u4, u5]
    by_cases e : w = v
    · subst e; rw [pk_us, pk_us, pk_us, pk_us, pk_us, pk_us]; exact ⟨t2, t3, t4, t5, t6, t7⟩
    · rw [u0, pk_un e] at hl
      rw [pk_un e, pk_un e, pk_un e, pk_un e, pk_un e, pk_un e, t0 _ (by omega), t0 _ (by omega), t0 _ (by omega), t0 _ (by omega), t0 _ (by omega), t0 _ (by omega)]
      exact h.V w hw hl
  · rw [u6]
    by_cases e : w = v
    · subst e; rw [t8 k hk, e_dead h.iP hw hk hd]
    · rw [u0, pk_un e] at hl
      rw [t0 _ (by omega)]; exact h.P w k hw hk hl
  · rw [t0 _ (by omega)]; exact h.D p hp
  · rw [t0 _ (by omega)]; exact h.E i hi
  · rw [t0 _ (by omega)]; exact h.S.1
  · rw [t0 _ (by omega)]; exact h.S.2.1
  · rw [t0 _ (by omega)]; exact h.S.2.2.1
  · rw [t0 _ (by omega)]; exact h.S.2.2.2
  · rw [t0 _ (by omega)]; exact (h.W i hi).1
  · rw [t0 _ (by omega)]; exact (h.W i hi).2.1
  · rw [t0 _ (by omega)]; exact (h.W i hi).2.2
  · by_cases e : a = v
    · subst e; rw [t2, nI_toInt (by omega)]; omega
    · rw [t0 _ (by omega)]; exact h.M.1 a ha
  · by_cases e : a = v
    · subst e; rw [t8 k hk]; decide
    · rw [t0 _ (by omega)]; exact h.M.2 a k ha hk
  · rw [u0]
    by_cases e : w = v
    · rw [e, pk_us]; exact vp_in_nI (by omega) (by decide)
    · rw [pk_un e]; exact h.iS w hw
  · rw [u6, u0]
    by_cases e : w = v
    · subst e; exact Or.inl (e_dead h.iP hw hk hd)
    · rw [pk_un e]; exact h.iP w k hw hk
  · rw [u1]
    by_cases e : w = v
    · rw [e, pk_us]; exact vp_in_nI (n := 50) (by decide) (by decide)
    · rw [pk_un e]; exact h.iM w hw
  · rw [u0, u2]
    by_cases e : w = v
    · rw [e, pk_us, pk_us]; exact ⟨vp_in_nI (n := 0) (by decide) (by decide), fun _ => rfl⟩
    · rw [pk_un e, pk_un e]; exact h.iQ w hw
  · rw [u0, u3]
    by_cases e : w = v
    · rw [e, pk_us]; exact Or.inl rfl
    · rw [pk_un e, pk_un e]
      rcases h.iA w hw with z | ⟨z, x, x1, x2, x3⟩
      · exact Or.inl z
      · refine Or.inr ⟨z, x, x1, x2, ?_⟩
        rw [u0]
        by_cases e2 : x = v
        · rw [e2, pk_us]; exact hp
        · rw [pk_un e2]; exact x3
  · obtain ⟨rk, hr⟩ := h.iT
    refine ⟨rk, fun a b ha hb hab => ?_⟩
    rw [u3] at hab
    by_cases e : a = v
    · rw [e, pk_us] at hab; exact absurd hab.symm (e_neg (by omega))
    · rw [pk_un e] at hab; exact hr a b ha hb hab
  · have pw := prs_wr (u := u) (x := 0) hv
    have e0 : (0 : Int32).toNatClampNeg = 0 := by decide
    rw [e0] at pw
    have f2 : prs u ≤ fre u := h.iF
    have e1 : prs (newU u v (nI n)) = prs (wr u 2 v 0) := rfl
    show prs (newU u v (nI n)) ≤ fre u
    omega
theorem e_volume {u μ : PS} (h : RI u (μ 0)) (p1 : Int32) : opOk u μ (f1_openVolume u p1) (f6_volume μ p1) := by
  unfold f1_openVolume f6_volume f6_free8
  rw [e_rng]
  dsimp only [sq]
  by_cases q1 : p1 < 1
  · rw [if_pos q1, if_pos q1]; exact opOk_err (by decide)
  · rw [if_neg q1, if_neg q1]
    by_cases q2 : p1 ≤ 40
    · rw [if_pos q2, if_pos q2]
      obtain ⟨n, hn, rfl⟩ := nI_of2 (n := 40) (by decide) (fun z => q1 (Int32.lt_trans z (by decide))) q2
      have hn0 : 0 < n := by
        rcases Nat.eq_zero_or_pos n with z | z
        · subst z; exact absurd (show nI 0 < 1 by decide) q1
        · exact z
      rcases e_open16 h (nI n) 8 0 rfl with ⟨a, b⟩ | ⟨v, hv, hd, a, b⟩
      · rw [a, b, if_pos rfl]; exact opOk_err (by decide)
      · rw [a, b, if_neg (show ¬ nI v = 8 from fun z => by have := e_inj (b := 8) (by omega) (by decide) z; omega)]
        obtain ⟨t0, t1, t2, t3, t4, t5, t6, t7, t8, t9⟩ := e_begins hv (f6_changes μ) (nI n)
        exact Or.inr ⟨err_nI (by omega), rfl, RI_new hv hn0 hn (RI_chg h) hd t0 t1 t2 t3 t4 t5 t6 t7 t8, t9⟩
    · rw [if_neg q2, if_neg q2]; exact opOk_err (by decide)
