/-! Who gets a piece. -/
theorem wr_wr (u : PS) (j k : Nat) (x y : Int32) : wr (wr u j k x) j k y = wr u j k y := by
  funext a b
  by_cases e : a = j
  · subst e
    rw [wr_at, wr_at, wr_at]
    by_cases q : b = k
    · rw [if_pos q, if_pos q]
    · rw [if_neg q, if_neg q, if_neg q]
  · rw [wr_ne e, wr_ne e, wr_ne e]
theorem wr_id {u : PS} {j k : Nat} {x : Int32} (h : u j k = x) : wr u j k x = u := by
  funext a b
  by_cases e : a = j
  · subst e
    rw [wr_at]
    by_cases q : b = k
    · rw [if_pos q, q, h]
    · rw [if_neg q]
  · rw [wr_ne e]
def clB (y : Int32) : Int32 := if 0 ≤ y then (if y ≤ 100 then y else 100) else 0
theorem clB_in (y : Int32) : vp_in (clB y) 101 := by
  unfold clB
  by_cases h : 0 ≤ y
  · rw [if_pos h]
    by_cases h2 : y ≤ 100
    · rw [if_pos h2, vp_in_iff]
      rw [le_t] at h h2
      have t0 : (0 : Int32).toInt = 0 := by decide
      have t1 : (100 : Int32).toInt = 100 := by decide
      omega
    · rw [if_neg h2]; exact vp_in_nI (n := 100) (by decide) (by decide)
  · rw [if_neg h]; exact vp_in_nI (n := 0) (by decide) (by decide)
theorem clB_m1 : ∀ k, k < 101 → clB (nI k + (-1)) = if nI k - 1 < 0 then 0 else nI k - 1 := by decide +kernel
theorem clB_m3 : ∀ k, k < 101 → clB (nI k + (-3)) = if nI k - 3 < 0 then 0 else nI k - 3 := by decide +kernel
theorem clB_p0 : ∀ k, k < 101 → clB (nI k + 0) = nI k := by decide +kernel
theorem e_behaves {u μ : PS} (h : RI u (μ 0)) {v : Nat} (hv : v < 8) (hl : 0 < u 0 v) (d : Int32) : f6_behaves μ (nI v) d = wr μ 0 (69 + 47 * v) (clB (u 1 v + d)) := by
  unfold f6_behaves clB
  rw [e_of2 hv, (h.V v hv hl).2.1]
  dsimp only [sq]
  by_cases h1 : 0 ≤ u 1 v + d
  · rw [if_pos h1, if_pos h1]
    by_cases h2 : u 1 v + d ≤ 100
    · rw [if_pos h2, if_pos h2, e_puts2 hv]
    · rw [if_neg h2, if_neg h2, e_puts2 hv]
  · rw [if_neg h1, if_neg h1, e_puts2 hv]
theorem lw012 (u : PS) (a : Int32) : f1_levelWith u a = 0 ∨ f1_levelWith u a = 1 ∨ f1_levelWith u a = 2 := by
  unfold f1_levelWith
  by_cases h : u 9 1 < a
  · rw [if_pos h]
    by_cases h2 : u 9 0 < a
    · rw [if_pos h2]; exact Or.inl rfl
    · rw [if_neg h2]; exact Or.inr (Or.inl rfl)
  · rw [if_neg h]; exact Or.inr (Or.inr rfl)
theorem e_would {u : PS} {v : Nat} (hv : v < 8) (m a : Int32) : f1_wouldGetUnpromised u (nI v) m a = (if 0 < a then (if f1_levelWith u a = 2 then (if rnk u v m = 0 then 1 else 0) else (if f1_levelWith u a = 0 then 1 else (if m < u 9 2 then 0 else 1))) else 0) := by
  unfold f1_wouldGetUnpromised
  rw [e_rankW hv]
  have hl := rnk_le u v m
  by_cases h : rnk u v m = 0
  · rw [h, if_pos (show nI 0 = 0 from rfl), if_pos (show 0 = 0 from rfl)]
  · rw [if_neg (nI_ne0 (Nat.pos_of_ne_zero h) (by omega)), if_neg h]
/-- the manners of one that was refused -/
def refM (m : Int32) : Int32 := if m - 1 < 0 then 0 else m - 1
theorem e_asks {u μ : PS} (h : RI u (μ 0)) {v : Nat} (hv : v < 8) (hl : 0 < u 0 v) (a : Int32) :
    (0 < u 2 v ∧ f6_asks μ (nI v) a = (2, wr μ 0 (70 + 47 * v) (u 2 v - 1))) ∨
    (u 2 v = 0 ∧ f6_asks μ (nI v) a = (f1_wouldGetUnpromised u (nI v) (u 1 v) a, wr μ 0 (69 + 47 * v) (if f1_wouldGetUnpromised u (nI v) (u 1 v) a = 0 then refM (u 1 v) else f1_mannersBehindUnpromised u (u 1 v) (f1_levelWith u a)))) := by
  obtain ⟨p, hp, ep⟩ := vp_in_of (h.iQ v hv).1 (by decide)
  obtain ⟨m, hm, em⟩ := vp_in_of (h.iM v hv) (by decide)
  rcases Nat.eq_zero_or_pos p with hz | hz
  · subst hz
    right
    refine ⟨ep, ?_⟩
    unfold f6_asks
    rw [e_of3 hv, (h.V v hv hl).2.2.1, ep, if_pos (show nI 0 ≤ 0 by decide), e_behaves h hv hl, e_behaves h hv hl, e_behaves h hv hl, e_of2 hv, (h.V v hv hl).2.1, h.E 2 (by decide), e_levelBy h.E, e_would hv, em]
    dsimp only [sq]
    rw [clB_m1 m hm, clB_m3 m hm, clB_p0 m hm]
    unfold refM f1_mannersBehindUnpromised
    by_cases h0 : a ≤ 0
    · rw [if_pos h0, if_neg (Int32.not_lt.mpr h0), if_pos rfl]
    · rw [if_neg h0, if_pos (Int32.not_le.mp h0)]
      rcases lw012 u a with q | q | q
      · rw [q, if_pos rfl, if_pos (show (0 : Int32) ≤ 0 by decide), if_neg (show ¬ (0 : Int32) = 2 by decide), if_pos rfl, if_neg ne10, if_pos rfl]
      · rw [q, if_neg ne10, if_pos rfl, if_neg (show ¬ (1 : Int32) ≤ 0 by decide), if_neg (show ¬ (1 : Int32) = 2 by decide), if_neg ne10]
        by_cases z : u 9 2 ≤ nI m
        · rw [if_pos z, if_neg (Int32.not_lt.mpr z), if_neg (show ¬ (1 : Int32) = 2 by decide), if_neg ne10, if_neg ne10]
        · rw [if_neg z, if_pos (Int32.not_le.mp z), if_neg (show ¬ (1 : Int32) = 2 by decide), if_pos rfl]
      · have eb := e_best h hv hl
        rw [em] at eb
        rw [q, if_neg (show ¬ (2 : Int32) = 0 by decide), if_neg (show ¬ (2 : Int32) = 1 by decide), if_pos rfl, if_pos rfl]
        by_cases z : rnk u v (nI m) = 0
        · rw [if_pos (eb.mpr z), if_pos z, if_neg ne10, if_neg (show ¬ (2 : Int32) ≤ 0 by decide), if_neg (show ¬ (2 : Int32) = 0 by decide)]
        · rw [if_neg (fun y => z (eb.mp y)), if_neg z, if_pos rfl]
  · left
    rw [ep]
    refine ⟨nI_lt (a := 0) hz (by omega), ?_⟩
    unfold f6_asks
    rw [e_of3 hv, (h.V v hv hl).2.2.1, ep, if_neg (nI_nle hz (by omega)), e_puts3 hv]
theorem would_01 {u : PS} {v : Nat} (hv : v < 8) (m a : Int32) : f1_wouldGetUnpromised u (nI v) m a = 0 ∨ f1_wouldGetUnpromised u (nI v) m a = 1 := by
  rw [e_would hv]
  split
  · split
    · split
      · exact Or.inr rfl
      · exact Or.inl rfl
    · split
      · exact Or.inr rfl
      · split
        · exact Or.inl rfl
        · exact Or.inr rfl
  · exact Or.inl rfl
theorem would_no {u : PS} {v : Nat} (hv : v < 8) (m a : Int32) (ha : a ≤ 0) : f1_wouldGetUnpromised u (nI v) m a = 0 := by rw [e_would hv, if_neg (Int32.not_lt.mpr ha)]
theorem refM_in {m : Int32} (h : vp_in m 101) : vp_in (refM m) 101 := by
  obtain ⟨k, hk, rfl⟩ := vp_in_of h (by decide)
  unfold refM
  rw [← clB_m1 k hk]; exact clB_in _
theorem beh_in {u : PS} {m l : Int32} (h : vp_in m 101) : vp_in (f1_mannersBehindUnpromised u m l) 101 := by
  obtain ⟨k, hk, rfl⟩ := vp_in_of h (by decide)
  unfold f1_mannersBehindUnpromised
  by_cases q : l = 0
  · rw [if_pos q]; exact h
  · rw [if_neg q, ← clB_m3 k hk]; exact clB_in _
theorem rnk_man {u : PS} {v : Nat} (m x : Int32) : rnk (wr u 1 v x) v m = rnk u v m := by
  unfold rnk
  refine sm_congr 8 0 (fun i _ _ => e_ifc ?_)
  by_cases e : i = v
  · constructor
    · intro z; exact absurd e z.2.1
    · intro z; exact absurd e z.2.1
  · show (0 < u 0 i ∧ i ≠ v ∧ (m < upd (u 1) v x i ∨ (upd (u 1) v x i = m ∧ i < v))) ↔ _
    rw [pk_un e]
theorem would_man {u : PS} {v : Nat} (hv : v < 8) (m a x : Int32) : f1_wouldGetUnpromised (wr u 1 v x) (nI v) m a = f1_wouldGetUnpromised u (nI v) m a := by
  rw [e_would hv, e_would hv, rnk_man]; rfl
theorem would_pro {u : PS} {v : Nat} (hv : v < 8) (m a x : Int32) : f1_wouldGetUnpromised (wr u 2 v x) (nI v) m a = f1_wouldGetUnpromised u (nI v) m a := by
  rw [e_would hv, e_would hv]; rfl
/-- what could be got, step by step -/
theorem e_cget {u0 : PS} {v : Nat} (hv : v < 8) : ∀ (n p a y : Nat) (x : Int32) (u τ : PS), RI u (τ 0) → 0 < u 0 v → u 2 v = nI p → p ≤ 30 → x = nI (a + prs u) → a ≤ 30 → p + a < n → (∀ m b, f1_wouldGetUnpromised u (nI v) m b = f1_wouldGetUnpromised u0 (nI v) m b) → (∀ b, f1_levelWith u b = f1_levelWith u0 b) →
    f6_couldGet_T (nI v) n x τ ∧ (f6_couldGet_L29 (nI v) n x (nI y) τ).1 = f1_piecesInReach_L30 u0 (nI v) a (nI (y + p)) (u 1 v) (nI a) ∧ ∀ j, j ≠ 0 → (f6_couldGet_L29 (nI v) n x (nI y) τ).2 j = τ j := by
  intro n
  induction n with
  | zero => intro p a y x u τ _ _ _ _ _ _ h; omega
  | succ n ih =>
    intro p a y x u τ h hl ep hp ea ha hn hw hlv
    rw [f6_couldGet_T, f6_couldGet_L29, e_promises h]
    have ex0 : x - nI (prs u) = nI a := by rw [ea, pk_sub (by omega), Nat.add_sub_cancel]
    rw [ex0]
    rcases e_asks h hv hl (nI a) with ⟨q, e⟩ | ⟨q, e⟩
    · have hp0 : 0 < p := by
        rcases Nat.eq_zero_or_pos p with z | z
        · subst z; rw [ep] at q; exact absurd q (by decide)
        · exact z
      rw [e]
      dsimp only [sq2]
      rw [if_neg (show ¬ (2 : Int32) ≤ 0 by decide)]
      have e1 : u 2 v - 1 = nI (p - 1) := by rw [ep]; exact pk_sub hp0
      have pw := prs_wr (u := u) (x := nI (p - 1)) hv
      rw [ep, nI_clamp (by omega), nI_clamp (by omega)] at pw
      have R : RI (wr u 2 v (nI (p - 1))) ((wr τ 0 (70 + 47 * v) (nI (p - 1))) 0) := RI_pro hv hl (vp_in_nI (by omega) (by decide)) (by rw [ep, nI_clamp (by omega), nI_clamp (by omega)]; have : prs u ≤ fre u := h.iF; omega) h
      have ex : x + (-1) = nI (a + prs (wr u 2 v (nI (p - 1)))) := by
        rw [ea, show a + prs u = (a + prs (wr u 2 v (nI (p - 1)))) + 1 by omega, pk_m1]
      obtain ⟨t1, t2, t3⟩ := ih (p - 1) a (y + 1) (x + (-1)) (wr u 2 v (nI (p - 1))) (wr τ 0 (70 + 47 * v) (nI (p - 1))) R hl (pk_us (f := u 2)) (by omega) ex ha (by omega) (fun m b => (would_pro hv m b _).trans (hw m b)) hlv
      rw [e1]
      refine ⟨fun r u2 hr hr2 => ?_, ?_, fun j hj => ?_⟩
      · cases hr; exact t1
      · rw [show nI y + 1 = nI (y + 1) from nI_1 y, t2, show y + 1 + (p - 1) = y + p by omega]; rfl
      · rw [show nI y + 1 = nI (y + 1) from nI_1 y, t3 j hj, wr_ne hj]
    · have hp0 : p = 0 := e_inj (by omega) (by omega) (ep.symm.trans q)
      subst hp0
      rw [e, hw, Nat.add_zero]
      dsimp only [sq2]
      rcases would_01 (u := u0) hv (u 1 v) (nI a) with z | z
      · rw [z, if_pos (show (0 : Int32) ≤ 0 by decide), if_pos rfl]
        refine ⟨fun r u2 hr hr2 => ?_, ?_, fun j hj => ?_⟩
        · cases hr; exact absurd (show (0 : Int32) ≤ 0 by decide) hr2
        · cases a with
          | zero => rw [f1_piecesInReach_L30]
          | succ a => rw [f1_piecesInReach_L30, if_neg (nI_nle (Nat.succ_pos a) (by omega)), z, if_pos rfl]
        · show wr τ 0 (69 + 47 * v) (refM (u 1 v)) j = τ j
          rw [wr_ne hj]
      · have ha0 : 0 < a := by
          rcases Nat.eq_zero_or_pos a with y | y
          · subst y; rw [would_no hv _ _ (by decide)] at z; exact absurd z (by decide)
          · exact y
        obtain ⟨a, rfl⟩ : ∃ b, a = b + 1 := ⟨a - 1, by omega⟩
        rw [z, if_neg (show ¬ (1 : Int32) ≤ 0 by decide), if_neg ne10]
        generalize hm2 : f1_mannersBehindUnpromised u (u 1 v) (f1_levelWith u (nI (a + 1))) = m2
        have R : RI (wr u 1 v m2) ((wr τ 0 (69 + 47 * v) m2) 0) := RI_man hv (by rw [← hm2]; exact beh_in (h.iM v hv)) h
        have ex : x + (-1) = nI (a + prs (wr u 1 v m2)) := by
          rw [ea, show a + 1 + prs u = (a + prs u) + 1 by omega, pk_m1]; rfl
        obtain ⟨t1, t2, t3⟩ := ih 0 a (y + 1) (x + (-1)) (wr u 1 v m2) (wr τ 0 (69 + 47 * v) m2) R hl ep (by omega) ex (by omega) (by omega) (fun m b => (would_man hv m b _).trans (hw m b)) hlv
        refine ⟨fun r u2 hr hr2 => ?_, ?_, fun j hj => ?_⟩
        · cases hr; exact t1
        · rw [show nI y + 1 = nI (y + 1) from nI_1 y, t2, f1_piecesInReach_L30, if_neg (nI_nle (Nat.succ_pos a) (by omega)), z, if_neg ne10, Nat.add_zero, show nI y + 1 = nI (y + 1) from nI_1 y, pk_m1, ← hlv, show (wr u 1 v m2) 1 v = m2 from pk_us (f := u 1)]
          rw [← hm2]; rfl
        · rw [show nI y + 1 = nI (y + 1) from nI_1 y, t3 j hj, wr_ne hj]
theorem cpyR_at (u : PS) {i j k : Nat} (hk : k < 443) : cpyR u i j j k = u i k := by
  unfold cpyR; rw [setA_eq, if_pos hk]
theorem cpyR_ne (u : PS) {i j b : Nat} (h : b ≠ j) : cpyR u i j b = u b := by
  unfold cpyR; exact setA_ne h
theorem e_couldGet {Z : ST} {μ : PS} (h : RI (Z 0) (μ 0)) (p1 : Int32) : (¬ f6_isVolume μ p1 = 0 → f6_couldGet_T p1 64 (f6_free (cpyR μ 0 3)) (cpyR μ 0 3)) ∧ f5_couldGet Z p1 = (f6_couldGet μ p1).1 ∧ (∀ k, k < 443 → (f6_couldGet μ p1).2 0 k = μ 0 k) ∧ ∀ j, j ≠ 0 → j ≠ 3 → (f6_couldGet μ p1).2 j = μ j := by
  unfold f5_couldGet f6_couldGet
  rw [e_isVol h.L]
  rcases e_liv (Z 0) p1 with h0 | ⟨v, hv, rfl, hl, h1⟩
  · rw [if_pos h0, if_pos h0]
    exact ⟨fun q => absurd h0 q, rfl, fun k _ => rfl, fun j _ _ => rfl⟩
  · rw [h1, if_neg ne10, if_neg ne10]
    dsimp only [sq, sq2]
    have hτ : RI (Z 0) ((cpyR μ 0 3) 0) := by rw [cpyR_ne μ (show (0 : Nat) ≠ 3 by decide)]; exact h
    obtain ⟨p, hp, ep⟩ := vp_in_of (h.iQ v hv).1 (by decide)
    have hf : prs (Z 0) ≤ fre (Z 0) := h.iF
    have f30 := fre_le (Z 0)
    have ppr := sm_ge (g := fun w => ((Z 0) 2 w).toNatClampNeg) v 8 0 (Nat.zero_le _) (by omega)
    rw [ep, nI_clamp (by omega)] at ppr
    have ppr2 : p ≤ prs (Z 0) := ppr
    obtain ⟨t1, t2, t3⟩ := e_cget (u0 := Z 0) hv 64 p (fre (Z 0) - prs (Z 0)) 0 (f6_free (cpyR μ 0 3)) (Z 0) (cpyR μ 0 3) hτ hl ep (by omega) (by rw [e_free hτ]; exact congrArg nI (by omega)) (by omega) (by omega) (fun _ _ => rfl) (fun _ => rfl)
    refine ⟨fun _ => t1, ?_, fun k hk => ?_, fun j hj hj3 => ?_⟩
    · show f1_piecesInReach (Z 0) (nI v) = (f6_couldGet_L29 (nI v) 64 (f6_free (cpyR μ 0 3)) (nI 0) (cpyR μ 0 3)).1
      rw [t2]
      unfold f1_piecesInReach
      rw [h1, if_neg ne10, e_av h.iQ h.iF, nI_clamp (by omega), nI_clamp (by omega), ep, Nat.zero_add]
    · rw [cpyR_at _ hk]
      show (f6_couldGet_L29 (nI v) 64 (f6_free (cpyR μ 0 3)) (nI 0) (cpyR μ 0 3)).2 3 k = μ 0 k
      rw [t3 3 (by decide), cpyR_at _ hk]
    · rw [cpyR_ne _ hj]
      show (f6_couldGet_L29 (nI v) 64 (f6_free (cpyR μ 0 3)) (nI 0) (cpyR μ 0 3)).2 j = μ j
      rw [t3 j hj, cpyR_ne _ hj3]
