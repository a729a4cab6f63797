/-! Ranks, counts, the share of the promised. -/
theorem sm_lt {g h : Nat → Nat} (k0 : Nat) (n i : Nat) (h1 : i ≤ k0) (h2 : k0 < i + n) (hk : ∀ k, i ≤ k → k < i + n → g k ≤ h k) (h0 : g k0 < h k0) : sm g n i < sm h n i := by
  have a := sm_one (g := h) (h := fun k => if k = k0 then g k0 else h k) k0 n i h1 h2 (fun k _ _ q => (if_neg q).symm)
  rw [if_pos rfl] at a
  have b : sm g n i ≤ sm (fun k => if k = k0 then g k0 else h k) n i := sm_mono n i (fun k q1 q2 => by
    by_cases q : k = k0
    · rw [if_pos q, q]; exact Nat.le_refl _
    · rw [if_neg q]; exact hk k q1 q2)
  omega
/-- a volume is ahead of another one -/
abbrev ahd (u : PS) (i v : Nat) : Prop := 0 < u 0 i ∧ i ≠ v ∧ (u 1 v < u 1 i ∨ (u 1 i = u 1 v ∧ i < v))
theorem ahd_or {u : PS} {i v : Nat} (hi : 0 < u 0 i) (hv : 0 < u 0 v) (hne : i ≠ v) : ahd u i v ∨ ahd u v i := by
  unfold ahd
  rcases Int.lt_trichotomy (u 1 i).toInt (u 1 v).toInt with q | q | q
  · exact Or.inr ⟨hv, Ne.symm hne, Or.inl (lt_t.mpr q)⟩
  · have e : u 1 i = u 1 v := Int32.toInt_inj.mp q
    rcases Nat.lt_or_ge i v with z | z
    · exact Or.inl ⟨hi, hne, Or.inr ⟨e, z⟩⟩
    · exact Or.inr ⟨hv, Ne.symm hne, Or.inr ⟨e.symm, by omega⟩⟩
  · exact Or.inl ⟨hi, hne, Or.inl (lt_t.mpr q)⟩
theorem ahd_tr {u : PS} {i v w : Nat} (h1 : ahd u i v) (h2 : ahd u v w) : ahd u i w := by
  unfold ahd at *
  obtain ⟨a, b, c⟩ := h1
  obtain ⟨a2, b2, c2⟩ := h2
  simp only [lt_t] at c c2
  refine ⟨a, ?_, ?_⟩
  · rintro rfl
    rcases c with c | ⟨c, d⟩ <;> rcases c2 with c2 | ⟨c2, d2⟩
    · omega
    · rw [c2] at c; omega
    · rw [c] at c2; omega
    · omega
  · simp only [lt_t]
    rcases c with c | ⟨c, d⟩ <;> rcases c2 with c2 | ⟨c2, d2⟩
    · left; omega
    · left; rw [← c2]; exact c
    · left; rw [c]; exact c2
    · right; exact ⟨c.trans c2, by omega⟩
theorem ahd_irr {u : PS} {v : Nat} : ¬ ahd u v v := fun h => h.2.1 rfl
theorem rnk_def (u : PS) (v : Nat) : rnk u v (u 1 v) = sm (fun i => if 0 < u 0 i ∧ i ≠ v ∧ (u 1 v < u 1 i ∨ (u 1 i = u 1 v ∧ i < v)) then 1 else 0) 8 0 := rfl
theorem rnk_lt {u : PS} {w v : Nat} (hw : w < 8) (h : ahd u w v) : rnk u w (u 1 w) < rnk u v (u 1 v) := by
  rw [rnk_def, rnk_def]
  refine sm_lt w 8 0 (Nat.zero_le _) (by omega) (fun k _ _ => ?_) ?_
  · by_cases q : ahd u k w
    · rw [if_pos q, if_pos (ahd_tr q h)]; exact Nat.le_refl _
    · rw [if_neg q]; exact Nat.zero_le _
  · rw [if_neg (ahd_irr (u := u) (v := w)), if_pos h]; decide
theorem rnk_inj {u : PS} {w v : Nat} (hw : w < 8) (hv : v < 8) (lw : 0 < u 0 w) (lv : 0 < u 0 v) (h : rnk u w (u 1 w) = rnk u v (u 1 v)) : w = v := by
  by_cases q : w = v
  · exact q
  · rcases ahd_or lw lv q with z | z
    · have := rnk_lt hw z; omega
    · have := rnk_lt hv z; omega
theorem rnk_zero {u : PS} {v : Nat} : rnk u v (u 1 v) = 0 ↔ ∀ i, i < 8 → ¬ ahd u i v := by
  constructor
  · intro h i hi q
    have := sm_ge (g := fun i => if 0 < u 0 i ∧ i ≠ v ∧ (u 1 v < u 1 i ∨ (u 1 i = u 1 v ∧ i < v)) then 1 else 0) i 8 0 (Nat.zero_le _) (by omega)
    rw [← rnk_def, h] at this
    rw [if_pos q] at this
    omega
  · intro h
    rw [rnk_def]
    exact sm_zero 8 0 (fun k _ k2 => if_neg (h k (by omega)))
/-- the best: the one that none is ahead of -/
theorem e_best {u μ : PS} (h : RI u (μ 0)) {v : Nat} (hv : v < 8) (hl : 0 < u 0 v) : f6_best μ = nI v ↔ rnk u v (u 1 v) = 0 := by
  unfold f6_best; dsimp only [sq]
  have K : ∀ n i x, i + n = 8 → ((x = (-1000004 : Int32) ∧ ∀ j, j < i → ¬ 0 < u 0 j) ∨ ∃ w, w < i ∧ x = nI w ∧ 0 < u 0 w ∧ ∀ j, j < i → ¬ ahd u j w) → ∃ w, w < 8 ∧ f6_best_L5 μ n i x = nI w ∧ 0 < u 0 w ∧ ∀ j, j < 8 → ¬ ahd u j w := by
    intro n
    induction n with
    | zero =>
      intro i x hi hx
      rw [f6_best_L5]
      rcases hx with ⟨_, q⟩ | ⟨w, h1, h2, h3, h4⟩
      · exact absurd hl (q v (by omega))
      · exact ⟨w, by omega, h2, h3, fun j hj => h4 j (by omega)⟩
    | succ n ih =>
      intro i x hi hx
      rw [f6_best_L5, e_of0 (by omega)]
      rcases h.L i (by omega) with ⟨a, b⟩ | ⟨a, b⟩
      · rw [b, if_pos rfl]
        rcases hx with ⟨rfl, q⟩ | ⟨w, h1, rfl, h3, h4⟩
        · rw [if_pos (by decide)]
          refine ih (i + 1) _ (by omega) (Or.inr ⟨i, by omega, rfl, a, fun j hj z => ?_⟩)
          by_cases e : j = i
          · exact z.2.1 e
          · exact q j (by omega) z.1
        · rw [if_neg (nI_pos (by omega)), e_of2 (by omega), e_of2 (by omega), (h.V i (by omega) a).2.1, (h.V w (by omega) h3).2.1]
          by_cases q : u 1 i ≤ u 1 w
          · rw [if_pos q]
            refine ih (i + 1) _ (by omega) (Or.inr ⟨w, by omega, rfl, h3, fun j hj z => ?_⟩)
            by_cases e : j = i
            · subst e
              rcases z.2.2 with z | ⟨_, z⟩
              · exact absurd z (Int32.not_lt.mpr q)
              · omega
            · exact h4 j (by omega) z
          · rw [if_neg q]
            have q2 := Int32.not_le.mp q
            refine ih (i + 1) _ (by omega) (Or.inr ⟨i, by omega, rfl, a, fun j hj z => ?_⟩)
            by_cases e : j = i
            · exact z.2.1 e
            · refine h4 j (by omega) (ahd_tr z ?_)
              exact ⟨a, by omega, Or.inl q2⟩
      · rw [b, if_neg ne01]
        refine ih (i + 1) _ (by omega) ?_
        rcases hx with ⟨rfl, q⟩ | ⟨w, h1, rfl, h3, h4⟩
        · left
          refine ⟨rfl, fun j hj => ?_⟩
          by_cases e : j = i
          · rw [e, a]; decide
          · exact q j (by omega)
        · right
          refine ⟨w, by omega, rfl, h3, fun j hj z => ?_⟩
          by_cases e : j = i
          · rw [e] at z; have := z.1; rw [a] at this; exact absurd this (by decide)
          · exact h4 j (by omega) z
  obtain ⟨w, h1, h2, h3, h4⟩ := K 8 0 (-1000004) rfl (Or.inl ⟨rfl, fun j hj => absurd hj (Nat.not_lt_zero j)⟩)
  rw [h2]
  constructor
  · intro q
    have e : w = v := e_inj (by omega) (by omega) q
    subst e
    exact rnk_zero.mpr h4
  · intro q
    have q2 : rnk u w (u 1 w) = 0 := rnk_zero.mpr h4
    rw [rnk_inj h1 hv h3 hl (q2.trans q.symm)]
theorem e_ranked {Z : ST} {μ : PS} (h : RI (Z 0) (μ 0)) (p1 : Int32) : f5_ranked Z p1 = f6_ranked μ p1 := by
  unfold f5_ranked f6_ranked f1_volumeWithRank; dsimp only [sq]
  by_cases q : 0 ≤ p1
  · rw [if_pos q, if_pos q]
    have A : ∀ n i, i + n = 8 → (∀ v, i ≤ v → v < 8 → 0 < (Z 0) 0 v → nI (rnk (Z 0) v ((Z 0) 1 v)) = p1 → f1_volumeWithRank_L2 (Z 0) p1 n i = nI v) ∧ ((∀ v, i ≤ v → v < 8 → 0 < (Z 0) 0 v → ¬ nI (rnk (Z 0) v ((Z 0) 1 v)) = p1) → f1_volumeWithRank_L2 (Z 0) p1 n i = (-1000004 : Int32)) := by
      intro n
      induction n with
      | zero => intro i hi; exact ⟨fun v h1 h2 => absurd h2 (by omega), fun _ => by rw [f1_volumeWithRank_L2]⟩
      | succ n ih =>
        intro i hi
        obtain ⟨a, b⟩ := ih (i + 1) (by omega)
        rw [f1_volumeWithRank_L2, e_lives (by omega), e_rankW (by omega)]
        by_cases l : 0 < (Z 0) 0 i
        · rw [if_pos l, if_neg ne10]
          by_cases r : nI (rnk (Z 0) i ((Z 0) 1 i)) = p1
          · rw [if_pos r]
            refine ⟨fun v h1 h2 h3 h4 => ?_, fun z => absurd r (z i (Nat.le_refl i) (by omega) l)⟩
            have e : rnk (Z 0) i ((Z 0) 1 i) = rnk (Z 0) v ((Z 0) 1 v) := e_inj (by have := rnk_le (Z 0) i ((Z 0) 1 i); omega) (by have := rnk_le (Z 0) v ((Z 0) 1 v); omega) (r.trans h4.symm)
            rw [rnk_inj (by omega) h2 l h3 e]
          · rw [if_neg r]
            refine ⟨fun v h1 h2 h3 h4 => a v ?_ h2 h3 h4, fun z => b (fun v h1 h2 => z v (by omega) h2)⟩
            by_cases e : i = v
            · subst e; exact absurd h4 r
            · omega
        · rw [if_neg l, if_pos rfl]
          refine ⟨fun v h1 h2 h3 h4 => a v ?_ h2 h3 h4, fun z => b (fun v h1 h2 => z v (by omega) h2)⟩
          by_cases e : i = v
          · subst e; exact absurd h3 l
          · omega
    have B : ∀ n i x, i + n = 8 → (∀ v, i ≤ v → v < 8 → 0 < (Z 0) 0 v → nI (rnk (Z 0) v ((Z 0) 1 v)) = p1 → f6_ranked_L12 μ p1 n i x = nI v) ∧ ((∀ v, i ≤ v → v < 8 → 0 < (Z 0) 0 v → ¬ nI (rnk (Z 0) v ((Z 0) 1 v)) = p1) → f6_ranked_L12 μ p1 n i x = x) := by
      intro n
      induction n with
      | zero => intro i x hi; exact ⟨fun v h1 h2 => absurd h2 (by omega), fun _ => by rw [f6_ranked_L12]⟩
      | succ n ih =>
        intro i x hi
        rw [f6_ranked_L12, e_of0 (by omega)]
        rcases h.L i (by omega) with ⟨l, l2⟩ | ⟨l, l2⟩
        · rw [l2, if_pos rfl, e_rank h (by omega) l]
          by_cases r : nI (rnk (Z 0) i ((Z 0) 1 i)) = p1
          · rw [if_pos r]
            obtain ⟨a, b⟩ := ih (i + 1) (nI i) (by omega)
            refine ⟨fun v h1 h2 h3 h4 => ?_, fun z => absurd r (z i (Nat.le_refl i) (by omega) l)⟩
            have e : rnk (Z 0) i ((Z 0) 1 i) = rnk (Z 0) v ((Z 0) 1 v) := e_inj (by have := rnk_le (Z 0) i ((Z 0) 1 i); omega) (by have := rnk_le (Z 0) v ((Z 0) 1 v); omega) (r.trans h4.symm)
            rw [← rnk_inj (by omega) h2 l h3 e]
            refine b (fun w w1 w2 w3 w4 => ?_)
            have e2 : rnk (Z 0) i ((Z 0) 1 i) = rnk (Z 0) w ((Z 0) 1 w) := e_inj (by have := rnk_le (Z 0) i ((Z 0) 1 i); omega) (by have := rnk_le (Z 0) w ((Z 0) 1 w); omega) (r.trans w4.symm)
            have := rnk_inj (by omega) w2 l w3 e2
            omega
          · rw [if_neg r]
            obtain ⟨a, b⟩ := ih (i + 1) x (by omega)
            refine ⟨fun v h1 h2 h3 h4 => a v ?_ h2 h3 h4, fun z => b (fun v h1 h2 => z v (by omega) h2)⟩
            by_cases e : i = v
            · subst e; exact absurd h4 r
            · omega
        · rw [l2, if_neg ne01]
          obtain ⟨a, b⟩ := ih (i + 1) x (by omega)
          refine ⟨fun v h1 h2 h3 h4 => a v ?_ h2 h3 h4, fun z => b (fun v h1 h2 => z v (by omega) h2)⟩
          by_cases e : i = v
          · subst e; rw [l] at h3; exact absurd h3 (by decide)
          · omega
    obtain ⟨a1, a2⟩ := A 8 0 rfl
    obtain ⟨b1, b2⟩ := B 8 0 (-1000004) rfl
    by_cases ex : ∃ v, v < 8 ∧ 0 < (Z 0) 0 v ∧ nI (rnk (Z 0) v ((Z 0) 1 v)) = p1
    · obtain ⟨v, h1, h2, h3⟩ := ex
      rw [a1 v (Nat.zero_le _) h1 h2 h3, b1 v (Nat.zero_le _) h1 h2 h3]
    · have nx : ∀ v, 0 ≤ v → v < 8 → 0 < (Z 0) 0 v → ¬ nI (rnk (Z 0) v ((Z 0) 1 v)) = p1 := fun v _ h1 h2 h3 => ex ⟨v, h1, h2, h3⟩
      rw [a2 nx, b2 nx]
  · rw [if_neg q, if_neg q]
/-! counts -/
theorem e_vtl {u μ : PS} (h : RI u (μ 0)) : f1_volumesThatLive u = f6_living μ 0 := by
  unfold f1_volumesThatLive f6_living; dsimp only [sq]
  have K : ∀ n i y, i + n ≤ 8 → f1_volumesThatLive_L4 u n i y = f6_living_L4 μ 0 n i y := by
    intro n
    induction n with
    | zero => intro i y _; rw [f1_volumesThatLive_L4, f6_living_L4]
    | succ n ih =>
      intro i y hi
      rw [f1_volumesThatLive_L4, f6_living_L4, e_of0 (by omega), ih _ _ (by omega), ih _ _ (by omega), if_pos (show (0 : Int32) = 0 from rfl), show y + 0 = y from Int32.add_zero y]
      rcases h.L i (by omega) with ⟨a, b⟩ | ⟨a, b⟩
      · rw [e_lives1 (by omega) a, b, if_neg ne10]
      · rw [e_lives0 (by omega) a, b, if_pos rfl]
  exact K 8 0 0 (by decide)
def szs (u : PS) : Nat := sm (fun v => (u 0 v).toNatClampNeg) 8 0
theorem e_szs {u : PS} (h : iS u) : f1_allSizes u = nI (szs u) := by
  unfold f1_allSizes; dsimp only [sq]
  have K := sm_loop (L := f1_allSizes_L4 u) (g := fun v => (u 0 v).toNatClampNeg) 8 (fun i y => by rw [f1_allSizes_L4]) (fun n i y hi => by rw [f1_allSizes_L4, e_num (h i hi) (by decide)]) 8 0 0 (by decide)
  rw [Nat.zero_add] at K
  exact K
theorem e_liv1 {u μ : PS} (h : RI u (μ 0)) : f6_living μ 1 = nI (szs u) := by
  unfold f6_living; dsimp only [sq]
  have K := sm_loop (L := f6_living_L4 μ 1) (g := fun v => (u 0 v).toNatClampNeg) 8 (fun i y => by rw [f6_living_L4]) (fun n i y hi => by
    rw [f6_living_L4, e_of0 hi, e_of1 hi, e_num (h.iS i hi) (by decide), if_neg ne10, if_pos (show (1 : Int32) = 1 from rfl)]
    rcases h.L i hi with ⟨a, b⟩ | ⟨a, b⟩
    · rw [b, if_neg ne10, (h.V i hi a).1]
    · rw [b, if_pos rfl, a]) 8 0 0 (by decide)
  rw [Nat.zero_add] at K
  exact K
theorem szs_le {u : PS} (h : iS u) : szs u ≤ 320 := by
  have := sm_le (g := fun v => (u 0 v).toNatClampNeg) 40 8 0 (fun k _ k2 => by
    obtain ⟨n, h1, h2⟩ := e_size h (show k < 8 by omega)
    rw [h2, nI_clamp (by omega)]; exact h1)
  unfold szs; omega
theorem e_liv2 {u μ : PS} (h : RI u (μ 0)) : f6_living μ 2 = nI (sm (fun v => fil u v) 8 0) := by
  unfold f6_living; dsimp only [sq]
  have K := sm_loop (L := f6_living_L4 μ 2) (g := fun v => fil u v) 8 (fun i y => by rw [f6_living_L4]) (fun n i y hi => by
    rw [f6_living_L4, e_of0 hi, e_filled h hi, if_neg (show ¬ (2 : Int32) = 0 by decide), if_neg (show ¬ (2 : Int32) = 1 by decide)]
    rcases h.L i hi with ⟨a, b⟩ | ⟨a, b⟩
    · rw [b, if_neg ne10]
    · rw [b, if_pos rfl]
      have z : fil u i = 0 := sm_zero 40 0 (fun k _ k2 => if_pos (e_dead h.iP hi (by omega) a))
      rw [z]; rfl) 8 0 0 (by decide)
  rw [Nat.zero_add] at K
  exact K
theorem e_allOwn {u : PS} (hO : iO u) (hP : iP u) : f1_allOwners u = nI (sm (fun v => fil u v) 8 0) := by
  unfold f1_allOwners; dsimp only [sq]
  have K := sm_loop (L := f1_allOwners_L4 u) (g := fun p => own u (nI p)) 30 (fun i y => by rw [f1_allOwners_L4]) (fun n i y hi => by rw [f1_allOwners_L4, hO i hi]) 30 0 0 (by decide)
  rw [Nat.zero_add] at K
  refine Eq.trans K (congrArg nI ?_)
  unfold own
  rw [sm_comm (g := fun p q => if u 6 q = nI p then 1 else 0) 320 0 30 0]
  have B := sm_blocks (g := fun q => if u 6 q = -1 then 0 else 1) 40 8 0
  have S : sm (fun v => fil u v) 8 0 = sm (fun q => if u 6 q = -1 then 0 else 1) 320 0 := by
    rw [show (320 : Nat) = 40 * 8 from rfl, ← show 40 * 0 = 0 from rfl, ← B]
    exact sm_congr 8 0 (fun v _ _ => (sm_shift (g := fun q => if u 6 q = -1 then 0 else 1) (40 * v) 40 0))
  rw [S]
  refine sm_congr 320 0 (fun q _ q2 => ?_)
  have e : 40 * (q / 40) + q % 40 = q := Nat.div_add_mod q 40
  rcases e_spot hP (show q / 40 < 8 by omega) (show q % 40 < 40 by omega) with z | ⟨p, hp, z, _⟩
  · rw [e] at z
    rw [z, if_pos rfl]
    exact sm_zero 30 0 (fun k _ k2 => if_neg (fun y => e_neg (by omega) y.symm))
  · rw [e] at z
    rw [z, if_neg (e_neg (by omega))]
    have O := sm_one (g := fun k => if nI p = nI k then 1 else 0) (h := fun _ => 0) p 30 0 (Nat.zero_le _) (by omega) (fun k _ k2 k3 => if_neg (fun y => k3 (e_inj (by omega) (by omega) y).symm))
    rw [if_pos rfl, sm_zero 30 0 (g := fun _ => 0) (fun _ _ _ => rfl)] at O
    omega
theorem e_shared {u μ : PS} (h : RI u (μ 0)) : f1_sharedPieces u = f6_shared μ := by
  unfold f1_sharedPieces f6_shared; dsimp only [sq]
  have K : ∀ n i y, i + n ≤ 30 → f1_sharedPieces_L4 u n i y = f6_shared_L4 μ n i y := by
    intro n
    induction n with
    | zero => intro i y _; rw [f1_sharedPieces_L4, f6_shared_L4]
    | succ n ih =>
      intro i y hi
      rw [f1_sharedPieces_L4, f6_shared_L4, e_owners8 h (by omega), ih _ _ (by omega), ih _ _ (by omega), show y + 0 = y from Int32.add_zero y]
  exact K 30 0 0 (by decide)
/-! the share -/
theorem over_pz (μ : PS) : ∀ n x y, f6_over_L24 μ n x y = f6_over_L24 pz n x y := by
  intro n
  induction n with
  | zero => intro x y; rw [f6_over_L24, f6_over_L24]
  | succ n ih => intro x y; rw [f6_over_L24, f6_over_L24, ih]
theorem over_cz (Z : ST) (p1 y2 y3 : Int32) : ∀ n i, f5_over_L35 Z p1 y2 y3 n i = f5_over_L35 (fun _ => pz) 0 y2 y3 n i := by
  intro n
  induction n with
  | zero => intro i; rw [f5_over_L35, f5_over_L35]
  | succ n ih => intro i; rw [f5_over_L35, f5_over_L35, ih]
theorem over_all : ∀ k, k < 321 → f5_over_L35 (fun _ => pz) 0 (nI k) (nI k) 29 30 = nI k / f6_over_L24 pz k (30 : Int32) (nI k) ∧ f5_over_L35 (fun _ => pz) 0 (nI k) (30 : Int32) 29 30 = (30 : Int32) / f6_over_L24 pz k (30 : Int32) (nI k) := by decide +kernel
theorem e_over {Z : ST} {μ : PS} (h : RI (Z 0) (μ 0)) (p1 : Int32) : f5_over Z p1 = f6_over μ p1 := by
  unfold f5_over f6_over; dsimp only [sq]
  have l := szs_le h.iS
  have o := over_all (szs (Z 0)) (by omega)
  rw [e_rng, e_liv1 h, e_szs h.iS, over_pz, nI_clamp (by omega), over_cz Z p1 (nI (szs (Z 0))) (nI (szs (Z 0))), over_cz Z p1 (nI (szs (Z 0))) 30, o.1, o.2]
theorem e_count {Z : ST} {μ : PS} (h : RI (Z 0) (μ 0)) (h1 : (Z 8) 0 0 = μ 6 0) (h2 : (Z 7) 2 0 = μ 6 2) (p1 : Int32) : f5_count Z p1 = f6_count μ p1 := by
  unfold f5_count f6_count f1_level
  rw [e_vtl h, e_free h, e_fre, e_avail h, e_levelBy h.E, e_prs h.iQ, e_promises h, e_allOwn h.iO h.iP, e_liv2 h, e_shared h, h1, h2]
  obtain ⟨s0, s1, s2, s3⟩ := h.S
  by_cases q7 : p1 = 7
  · subst q7; rw [← s0]; rfl
  by_cases q8 : p1 = 8
  · subst q8; rw [← s1]; rfl
  by_cases q9 : p1 = 9
  · subst q9; rw [← s2]; rfl
  by_cases q10 : p1 = 10
  · subst q10; rw [← s3]; rfl
  by_cases q20 : p1 = 20
  · subst q20; rw [← h.E 0 (by decide)]; rfl
  by_cases q21 : p1 = 21
  · subst q21; rw [← h.E 1 (by decide)]; rfl
  by_cases q22 : p1 = 22
  · subst q22; rw [← h.E 2 (by decide)]; rfl
  rw [if_neg q7, if_neg q7, if_neg q8, if_neg q8, if_neg q9, if_neg q9, if_neg q10, if_neg q10, if_neg q20, if_neg q20, if_neg q21, if_neg q21, if_neg q22, if_neg q22]
