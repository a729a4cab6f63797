/-! What the calls tell that change nothing. -/
theorem ne10 : ¬ (1 : Int32) = 0 := by decide
theorem ne01 : ¬ (0 : Int32) = 1 := by decide
theorem e_rng {α : Type} {x lo hi : Int32} {E A : α} : (if f6_in x lo hi = 0 then E else A) = (if x < lo then E else if x ≤ hi then A else E) := by
  unfold f6_in
  by_cases h1 : x < lo
  · rw [if_pos h1, if_pos h1, if_pos rfl]
  · rw [if_neg h1, if_neg h1]
    by_cases h2 : hi < x
    · rw [if_pos h2, if_pos rfl, if_neg (Int32.not_le.mpr h2)]
    · rw [if_neg h2, if_neg (by decide), if_pos (Int32.not_lt.mp h2)]
theorem e_ix40 {v k : Nat} (hv : v < 8) (hk : k < 40) : ((nI v * (40 : Int32)) + nI k).toNatClampNeg = 40 * v + k := by
  have h : nI v * (40 : Int32) + nI k = nI (40 * v + k) := by
    rw [show (40 : Int32) = nI 40 from rfl, pk_mul, nI_add, Nat.mul_comm]
  rw [h, nI_clamp (by omega)]
theorem e_has {u : PS} (hS : iS u) (p q : Int32) : f1_hasPlace u p q = 0 ∨ ∃ v k, v < 8 ∧ k < 40 ∧ p = nI v ∧ q = nI k ∧ 0 < u 0 v ∧ nI k < u 0 v ∧ f1_hasPlace u p q = 1 := by
  unfold f1_hasPlace
  rcases e_liv u p with h | ⟨v, hv, rfl, hl, h⟩
  · left; rw [if_pos h]
  · rw [h, if_neg (by decide), nI_clamp (by omega)]
    by_cases h1 : q < 0
    · left; rw [if_pos h1]
    · rw [if_neg h1]
      by_cases h2 : u 0 v ≤ q
      · left; rw [if_pos h2]
      · rw [if_neg h2]
        have h3 := Int32.not_le.mp h2
        obtain ⟨n, hn, en⟩ := e_size hS hv
        obtain ⟨k, hk, rfl⟩ := nI_of h1
        have h4 : k < n := by rw [en] at h3; exact (nI_ltI hk (by omega)).mp h3
        right
        exact ⟨v, k, hv, by omega, rfl, rfl, hl, h3, by rw [if_neg (nge40 (by omega))]⟩
theorem e_has1 {u : PS} {v k : Nat} (hv : v < 8) (hk : k < 40) (h : nI k < u 0 v) : f1_hasPlace u (nI v) (nI k) = 1 := by
  have hl : 0 < u 0 v := by
    rw [lt_t] at h ⊢; rw [nI_toInt (by omega)] at h
    have t0 : (0 : Int32).toInt = 0 := by decide
    omega
  unfold f1_hasPlace
  rw [e_lives1 hv hl, if_neg (by decide), nI_clamp (by omega), if_neg (nI_pos (by omega)), if_neg (Int32.not_le.mpr h), if_neg (nge40 hk)]
theorem e_isPlace {u μ : PS} (h : RI u (μ 0)) (p q : Int32) : f6_isPlace μ p q = f1_hasPlace u p q := by
  unfold f6_isPlace
  rw [e_isVol h.L]
  rcases e_has h.iS p q with h0 | ⟨v, k, hv, hk, rfl, rfl, hl, h3, h4⟩
  · rw [h0]
    unfold f1_hasPlace at h0
    by_cases h1 : f1_lives u p = 0
    · rw [if_pos h1]
    · rw [if_neg h1] at h0 ⊢
      by_cases h2 : q < 0
      · rw [if_pos h2]
      · rw [if_neg h2] at h0 ⊢
        rcases e_liv u p with h5 | ⟨v, hv, rfl, hl, h5⟩
        · exact absurd h5 h1
        · rw [nI_clamp (by omega)] at h0
          rw [e_of1 hv, (h.V v hv hl).1]
          by_cases h6 : u 0 v ≤ q
          · rw [if_pos h6]
          · rw [if_neg h6] at h0
            obtain ⟨n, hn, en⟩ := e_size h.iS hv
            obtain ⟨k, hk, rfl⟩ := nI_of h2
            have h7 : k < n := by rw [en] at h6; exact (nI_ltI hk (by omega)).mp (Int32.not_le.mp h6)
            rw [if_neg (nge40 (by omega))] at h0
            exact absurd h0 (by decide)
  · rw [h4, e_lives1 hv hl, if_neg (by decide), if_neg (nI_pos (by omega)), e_of1 hv, (h.V v hv hl).1, if_neg (Int32.not_le.mpr h3)]
theorem e_pieceAt {u : PS} (hP : iP u) {v k : Nat} (hv : v < 8) (hk : k < 40) : f1_pieceAt u (nI v) (nI k) = u 6 (40 * v + k) := by
  unfold f1_pieceAt
  rw [e_ix40 hv hk]
  by_cases h : f1_hasPlace u (nI v) (nI k) = 0
  · rw [if_pos h]
    rcases hP v k hv hk with q | ⟨_, q⟩
    · exact q.symm
    · rw [e_has1 hv hk q] at h; exact absurd h (by decide)
  · rw [if_neg h]
theorem e_isP {p : Nat} {u : PS} (hp : p < 30) : f1_isPiece u (nI p) = 1 := by
  unfold f1_isPiece
  rw [if_neg (nI_pos (by omega)), if_neg (nge30 hp)]
theorem e_isP0 {u : PS} : f1_isPiece u (-1) = 0 := by
  unfold f1_isPiece
  rw [if_pos (by decide)]
/-- a place has a piece or none -/
theorem e_spot {u : PS} (hP : iP u) {v k : Nat} (hv : v < 8) (hk : k < 40) : u 6 (40 * v + k) = -1 ∨ ∃ p, p < 30 ∧ u 6 (40 * v + k) = nI p ∧ nI k < u 0 v := by
  rcases hP v k hv hk with q | ⟨q, r⟩
  · exact Or.inl q
  · obtain ⟨p, h1, h2⟩ := vp_in_of q (by decide)
    exact Or.inr ⟨p, h1, h2, r⟩
theorem e_live_of {u : PS} {v k : Nat} (hk : k < 40) (h : nI k < u 0 v) : 0 < u 0 v := by
  rw [lt_t] at h ⊢; rw [nI_toInt (by omega)] at h
  have t0 : (0 : Int32).toInt = 0 := by decide
  omega
theorem e_read {Z : ST} {μ : PS} (h : RI (Z 0) (μ 0)) (p1 p2 p3 : Int32) : f5_read Z p1 p2 p3 = f6_read μ p1 p2 p3 := by
  unfold f5_read f6_read
  rw [e_isPlace h]
  rcases e_has h.iS p1 p2 with h0 | ⟨v, k, hv, hk, rfl, rfl, hl, h3, h4⟩
  · rw [if_pos h0, if_pos h0]
  · rw [h4, if_neg ne10, if_neg ne10, e_rng, e_pieceAt h.iP hv hk, e_piece hv hk, h.P v k hv hk hl]
    rcases pk_ix p3 (n := 2) (by decide) with q | q | ⟨j, hj, rfl⟩
    · rw [if_pos q, if_pos q]
    · have : ¬ p3 ≤ 1 := by
        rw [le_t] at q ⊢
        have t2 : (nI 2).toInt = 2 := by decide
        have t1 : (1 : Int32).toInt = 1 := by decide
        omega
      rw [if_neg this, if_neg this]
    · have q0 : ¬ nI j < 0 := nI_pos (by omega)
      have q1 : nI j ≤ 1 := nI_le (b := 1) (by omega) (by decide)
      rw [if_neg q0, if_neg q0, if_pos q1, if_pos q1]
      have hj2 : j = 0 ∨ j = 1 := by omega
      rcases e_spot h.iP hv hk with e | ⟨p, hp, e, _⟩
      · rw [e]
        rcases hj2 with rfl | rfl
        · rw [if_pos (show nI 0 = 0 from rfl), if_neg (show ¬ nI 0 = 1 by decide), if_neg e_m1]
          unfold f1_valueOf; rw [e_isP0, if_pos rfl]
        · rw [if_neg (show ¬ nI 1 = 0 by decide), if_pos rfl, if_pos (show nI 1 = 1 from rfl), if_neg e_m1]
      · rw [e]
        have q2 : (0 : Int32) ≤ nI p := nI_pos' (by omega)
        rcases hj2 with rfl | rfl
        · rw [if_pos (show nI 0 = 0 from rfl), if_neg (show ¬ nI 0 = 1 by decide), if_pos q2]
          unfold f1_valueOf
          rw [e_isP hp, if_neg (by decide), nI_clamp (by omega), show (7 : Int32) + nI p = nI (7 + p) from nI_add 7 p, nI_clamp (by omega), h.D p hp]
        · rw [if_neg (show ¬ nI 1 = 0 by decide), if_neg (e_neg (by omega)), if_pos (show nI 1 = 1 from rfl), if_pos q2]
/-! sets of volumes -/
abbrev bit (v : Nat) : Int32 := (1 : Int32) <<< (nI v &&& 31)
theorem bit_ne {v : Nat} (hv : v < 8) : bit v ≠ 0 := by
  rcases (show v = 0 ∨ v = 1 ∨ v = 2 ∨ v = 3 ∨ v = 4 ∨ v = 5 ∨ v = 6 ∨ v = 7 by omega) with rfl | rfl | rfl | rfl | rfl | rfl | rfl | rfl <;> decide
theorem or_zero_iff (x y : Int32) : x ||| y = 0 ↔ x = 0 ∧ y = 0 := by
  constructor
  · intro h
    have h2 := congrArg Int32.toBitVec h
    rw [Int32.toBitVec_or] at h2
    have h3 : x.toBitVec = 0#32 ∧ y.toBitVec = 0#32 := BitVec.or_eq_zero_iff.mp h2
    exact ⟨Int32.toBitVec_inj.mp h3.1, Int32.toBitVec_inj.mp h3.2⟩
  · rintro ⟨rfl, rfl⟩; rfl
theorem so_zero {g : Nat → Int32} : ∀ n i : Nat, so g n i = 0 ↔ ∀ k, i ≤ k → k < i + n → g k = 0 := by
  intro n
  induction n with
  | zero => intro i; exact ⟨fun _ k h1 h2 => absurd h2 (by omega), fun _ => rfl⟩
  | succ n ih =>
    intro i
    show g i ||| so g n (i + 1) = 0 ↔ _
    rw [or_zero_iff, ih (i + 1)]
    constructor
    · rintro ⟨h1, h2⟩ k k1 k2
      by_cases hk : i = k
      · subst hk; exact h1
      · exact h2 k (by omega) (by omega)
    · intro h
      exact ⟨h i (Nat.le_refl i) (by omega), fun k k1 k2 => h k (by omega) (by omega)⟩
def pla (u : PS) (v : Nat) (x : Int32) : Nat := sm (fun k => if u 6 (40 * v + k) = x then 1 else 0) 40 0
def vol (u : PS) (x : Int32) : Int32 := so (fun v => if 0 < pla u v x then bit v else 0) 8 0
theorem e_vto {u : PS} (hP : iP u) (x : Int32) : f1_volumesThatOwn u x = vol u x := by
  unfold f1_volumesThatOwn; dsimp only [sq]
  have J : ∀ v, v < 8 → ∀ n i y, i + n ≤ 40 → f1_volumesThatOwn_L13 u x v n i y = y ||| (if 0 < sm (fun k => if u 6 (40 * v + k) = x then 1 else 0) n i then bit v else 0) := by
    intro v hv n
    induction n with
    | zero => intro i y _; rw [f1_volumesThatOwn_L13]; exact Int32.or_zero.symm
    | succ n ih =>
      intro i y hi
      rw [f1_volumesThatOwn_L13, e_pieceAt hP hv (by omega)]
      show _ = y ||| (if 0 < (if u 6 (40 * v + i) = x then 1 else 0) + sm (fun k => if u 6 (40 * v + k) = x then 1 else 0) n (i + 1) then bit v else 0)
      by_cases h : u 6 (40 * v + i) = x
      · rw [if_pos h, if_pos h, ih (i + 1) _ (by omega), if_pos (show 0 < 1 + _ by omega)]
        split
        · rw [Int32.or_assoc, Int32.or_self]
        · rw [Int32.or_zero]
      · rw [if_neg h, if_neg h, ih (i + 1) _ (by omega), Nat.zero_add]
  have K := so_loop (L := f1_volumesThatOwn_L4 u x) (g := fun v => if 0 < pla u v x then bit v else 0) 8 (fun i y => by rw [f1_volumesThatOwn_L4]) (fun n i y hi => by rw [f1_volumesThatOwn_L4]; dsimp only [sq]; rw [J i hi 40 0 y (by decide)]; rfl) 8 0 0 (by decide)
  rw [Int32.zero_or] at K
  exact K
theorem pla_le (u : PS) (v : Nat) (x : Int32) : pla u v x ≤ 40 := by
  have := sm_le (g := fun k => if u 6 (40 * v + k) = x then 1 else 0) 1 40 0 (fun k _ _ => by split <;> omega)
  unfold pla; omega
theorem e_vof {u μ : PS} (h : RI u (μ 0)) {x : Int32} (hx : x ≠ -1) : f6_volumesOf μ x = vol u x := by
  unfold f6_volumesOf; dsimp only [sq]
  have K := so_loop (L := f6_volumesOf_L4 μ x) (g := fun v => if 0 < pla u v x then bit v else 0) 8 (fun i y => by rw [f6_volumesOf_L4]) (fun n i y hi => by
    rw [f6_volumesOf_L4, e_ownIn h hi hx]
    show (if nI (pla u i x) ≤ 0 then _ else _) = _
    have hl := pla_le u i x
    by_cases hz : 0 < pla u i x
    · rw [if_neg (nI_nle hz (by omega)), if_pos hz]
    · rw [if_neg hz, show pla u i x = 0 by omega, if_pos (by decide)]) 8 0 0 (by decide)
  rw [Int32.zero_or] at K
  exact K
theorem own_pla (u : PS) (x : Int32) : own u x = sm (fun v => pla u v x) 8 0 := by
  have B := sm_blocks (g := fun q => if u 6 q = x then 1 else 0) 40 8 0
  unfold own
  rw [show (320 : Nat) = 40 * 8 from rfl, ← show 40 * 0 = 0 from rfl, ← B]
  exact (sm_congr 8 0 (fun v _ _ => (sm_shift (g := fun q => if u 6 q = x then 1 else 0) (40 * v) 40 0))).symm
theorem vol_zero (u : PS) (x : Int32) : vol u x = 0 ↔ own u x = 0 := by
  unfold vol
  rw [so_zero, own_pla]
  constructor
  · intro h
    exact sm_zero 8 0 (fun k h1 h2 => by
      by_cases hz : 0 < pla u k x
      · have := h k h1 h2
        rw [if_pos hz] at this
        exact absurd this (bit_ne (by omega))
      · omega)
  · intro h k h1 h2
    have := sm_ge (g := fun v => pla u v x) k 8 0 h1 h2
    rw [if_neg (by omega)]
theorem e_poo {u μ : PS} (h : RI u (μ 0)) (x : Int32) : f1_piecesOwnedOnlyBy u x = f6_ownedBy μ x := by
  unfold f1_piecesOwnedOnlyBy f6_ownedBy; dsimp only [sq]
  have K : ∀ n i y, i + n ≤ 30 → f1_piecesOwnedOnlyBy_L4 u x n i y = f6_ownedBy_L4 μ x n i y := by
    intro n
    induction n with
    | zero => intro i y _; rw [f1_piecesOwnedOnlyBy_L4, f6_ownedBy_L4]
    | succ n ih =>
      intro i y hi
      rw [f1_piecesOwnedOnlyBy_L4, f6_ownedBy_L4, e_vof h (e_neg (by omega)), e_vto h.iP, h.iO i (by omega), ih (i + 1) y (by omega), ih (i + 1) (y + 1) (by omega)]
      have hl := own_le u (nI i)
      have h0 : y + 0 = y := Int32.add_zero y
      rw [h0]
      by_cases hz : vol u (nI i) = 0
      · rw [if_pos hz, (vol_zero u (nI i)).mp hz, if_pos (by decide)]
      · rw [if_neg hz, if_neg (nI_nle (Nat.pos_of_ne_zero (fun q => hz ((vol_zero u (nI i)).mpr q))) (by omega))]
  exact K 30 0 0 (by decide)
theorem e_clones {u μ : PS} (h : RI u (μ 0)) (x : Int32) : f1_clonesOf u x = f6_clones μ x := by
  unfold f1_clonesOf f6_clones; dsimp only [sq]
  have K : ∀ n i y, i + n ≤ 8 → f1_clonesOf_L4 u x n i y = f6_clones_L4 μ x n i y := by
    intro n
    induction n with
    | zero => intro i y _; rw [f1_clonesOf_L4, f6_clones_L4]
    | succ n ih =>
      intro i y hi
      rw [f1_clonesOf_L4, f6_clones_L4, e_of0 (by omega), e_of4 (by omega), ih (i + 1) y (by omega), ih (i + 1) _ (by omega)]
      have h0 : y ||| 0 = y := Int32.or_zero
      rw [h0]
      rcases h.L i (by omega) with ⟨a, b⟩ | ⟨a, b⟩
      · rw [e_lives1 (by omega) a, b, if_neg (by decide), if_pos rfl, (h.V i (by omega) a).2.2.2.1]
      · rw [e_lives0 (by omega) a, b, if_pos rfl, if_neg (by decide)]
  exact K 8 0 0 (by decide)
def fil (u : PS) (v : Nat) : Nat := sm (fun k => if u 6 (40 * v + k) = -1 then 0 else 1) 40 0
theorem e_pwp {u : PS} (hP : iP u) {v : Nat} (hv : v < 8) : f1_placesWithPieces u (nI v) = nI (fil u v) := by
  unfold f1_placesWithPieces; dsimp only [sq]
  have K := sm_loop (L := f1_placesWithPieces_L4 u (nI v)) (g := fun k => if u 6 (40 * v + k) = -1 then 0 else 1) 40 (fun i y => by rw [f1_placesWithPieces_L4]) (fun n i y hi => by rw [f1_placesWithPieces_L4, e_pieceAt hP hv hi]; exact st_b (F := f1_placesWithPieces_L4 u (nI v) n (i + 1))) 40 0 0 (by decide)
  rw [Nat.zero_add] at K
  exact K
theorem e_filled {u μ : PS} (h : RI u (μ 0)) {v : Nat} (hv : v < 8) : f6_filled μ (nI v) = nI (fil u v) := by
  unfold f6_filled; dsimp only [sq]
  have K : ∀ n i a : Nat, i + n = 40 → f6_filled_L4 μ (nI v) n i (nI a) = nI (a + sm (fun k => if u 6 (40 * v + k) = -1 then 0 else 1) n i) := by
    intro n
    induction n with
    | zero => intro i a _; rw [f6_filled_L4]; rfl
    | succ n ih =>
      intro i a hi
      rw [f6_filled_L4, e_of1 hv, e_of0 hv, e_piece hv (by omega)]
      rcases h.L v hv with ⟨l1, l2⟩ | ⟨l1, l2⟩
      · rw [(h.V v hv l1).1, l2, h.P v i hv (by omega) l1]
        by_cases hs : u 0 v ≤ nI i
        · rw [if_pos hs, sm_zero (n + 1) i (fun k k1 k2 => if_pos (e_behind h.iP hv (by omega) k1 hs))]; rfl
        · rw [if_neg hs, if_pos rfl]
          show _ = nI (a + ((if u 6 (40 * v + i) = -1 then 0 else 1) + sm (fun k => if u 6 (40 * v + k) = -1 then 0 else 1) n (i + 1)))
          rcases e_spot h.iP hv (show i < 40 by omega) with e | ⟨p, hp, e, _⟩
          · rw [e, if_neg e_m1, if_pos rfl, Nat.zero_add]
            rw [show nI a + 0 = nI a from Int32.add_zero _]
            exact ih (i + 1) a (by omega)
          · rw [e, if_pos (nI_pos' (by omega)), if_neg (e_neg (by omega)), ← Nat.add_assoc]
            rw [show nI a + 1 = nI (a + 1) from nI_1 a]
            exact ih (i + 1) (a + 1) (by omega)
      · rw [sm_zero (n + 1) i (fun k k1 k2 => if_pos (e_dead h.iP hv (by omega) l1)), l2]
        by_cases hs : μ 0 (68 + 47 * v) ≤ nI i
        · rw [if_pos hs]; rfl
        · rw [if_neg hs, if_neg (by decide)]; rfl
  have := K 40 0 0 rfl
  rw [Nat.zero_add] at this
  exact this
/-! ranks -/
def rnk (u : PS) (v : Nat) (m : Int32) : Nat := sm (fun i => if 0 < u 0 i ∧ i ≠ v ∧ (m < u 1 i ∨ (u 1 i = m ∧ i < v)) then 1 else 0) 8 0
theorem e_ifc {P Q : Prop} [Decidable P] [Decidable Q] (h : P ↔ Q) : (if P then 1 else 0 : Nat) = (if Q then 1 else 0 : Nat) := by
  by_cases p : P
  · rw [if_pos p, if_pos (h.mp p)]
  · rw [if_neg p, if_neg (fun q => p (h.mpr q))]
theorem st_rank {α : Type} {A B C D E : Prop} [Decidable A] [Decidable B] [Decidable C] [Decidable D] [Decidable E] {F : Int32 → α} {x : Int32} : (if A then (if E then F x else (if D then F x else F (x + 1))) else (if B then (if C then (if E then F x else (if D then F x else F x)) else (if E then F x else (if D then F x else F (x + 1)))) else (if E then F x else (if D then F x else F x)))) = F (x + nI (if ¬ D ∧ ¬ E ∧ (A ∨ (B ∧ ¬ C)) then 1 else 0)) := by
  have y0 : x + nI 0 = x := e_add0 x
  have y1 : x + nI 1 = x + 1 := rfl
  by_cases a : A <;> by_cases b : B <;> by_cases c : C <;> by_cases d : D <;> by_cases e : E <;> simp [a, b, c, d, e, y0, y1]
theorem e_rankW {u : PS} {v : Nat} (hv : v < 8) (m : Int32) : f1_rankWith u (nI v) m = nI (rnk u v m) := by
  unfold f1_rankWith; dsimp only [sq]
  have K := sm_loop (L := f1_rankWith_L5 u (nI v) m) (g := fun i => if 0 < u 0 i ∧ i ≠ v ∧ (m < u 1 i ∨ (u 1 i = m ∧ i < v)) then 1 else 0) 8 (fun i y => by rw [f1_rankWith_L5]) (fun n i y hi => by
    rw [f1_rankWith_L5]
    refine (st_rank (F := f1_rankWith_L5 u (nI v) m n (i + 1))).trans (congrArg (fun z => f1_rankWith_L5 u (nI v) m n (i + 1) (y + nI z)) (e_ifc ?_))
    rw [nI_eq (by omega) (by omega), nI_leI (by omega) (by omega), e_lives hi]
    have d : ¬ (if 0 < u 0 i then (1 : Int32) else 0) = 0 ↔ 0 < u 0 i := by
      by_cases q : 0 < u 0 i
      · rw [if_pos q]; exact ⟨fun _ => q, fun _ => by decide⟩
      · rw [if_neg q]; exact ⟨fun z => absurd rfl z, fun z => absurd z q⟩
    rw [d, Nat.not_le]) 8 0 0 (by decide)
  rw [Nat.zero_add] at K
  exact K
theorem st_rank6 {α : Type} {A B C D : Prop} [Decidable A] [Decidable B] [Decidable C] [Decidable D] {F : Int32 → α} {x : Int32} : (if A then (if D then F (x + 1) else F (x + 0)) else (if C then (if D then F (x + 0) else F (x + 0)) else (if B then (if D then F (x + 1) else F (x + 0)) else (if D then F (x + 0) else F (x + 0))))) = F (x + nI (if D ∧ (A ∨ (B ∧ ¬ C)) then 1 else 0)) := by
  have y0 : x + nI 0 = x := e_add0 x
  have y1 : x + nI 1 = x + 1 := rfl
  have y2 : x + 0 = x := Int32.add_zero x
  by_cases a : A <;> by_cases b : B <;> by_cases c : C <;> by_cases d : D <;> simp [a, b, c, d, y0, y1, y2]
theorem e_rank {u μ : PS} (h : RI u (μ 0)) {v : Nat} (hv : v < 8) (hl : 0 < u 0 v) : f6_rank μ (nI v) = nI (rnk u v (u 1 v)) := by
  unfold f6_rank; dsimp only [sq]
  have K := sm_loop (L := f6_rank_L4 μ (nI v)) (g := fun i => if 0 < u 0 i ∧ i ≠ v ∧ (u 1 v < u 1 i ∨ (u 1 i = u 1 v ∧ i < v)) then 1 else 0) 8 (fun i y => by rw [f6_rank_L4]) (fun n i y hi => by
    rw [f6_rank_L4]
    refine (st_rank6 (F := f6_rank_L4 μ (nI v) n (i + 1))).trans (congrArg (fun z => f6_rank_L4 μ (nI v) n (i + 1) (y + nI z)) (e_ifc ?_))
    rw [nI_leI (by omega) (by omega), e_of0 hi, e_of2 hv, e_of2 hi, (h.V v hv hl).2.1, Nat.not_le]
    rcases h.L i hi with ⟨a, b⟩ | ⟨a, b⟩
    · rw [b, (h.V i hi a).2.1]
      constructor
      · rintro ⟨_, q⟩
        refine ⟨a, ?_, q⟩
        rintro rfl
        rcases q with q | ⟨_, q⟩
        · exact absurd q Int32.lt_irrefl
        · exact absurd q (Nat.lt_irrefl _)
      · rintro ⟨_, _, q⟩; exact ⟨rfl, q⟩
    · rw [b, a]
      constructor
      · rintro ⟨q, _⟩; exact absurd q (by decide)
      · rintro ⟨q, _⟩; exact absurd q (by decide)) 8 0 0 (by decide)
  rw [Nat.zero_add] at K
  exact K
theorem rnk_le (u : PS) (v : Nat) (m : Int32) : rnk u v m ≤ 8 := by
  have := sm_le (g := fun i => if 0 < u 0 i ∧ i ≠ v ∧ (m < u 1 i ∨ (u 1 i = m ∧ i < v)) then 1 else 0) 1 8 0 (fun k _ _ => by split <;> omega)
  unfold rnk; omega
theorem e_volumeOf {Z : ST} {μ : PS} (h : RI (Z 0) (μ 0)) (p1 p2 : Int32) : f5_volumeOf Z p1 p2 = f6_volumeOf μ p1 p2 := by
  unfold f5_volumeOf f6_volumeOf
  rw [e_isVol h.L]
  rcases e_liv (Z 0) p1 with h0 | ⟨v, hv, rfl, hl, h1⟩
  · rw [if_pos h0, if_pos h0]
  · obtain ⟨v1, v2, v3, v4, v5, v6⟩ := h.V v hv hl
    have par : (if (Z 0) 3 v = (-1 : Int32) then (-1000004 : Int32) else (Z 0) 3 v) = (if 0 ≤ (Z 0) 3 v then (Z 0) 3 v else (-1000004 : Int32)) := by
      rcases h.iA v hv with e | ⟨_, w, hw, e, _⟩
      · rw [e, if_pos rfl, if_neg e_m1]
      · rw [e, if_neg (e_neg (by omega)), if_pos (nI_pos' (by omega))]
    rw [h1, if_neg ne10, if_neg ne10, nI_clamp (by omega), e_of1 hv, e_of2 hv, e_of3 hv, e_of4 hv, e_of5 hv, e_of6 hv, v1, v2, v3, v4, v5, v6, e_pwp h.iP hv, e_filled h hv, e_poo h, e_clones h, e_rankW hv, e_rank h hv hl, par]
theorem e_pieceOf {Z : ST} {μ : PS} (h : RI (Z 0) (μ 0)) (p1 p2 : Int32) : f5_pieceOf Z p1 p2 = f6_pieceOf μ p1 p2 := by
  unfold f5_pieceOf f6_pieceOf
  rw [e_rng, e_rng]
  unfold f1_isPiece
  rcases pk_ix p1 (n := 30) (by decide) with q | q | ⟨p, hp, rfl⟩
  · rw [if_pos q, if_pos q, if_pos rfl]
  · have q1 : ¬ p1 < 0 := by
      rw [le_t] at q; rw [lt_t]
      have t2 : (nI 30).toInt = 30 := by decide
      have t1 : (0 : Int32).toInt = 0 := by decide
      omega
    have q2 : ¬ p1 ≤ 29 := by
      rw [le_t] at q ⊢
      have t2 : (nI 30).toInt = 30 := by decide
      have t1 : (29 : Int32).toInt = 29 := by decide
      omega
    rw [if_neg q1, if_neg q1, if_neg q2, if_pos (show (30 : Int32) ≤ p1 from q), if_pos rfl]
  · rw [if_neg (nI_pos (by omega)), if_neg (nI_pos (by omega)), if_neg (nge30 hp), if_neg (by decide), if_pos (show nI p ≤ 29 from nI_le (b := 29) (by omega) (by decide)), nI_clamp (by omega), e_owners8 h hp, e_vof h (e_neg (by omega)), e_vto h.iP, show (7 : Int32) + nI p = nI (7 + p) from nI_add 7 p, nI_clamp (by omega), h.D p hp]
theorem e_warningOf {Z : ST} {μ : PS} (h : RI (Z 0) (μ 0)) (p1 p2 : Int32) : f5_warningOf Z p1 p2 = f6_warningOf μ p1 p2 := by
  unfold f5_warningOf f6_warningOf f4_tell
  rw [e_rng, h.S.2.2.2]
  by_cases q0 : p1 < 0
  · rw [if_pos q0, if_pos q0]
  · rw [if_neg q0, if_neg q0, if_neg q0]
    by_cases q1 : (Z 0) 13 3 ≤ p1
    · rw [if_pos q1, if_pos q1]
    · rw [if_neg q1, if_neg q1]
      obtain ⟨n, hn, en⟩ := vp_in_of h.iK.1 (by decide)
      obtain ⟨i, hi, rfl⟩ := nI_of q0
      have hin : i < n := by rw [en] at q1; exact (nI_ltI hi (by omega)).mp (Int32.not_le.mp q1)
      rw [if_pos (show nI i < 10 from nI_lt (b := 10) (by omega) (by decide)), nI_clamp (by omega)]
      rcases pk_ix p2 (n := 3) (by decide) with q | q | ⟨j, hj, rfl⟩
      · rw [if_pos q, if_pos q]
      · have : ¬ p2 ≤ 2 := by
          rw [le_t] at q ⊢
          have t2 : (nI 3).toInt = 3 := by decide
          have t1 : (2 : Int32).toInt = 2 := by decide
          omega
        rw [if_neg this, if_neg this]
      · rw [if_neg (nI_pos (by omega)), if_neg (nI_pos (by omega)), if_pos (show nI j ≤ 2 from nI_le (b := 2) (by omega) (by decide)), if_pos (show nI j ≤ 2 from nI_le (b := 2) (by omega) (by decide))]
        have e : ((37 : Int32) + (3 : Int32) * nI i + nI j).toNatClampNeg = 37 + 3 * i + j := by
          rw [show (37 : Int32) + (3 : Int32) * nI i + nI j = nI (37 + 3 * i + j) from by rw [show (37 : Int32) = nI 37 from rfl, show (3 : Int32) = nI 3 from rfl, pk_mul, nI_add, nI_add], nI_clamp (by omega)]
        rw [e]
        obtain ⟨w0, w1, w2⟩ := h.W i (by omega)
        rcases (show j = 0 ∨ j = 1 ∨ j = 2 by omega) with rfl | rfl | rfl
        · rw [if_pos (show nI 0 = 0 from rfl)]; exact w0.symm
        · rw [if_neg (show ¬ nI 1 = 0 by decide), if_pos (show nI 1 = 1 from rfl)]
          exact (w1.symm.trans (congrArg (μ 0) (by omega)))
        · rw [if_neg (show ¬ nI 2 = 0 by decide), if_neg (show ¬ nI 2 = 1 by decide)]
          exact (w2.symm.trans (congrArg (μ 0) (by omega)))
