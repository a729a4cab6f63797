/-! What the pool answers, and the count of refusals. -/
theorem lo13 (u : PS) (p k : Int32) : (f1_loosen u p k).2 13 0 = u 13 0 := by
  unfold f1_loosen
  dsimp only [sq]
  split
  · rfl
  · split <;> rfl
theorem lo01 (u : PS) (p k : Int32) : ∃ a, a ≤ 1 ∧ (f1_loosen u p k).1 = nI a := by
  unfold f1_loosen
  dsimp only [sq]
  split
  · exact ⟨0, by decide, rfl⟩
  · split
    · exact ⟨1, by decide, rfl⟩
    · exact ⟨0, by decide, rfl⟩
theorem sw13 (p : Int32) : ∀ n i x u, (f1_sweepVolume_L15 p n i x u).2 13 0 = u 13 0 := by
  intro n
  induction n with
  | zero => intro i x u; rw [f1_sweepVolume_L15]
  | succ n ih =>
    intro i x u
    rw [f1_sweepVolume_L15]
    dsimp only [sq2]
    split
    · exact ih _ _ _
    · split
      · rw [ih, lo13]
      · exact ih _ _ _
theorem sweep13 (u : PS) (p : Int32) : (f1_sweepVolume u p).2 13 0 = u 13 0 := by
  unfold f1_sweepVolume f1_thank
  dsimp only [sq, sq2]
  split
  · rfl
  · dsimp only
    rw [wr_ne (show (13 : Nat) ≠ 1 by decide), sw13]
theorem trim13 (u : PS) (p k : Int32) : (f1_trimPlace u p k).2 13 0 = u 13 0 := by
  unfold f1_trimPlace f1_thank
  dsimp only [sq, sq2]
  split
  · rfl
  · split
    · rfl
    · dsimp only
      rw [wr_ne (show (13 : Nat) ≠ 1 by decide), lo13]
theorem open13 (x : Int32) : ∀ n i u, (f1_openVolume_L16 x n i u).2 13 0 = u 13 0 := by
  intro n
  induction n with
  | zero => intro i u; rw [f1_openVolume_L16]
  | succ n ih =>
    intro i u
    rw [f1_openVolume_L16]
    dsimp only [sq]
    split
    · rfl
    · exact ih _ _
theorem cl13 (p y : Int32) : ∀ n i u, (f1_cloneVolume_L41 p y n i u) 13 0 = u 13 0 := by
  intro n
  induction n with
  | zero => intro i u; rw [f1_cloneVolume_L41]
  | succ n ih =>
    intro i u
    rw [f1_cloneVolume_L41]
    dsimp only [sq]
    split
    · exact ih _ _
    · rw [ih]; rfl
theorem clone13 (u : PS) (p : Int32) : (f1_cloneVolume u p).2 13 0 = u 13 0 := by
  unfold f1_cloneVolume f1_openVolume
  dsimp only [sq, sq2]
  split
  · rfl
  · have o : ∀ q, (if q < (1 : Int32) then ((-1000001 : Int32), u) else (if q ≤ (40 : Int32) then f1_openVolume_L16 q 8 0 u else ((-1000001 : Int32), u))).2 13 0 = u 13 0 := fun q => by
      split
      · rfl
      · split
        · exact open13 q 8 0 u
        · rfl
    have o := o (u 0 p.toNatClampNeg)
    revert o
    generalize (if (u 0 p.toNatClampNeg) < (1 : Int32) then ((-1000001 : Int32), u) else (if (u 0 p.toNatClampNeg) ≤ (40 : Int32) then f1_openVolume_L16 (u 0 p.toNatClampNeg) 8 0 u else ((-1000001 : Int32), u))) = C
    intro o
    split
    · exact o
    · show (f1_cloneVolume_L41 p C.1 40 0 (wr C.2 3 C.1.toNatClampNeg p)) 13 0 = _
      rw [cl13]; exact o
theorem dr15 (p : Int32) : ∀ n i x u, (f1_dropVolume_L15 p n i x u).2 13 0 = u 13 0 := by
  intro n
  induction n with
  | zero => intro i x u; rw [f1_dropVolume_L15]
  | succ n ih =>
    intro i x u
    rw [f1_dropVolume_L15]
    dsimp only [sq2]
    rw [ih, lo13]
theorem dr38 (p : Int32) : ∀ n i u, (f1_dropVolume_L38 p n i u) 13 0 = u 13 0 := by
  intro n
  induction n with
  | zero => intro i u; rw [f1_dropVolume_L38]
  | succ n ih =>
    intro i u
    rw [f1_dropVolume_L38]
    dsimp only [sq]
    split
    · rw [ih]; rfl
    · exact ih _ _
theorem drop13 (u : PS) (p : Int32) : (f1_dropVolume u p).2 13 0 = u 13 0 := by
  unfold f1_dropVolume
  dsimp only [sq, sq2]
  split
  · rfl
  · dsimp only
    rw [wr_ne (show (13 : Nat) ≠ 0 by decide), wr_ne (show (13 : Nat) ≠ 2 by decide), wr_ne (show (13 : Nat) ≠ 3 by decide), dr38, dr15]
theorem mo2 (a b : Int32) : ∀ n i u, (f1_moveOwners_L2 a b n i u) 13 0 = u 13 0 := by
  intro n
  induction n with
  | zero => intro i u; rw [f1_moveOwners_L2]
  | succ n ih =>
    intro i u
    rw [f1_moveOwners_L2]
    dsimp only [sq]
    split
    · rw [ih]; rfl
    · exact ih _ _
theorem mo13 (u : PS) (a b : Int32) : (f1_moveOwners u a b) 13 0 = u 13 0 := by
  unfold f1_moveOwners
  dsimp only [sq]
  rw [wr_ne (show (13 : Nat) ≠ 8 by decide), wr_ne (show (13 : Nat) ≠ 8 by decide), mo2]
theorem mg14 (j : Nat) : ∀ n i x u, (f1_mergePieces_L14 j n i x u).2 13 0 = u 13 0 := by
  intro n
  induction n with
  | zero => intro i x u; rw [f1_mergePieces_L14]
  | succ n ih =>
    intro i x u
    rw [f1_mergePieces_L14]
    dsimp only [sq]
    split
    · exact ih _ _ _
    · split
      · exact ih _ _ _
      · split
        · rw [ih, mo13]
        · exact ih _ _ _
theorem mg4 : ∀ n i x u, (f1_mergePieces_L4 n i x u).2 13 0 = u 13 0 := by
  intro n
  induction n with
  | zero => intro i x u; rw [f1_mergePieces_L4]
  | succ n ih =>
    intro i x u
    rw [f1_mergePieces_L4]
    dsimp only [sq2]
    rw [ih, mg14]
theorem merge13 (u : PS) : (f1_mergePieces u).2 13 0 = u 13 0 := by
  unfold f1_mergePieces
  dsimp only [sq, sq2]
  refine Eq.trans (wr_at (q := 0)) ?_
  rw [if_neg (by decide), mg4]
theorem add13 (u : PS) (a b c : Int32) : (f4_add u a b c) 13 0 = u 13 0 := by
  unfold f4_add
  dsimp only [sq]
  rfl
theorem warn13 (u : PS) (l : Int32) : (f1_warnIfLevelRose u l) 13 0 = u 13 0 := by
  unfold f1_warnIfLevelRose
  dsimp only [sq]
  split
  · rfl
  · exact add13 _ _ _ _
theorem refuse13 (u : PS) (p : Int32) : (f1_refuse u p) 13 0 = u 13 0 + 1 := by
  unfold f1_refuse
  dsimp only [sq]
  rw [add13]; rfl
theorem book13 (u : PS) (p a b : Int32) : (f1_bookPiece u p a b) 13 0 = u 13 0 := by
  unfold f1_bookPiece
  dsimp only [sq]
  split
  · rw [warn13]; rfl
  · split
    · rw [add13]; rfl
    · rfl
theorem give13 (u : PS) (a b c d : Int32) : (wGive u a b c d).2 13 0 = u 13 0 := by
  unfold wGive
  dsimp only [sq, sq2]
  rw [book13, wr_ne (show (13 : Nat) ≠ 7 by decide), wr_ne (show (13 : Nat) ≠ 8 by decide), wr_ne (show (13 : Nat) ≠ 6 by decide), lo13]
theorem nref {k : Nat} (h : k < 2 ^ 31) : nI k ≠ -1000005 := fun q => by
  have := nI_pos h
  rw [q] at this; exact this (by decide)
theorem piece_nref {u : PS} {x : Int32} (h : ¬ f1_isPiece u x = 0) : x ≠ -1000005 := fun q => by
  subst q
  apply h
  unfold f1_isPiece
  rw [if_pos (by decide)]
theorem wb13 (u : PS) (a b c : Int32) : (wBody u a b c).2 13 0 = u 13 0 + (if (wBody u a b c).1 = -1000005 then 1 else 0) := by
  have g : ∀ d, ¬ f1_isPiece u (f1_lowestFreePiece u) = 0 → (wGive u a b c d).2 13 0 = u 13 0 + (if (wGive u a b c d).1 = -1000005 then 1 else 0) := fun d hd => by
    have e1 : (wGive u a b c d).1 = f1_lowestFreePiece u := rfl
    rw [give13, e1, if_neg (piece_nref hd)]
    exact (Int32.add_zero _).symm
  have r : (((-1000005 : Int32), f1_refuse u a).2) 13 0 = u 13 0 + (if (((-1000005 : Int32), f1_refuse u a).1) = -1000005 then 1 else 0) := by
    rw [if_pos rfl]; exact refuse13 u a
  unfold wBody
  split
  · split
    · exact r
    · split
      · exact r
      · exact g 0 (by assumption)
  · split
    · exact r
    · exact g 1 (by assumption)
/-- an order's answer: it can't be done otherwise; or it is done, and a refusal is counted -/
def ans (u : PS) (C : Int32 × PS) : Prop := C.1 = -1000002 ∨ C.1 = -1000003 ∨ (f5_isError C.1 = 0 ∧ C.2 13 0 = u 13 0 + (if C.1 = -1000005 then 1 else 0))
theorem ans_n {u : PS} {C : Int32 × PS} {k : Nat} (hk : k < 2 ^ 31) (h1 : C.1 = nI k) (h2 : C.2 13 0 = u 13 0) : ans u C := by
  right; right
  rw [h1, h2, if_neg (nref hk)]
  exact ⟨err_nI hk, (Int32.add_zero _).symm⟩
section AN
variable {U : PS} {s : Nat → Int32}
theorem a_sweep {τ : PS} (h : RI U (τ 0)) {p : Int32} (hp : ¬ f1_lives U p = 0) : ans U (f1_sweepVolume U p) := by
  rcases e_liv U p with h0 | ⟨v, hv, rfl, hl, _⟩
  · exact absurd h0 hp
  · obtain ⟨g, u2, τ2, g1, a, _⟩ := e_sweepV h hv hl
    exact ans_n (k := g) (by omega) (by rw [a]) (sweep13 U (nI v))
theorem a_drop {τ : PS} (h : RI U (τ 0)) {p : Int32} (hp : ¬ f1_lives U p = 0) : ans U (f1_dropVolume U p) := by
  rcases e_liv U p with h0 | ⟨v, hv, rfl, hl, _⟩
  · exact absurd h0 hp
  · obtain ⟨y, u2, τ2, a, _, _, _, _, _, z, z1, z2⟩ := e_drop19 hv 40 0 0 U τ rfl h hl
    refine ans_n (k := z) (by omega) ?_ (drop13 U (nI v))
    unfold f1_dropVolume
    dsimp only [sq, sq2]
    rw [if_neg hp]
    rw [a, z1]; exact Int32.zero_add _
theorem a_trim {p k : Int32} (hp : ¬ f1_hasPlace U p k = 0) : ans U (f1_trimPlace U p k) := by
  by_cases z : f1_pieceAt U p k = -1
  · left
    unfold f1_trimPlace
    rw [if_neg hp, if_pos z]
  · obtain ⟨a, a1, a2⟩ := lo01 U p k
    refine ans_n (k := a) (by omega) ?_ (trim13 U p k)
    unfold f1_trimPlace
    dsimp only [sq, sq2]
    rw [if_neg hp, if_neg z]
    exact a2
theorem a_merge {τ : PS} (h : RI U (τ 0)) : ans U (f1_mergePieces U) := by
  obtain ⟨g, V, ν, g1, a, _⟩ := e_merges h
  exact ans_n (k := g) (by omega) (by rw [a]) (merge13 U)
theorem a_clone {τ : PS} (h : RI U (τ 0)) {p : Int32} (hp : ¬ f1_lives U p = 0) : ans U (f1_cloneVolume U p) := by
  rcases e_liv U p with h0 | ⟨v, hv, rfl, hl, _⟩
  · exact absurd h0 hp
  · have c13 := clone13 U (nI v)
    have e : (f1_cloneVolume U (nI v)).1 = (f1_openVolume_L16 (U 0 v) 8 0 U).1 := by
      obtain ⟨m, hm, em⟩ := e_size h.iS hv
      have hm0 : 0 < m := by
        rcases Nat.eq_zero_or_pos m with z | z
        · subst z; rw [em] at hl; exact absurd hl (by decide)
        · exact z
      unfold f1_cloneVolume f1_openVolume
      dsimp only [sq, sq2]
      rw [if_neg hp, nI_clamp (by omega), em, if_neg (show ¬ nI m < 1 from nI_nlt (b := 1) (by omega) (by omega)), if_pos (show nI m ≤ 40 from nI_le (b := 40) (by omega) (by decide))]
      split <;> rfl
    rcases e_open16 h (U 0 v) 8 0 rfl with ⟨_, q⟩ | ⟨w, hw, _, _, q⟩
    · right; left; rw [e, q]
    · exact ans_n (k := w) (by omega) (by rw [e, q]) c13
theorem a_write {τ : PS} (h : RI U (τ 0)) {p k : Int32} (hp : ¬ f1_hasPlace U p k = 0) {m : Nat} (hm : m ≤ 99) : ans U (f1_writePlace U p k (nI m)) := by
  rw [write_eq, if_neg hp, if_neg (nI_pos (by omega)), if_pos (show nI m ≤ 99 from nI_le (b := 99) (by omega) (by decide))]
  rcases e_has h.iS p k with h0 | ⟨v, q, hv, hq, rfl, rfl, hl, h3, h4⟩
  · exact absurd h0 hp
  · rw [e_pieceAt h.iP hv hq]
    rcases e_spot h.iP hv hq with e | ⟨x, hx, e, _⟩
    · rw [e, e_isP0, if_pos rfl]
      obtain ⟨a, _⟩ := e_wBody h hv hq h3 (Or.inl e) (nI m)
      exact Or.inr (Or.inr ⟨a, wb13 U _ _ _⟩)
    · rw [e, e_isP hx, if_neg ne10, nI_clamp (by omega)]
      by_cases z : U 8 x = 1
      · rw [if_pos z]
        exact ans_n (k := x) (by omega) rfl rfl
      · rw [if_neg z]
        have ho := own_pos (u := U) (show 40 * v + q < 320 by omega) e
        have ho2 : 1 < own U (nI x) := by
          rcases Nat.lt_or_ge 1 (own U (nI x)) with y | y
          · exact y
          · have y1 : own U (nI x) = 1 := by omega
            rw [h.iO x hx, y1] at z; exact absurd rfl z
        obtain ⟨a, _⟩ := e_wBody h hv hq h3 (Or.inr ⟨x, hx, e, ho2⟩) (nI m)
        exact Or.inr (Or.inr ⟨a, wb13 U _ _ _⟩)
end AN
