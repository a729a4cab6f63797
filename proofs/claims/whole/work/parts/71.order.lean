/-! An order: class and model read the same. -/
def due (c : Int32) : Nat := if c = 119 then 3 else if c = 116 then 2 else if c = 115 then 1 else if c = 99 then 1 else if c = 100 then 1 else 0
def od (sg : Nat → Int32) (i : Nat) : Option (List Int32 × Nat) := if sg i = 109 then (if sg (i + 1) = 59 then some ([], i + 2) else none) else (if due (sg i) = 0 then none else hdn sg (due (sg i) - 1) (i + 1))
theorem due_le (c : Int32) : due c ≤ 3 := by
  unfold due
  split
  · decide
  · split
    · decide
    · split
      · decide
      · split
        · decide
        · split <;> decide
theorem due_109 : due 109 = 0 := by decide
theorem ndue_of (D : PS) (c : Int32) : (c = 109 ∧ f3_numbersDue D c = nI 0) ∨ (c ≠ 109 ∧ 0 < due c ∧ f3_numbersDue D c = nI (due c)) ∨ (c ≠ 109 ∧ due c = 0 ∧ f3_numbersDue D c = -1) := by
  unfold f3_numbersDue
  by_cases h1 : c = 99
  · subst h1; exact Or.inr (Or.inl (by decide))
  · by_cases h2 : c = 100
    · subst h2; exact Or.inr (Or.inl (by decide))
    · by_cases h3 : c = 109
      · subst h3; exact Or.inl (by decide)
      · by_cases h4 : c = 115
        · subst h4; exact Or.inr (Or.inl (by decide))
        · by_cases h5 : c = 116
          · subst h5; exact Or.inr (Or.inl (by decide))
          · by_cases h6 : c = 119
            · subst h6; exact Or.inr (Or.inl (by decide))
            · refine Or.inr (Or.inr ⟨h3, ?_, ?_⟩)
              · unfold due
                rw [if_neg h6, if_neg h5, if_neg h4, if_neg h1, if_neg h2]
              · rw [if_neg h1, if_neg h2, if_neg h3, if_neg h4, if_neg h5, if_neg h6]
theorem rd_order {T : PS} {t i : Nat} {sg : Nat → Int32} (h : txR T t sg) (hi : i < 400) : ∃ r T2, f3_readOrder T (nI i) = (r, T2) ∧ T2 0 = T 0 ∧ T2 2 0 = T 2 0 ∧ ((od sg i = none ∧ r = 0) ∨ ∃ l e, od sg i = some (l, e) ∧ r = 1 ∧ T2 2 2 = nI e ∧ T2 2 1 = sg i ∧ ∀ q, q < due (sg i) → T2 1 q = l.getD q 0) := by
  unfold f3_readOrder
  dsimp only [sq]
  rw [sgn_here ((tk_next T (nI i)).tx h) (i := i) (by omega) rfl]
  have e22 : (wr (wr T 2 2 (nI i)) 2 1 (sg i)) 2 2 + 1 = nI (i + 1) := nI_1 i
  rw [e22]
  obtain ⟨D, hD⟩ : ∃ D, wr (wr (wr T 2 2 (nI i)) 2 1 (sg i)) 2 2 (nI (i + 1)) = D := ⟨_, rfl⟩
  have d0 : D 0 = T 0 := by rw [← hD, wr_ne (by decide), wr_ne (by decide), wr_ne (by decide)]
  have d20 : D 2 0 = T 2 0 := by rw [← hD]; rfl
  have d21 : D 2 1 = sg i := by rw [← hD]; rfl
  have d22 : D 2 2 = nI (i + 1) := by rw [← hD]; rfl
  rw [hD, d21]
  have hx : txR D t sg := ⟨d20.trans h.1, h.2.1, fun j => by rw [d0]; exact h.2.2 j⟩
  have c2 := due_le (sg i)
  rcases ndue_of D (sg i) with ⟨c, n⟩ | ⟨c, c1, n⟩ | ⟨c, c1, n⟩
  · rw [n, if_neg (show ¬ nI 0 = -1 by decide), f3_readOrder_L41, if_pos (show nI 0 ≤ nI 0 by decide)]
    dsimp only [sq2]
    rw [ps_at hx (i := i + 1) (by omega) d22]
    unfold od
    rw [if_pos c]
    by_cases z : sg (i + 1) = 59
    · rw [if_pos z, if_pos z]
      refine ⟨_, _, rfl, ?_, d20, Or.inr ⟨[], i + 2, rfl, rfl, rfl, d21, ?_⟩⟩
      · exact d0
      · intro q hq
        rw [c, due_109] at hq; exact absurd hq (Nat.not_lt_zero q)
    · rw [if_neg z, if_neg z]
      exact ⟨_, _, rfl, d0, d20, Or.inl ⟨rfl, rfl⟩⟩
  · rw [n, if_neg (e_neg (by omega))]
    obtain ⟨r, T2, a, b, cc⟩ := rd_head (nI i) c1 c2 (i := i + 1) (by omega) hx d22
    unfold od
    rw [if_neg c, if_neg (show ¬ due (sg i) = 0 by omega)]
    refine ⟨r, T2, a, b.1.trans d0, b.2.1.trans d20, ?_⟩
    rcases cc with ⟨x, y⟩ | ⟨l, e, x, y, z, w⟩
    · exact Or.inl ⟨x, y⟩
    · exact Or.inr ⟨l, e, x, y, z, b.2.2.trans d21, w⟩
  · rw [n, if_pos rfl]
    unfold od
    rw [if_neg c, if_pos c1]
    exact ⟨_, _, rfl, d0, d20, Or.inl ⟨rfl, rfl⟩⟩
theorem fm_order {τ : PS} {t i : Nat} {sg : Nat → Int32} (h : mxR τ t sg) (hi : i < 400) (e : τ 6 3 = nI i) : ∃ r τ2, f6_isForm τ (sg i) (nI (due (sg i))) = (r, τ2) ∧ mk5 τ τ2 ∧ ((od sg i = none ∧ r = 0) ∨ ∃ l e, od sg i = some (l, e) ∧ r = 1 ∧ τ2 6 3 = nI e ∧ ∀ q, q < due (sg i) → τ2 5 q = l.getD q 0) := by
  unfold f6_isForm od
  dsimp only [sq]
  rw [e, show nI i + 1 = nI (i + 1) from nI_1 i]
  have m1 := mk5_spot τ (nI (i + 1))
  have s1 : (wr τ 6 3 (nI (i + 1))) 6 3 = nI (i + 1) := rfl
  obtain ⟨τ1, hτ⟩ : ∃ τ1, wr τ 6 3 (nI (i + 1)) = τ1 := ⟨_, rfl⟩
  rw [hτ] at m1 s1 ⊢
  have c2 := due_le (sg i)
  by_cases c : sg i = 109
  · rw [if_pos c, if_pos c, at_c (m1.mx h) (i := i + 1) (by omega) s1 (by decide), s1, show nI (i + 1) + 1 = nI (i + 2) from nI_1 (i + 1)]
    by_cases z : sg (i + 1) = 59
    · rw [if_pos z, if_pos z]
      refine ⟨_, _, rfl, m1.tr (mk5_spot _ _), Or.inr ⟨_, _, rfl, rfl, rfl, fun q hq => ?_⟩⟩
      rw [c, due_109] at hq; exact absurd hq (Nat.not_lt_zero q)
    · rw [if_neg z, if_neg z]
      exact ⟨_, _, rfl, m1.tr (mk5_spot _ _), Or.inl ⟨rfl, rfl⟩⟩
  · rw [if_neg c, if_neg c]
    by_cases d : due (sg i) = 0
    · rw [if_pos d, d, if_pos (show nI 0 ≤ 0 by decide)]
      dsimp only [sq2]
      rw [L50_0]
      exact ⟨_, _, rfl, m1, Or.inl ⟨rfl, rfl⟩⟩
    · rw [if_neg d, if_neg (nI_nle (show 0 < due (sg i) by omega) (by omega))]
      obtain ⟨r, τ2, a, b, cc⟩ := fm_ok c2 (due (sg i) - 1) 0 3 (i + 1) τ1 (by omega) rfl (by omega) (m1.mx h) s1
      dsimp only [sq2]
      rw [a]
      refine ⟨r, τ2, rfl, m1.tr b, ?_⟩
      rcases cc with ⟨x, y⟩ | ⟨l, e2, x, y, z, _, w⟩
      · exact Or.inl ⟨x, y⟩
      · exact Or.inr ⟨l, e2, x, y, z, fun q hq => by
          have := w q (by omega)
          rwa [Nat.zero_add] at this⟩
theorem tl_59 {sg : Nat → Int32} : ∀ n i l e, tl sg n i = some (l, e) → sg (e - 1) = 59 := by
  intro n
  induction n with
  | zero =>
    intro i l e h
    unfold tl at h
    by_cases z : sg i = 59
    · rw [if_pos z] at h; cases h; exact z
    · rw [if_neg z] at h; cases h
  | succ n ih =>
    intro i l e h
    unfold tl at h
    by_cases z : sg i = 44
    · rw [if_pos z] at h
      cases hx : nm sg (i + 1) with
      | none => rw [hx] at h; cases h
      | some w =>
        obtain ⟨x, j⟩ := w
        rw [hx] at h
        have h : (tl sg n j).map (fun w => (x :: w.1, w.2)) = some (l, e) := h
        cases hy : tl sg n j with
        | none => rw [hy] at h; cases h
        | some w =>
          obtain ⟨l2, e2⟩ := w
          rw [hy] at h
          cases h
          exact ih j l2 _ hy
    · rw [if_neg z] at h; cases h
theorem od_end {sg : Nat → Int32} {i : Nat} {l : List Int32} {e : Nat} (h : od sg i = some (l, e)) : i < e ∧ sg (e - 1) = 59 ∧ (sg i = 109 ∨ 0 < due (sg i)) ∧ ∀ q, ∃ a, a ≤ 99 ∧ l.getD q 0 = nI a := by
  unfold od at h
  by_cases c : sg i = 109
  · rw [if_pos c] at h
    by_cases z : sg (i + 1) = 59
    · rw [if_pos z] at h; cases h
      exact ⟨by omega, z, Or.inl c, fun q => ⟨0, by omega, by cases q <;> rfl⟩⟩
    · rw [if_neg z] at h; cases h
  · rw [if_neg c] at h
    by_cases d : due (sg i) = 0
    · rw [if_pos d] at h; cases h
    · rw [if_neg d] at h
      obtain ⟨a, b⟩ := hdn_end h
      refine ⟨by omega, ?_, Or.inr (by omega), b⟩
      unfold hdn at h
      cases hx : nm sg (i + 1) with
      | none => rw [hx] at h; cases h
      | some w =>
        obtain ⟨x, j⟩ := w
        rw [hx] at h
        have h : (tl sg (due (sg i) - 1) j).map (fun w => (x :: w.1, w.2)) = some (l, e) := h
        cases hy : tl sg (due (sg i) - 1) j with
        | none => rw [hy] at h; cases h
        | some w =>
          obtain ⟨l2, e2⟩ := w
          rw [hy] at h
          cases h
          exact tl_59 _ j l2 _ hy
theorem od_le {T : PS} {t i : Nat} {sg : Nat → Int32} (hx : txR T t sg) {l : List Int32} {e : Nat} (h : od sg i = some (l, e)) : e ≤ t := by
  obtain ⟨a, b, _⟩ := od_end h
  rw [hx.2.2 (e - 1)] at b
  by_cases z : e - 1 < t
  · omega
  · rw [if_neg z] at b; exact absurd b (by decide)
