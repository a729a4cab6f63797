/-! Reading an order: the model. -/
def mxR (τ : PS) (t : Nat) (sg : Nat → Int32) : Prop := τ 6 2 = nI t ∧ t ≤ 60 ∧ ∀ i, sg i = if i < t then τ 4 i else -1
def mk5 (τ τ2 : PS) : Prop := (∀ j, j ≠ 5 → j ≠ 6 → τ2 j = τ j) ∧ ∀ i, i ≠ 3 → τ2 6 i = τ 6 i
theorem mk5.rf (τ : PS) : mk5 τ τ := ⟨fun _ _ _ => rfl, fun _ _ => rfl⟩
theorem mk5.tr {a b c : PS} (h : mk5 a b) (h2 : mk5 b c) : mk5 a c := ⟨fun j x y => (h2.1 j x y).trans (h.1 j x y), fun i x => (h2.2 i x).trans (h.2 i x)⟩
theorem mk5.mx {τ τ2 : PS} {t : Nat} {sg : Nat → Int32} (h : mk5 τ τ2) (hx : mxR τ t sg) : mxR τ2 t sg := ⟨(h.2 2 (by decide)).trans hx.1, hx.2.1, fun i => by rw [h.1 4 (by decide) (by decide)]; exact hx.2.2 i⟩
theorem mk5_spot (τ : PS) (x : Int32) : mk5 τ (wr τ 6 3 x) := ⟨fun j _ b => wr_ne b, fun i hi => (show upd (τ 6) 3 x i = τ 6 i from pk_un hi)⟩
theorem mk5_told (τ : PS) (k : Nat) (x : Int32) : mk5 τ (wr τ 5 k x) := ⟨fun j a _ => wr_ne a, fun i _ => by rw [wr_ne (by decide)]⟩
theorem at_ok {τ : PS} {t i : Nat} {sg : Nat → Int32} (h : mxR τ t sg) (hi : i < 1000) (e : τ 6 3 = nI i) {lo hg : Int32} (hlo : -1 < lo) : f6_isAt τ lo hg = if lo ≤ sg i ∧ sg i ≤ hg then 1 else 0 := by
  obtain ⟨a, b, c⟩ := h
  unfold f6_isAt f6_in
  rw [e, a, c i, nI_clamp (by omega)]
  by_cases z : i < t
  · rw [if_pos z, if_neg (nI_ge z (by omega))]
    by_cases h1 : τ 4 i < lo
    · rw [if_pos h1, if_pos rfl, if_neg (fun y => absurd h1 (Int32.not_lt.mpr y.1))]
    · rw [if_neg h1]
      by_cases h2 : hg < τ 4 i
      · rw [if_pos h2, if_pos rfl, if_neg (fun y => absurd h2 (Int32.not_lt.mpr y.2))]
      · rw [if_neg h2, if_neg ne10, if_pos ⟨Int32.not_lt.mp h1, Int32.not_lt.mp h2⟩]
  · rw [if_neg z, if_pos (nI_le (by omega) (by omega)), if_neg (fun y => absurd hlo (Int32.not_lt.mpr y.1))]
theorem at_c {τ : PS} {t i : Nat} {sg : Nat → Int32} (h : mxR τ t sg) (hi : i < 1000) (e : τ 6 3 = nI i) {c : Int32} (hc : -1 < c) : f6_isAt τ c c = if sg i = c then 1 else 0 := by
  rw [at_ok h hi e hc]
  by_cases z : sg i = c
  · rw [if_pos z, if_pos ⟨by rw [z]; exact Int32.le_refl c, by rw [z]; exact Int32.le_refl c⟩]
  · rw [if_neg z, if_neg (fun y => z (Int32.le_antisymm y.2 y.1))]
theorem sg_in {τ : PS} {t i : Nat} {sg : Nat → Int32} (h : mxR τ t sg) (hd : 48 ≤ sg i ∧ sg i ≤ 57) : τ 4 i = sg i := by
  have c := h.2.2 i
  by_cases z : i < t
  · rw [if_pos z] at c; exact c.symm
  · rw [if_neg z] at c
    rw [c] at hd; exact absurd hd.1 (by decide)
/-- the digits of a number -/
theorem nb_L {τ : PS} {t i k : Nat} {sg : Nat → Int32} (h : mxR τ t sg) (hk : k < 3) (hi : i < 990) (e : τ 6 3 = nI i) (z0 : τ 5 k = 0) : ∃ τ2, f6_number_L12 (nI k) (nI i) 2 τ = τ2 ∧ mk5 τ τ2 ∧ (∀ q, q ≠ k → τ2 5 q = τ 5 q) ∧ ((nm sg i = none ∧ τ2 6 3 = nI i) ∨ ∃ x j, nm sg i = some (x, j) ∧ τ2 6 3 = nI j ∧ τ2 5 k = x) := by
  unfold nm
  rw [f6_number_L12, at_ok h (by omega) e (show (-1 : Int32) < 48 by decide)]
  dsimp only [sq]
  by_cases d1 : 48 ≤ sg i ∧ sg i ≤ 57
  · rw [if_pos d1, if_neg ne10, if_pos d1, e, nI_clamp (by omega), nI_clamp (by omega), sg_in h d1, z0]
    have s0 : nI i - nI i = nI 0 := by rw [pk_sub (Nat.le_refl i), Nat.sub_self]
    rw [s0, if_neg (show ¬ (2 : Int32) ≤ nI 0 by decide)]
    obtain ⟨a, ha, ea⟩ := dg_num d1
    have v1 : (10 : Int32) * 0 + sg i - 48 = nI a := by
      rw [ea, show (10 : Int32) * 0 + nI (48 + a) = nI (48 + a) from Int32.zero_add _, show (48 : Int32) = nI 48 from rfl, pk_sub (by omega)]
      exact congrArg nI (by omega)
    have x1 : sg i - 48 = nI a := by rw [ea, show (48 : Int32) = nI 48 from rfl, pk_sub (by omega)]; exact congrArg nI (by omega)
    rw [v1]
    have c6 : (wr τ 5 k (nI a)) 6 3 + 1 = nI (i + 1) := by rw [wr_ne (by decide), e]; exact nI_1 i
    rw [c6]
    have m1 : mk5 τ (wr (wr τ 5 k (nI a)) 6 3 (nI (i + 1))) := (mk5_told τ k _).tr (mk5_spot _ _)
    obtain ⟨τ1, hτ1⟩ : ∃ τ1, wr (wr τ 5 k (nI a)) 6 3 (nI (i + 1)) = τ1 := ⟨_, rfl⟩
    have t5 : ∀ q, τ1 5 q = upd (τ 5) k (nI a) q := fun q => by rw [← hτ1]; rfl
    have t6 : τ1 6 3 = nI (i + 1) := by rw [← hτ1]; rfl
    rw [hτ1] at m1 ⊢
    rw [f6_number_L12, at_ok (m1.mx h) (i := i + 1) (by omega) t6 (show (-1 : Int32) < 48 by decide)]
    dsimp only [sq]
    by_cases d2 : 48 ≤ sg (i + 1) ∧ sg (i + 1) ≤ 57
    · rw [if_pos d2, if_neg ne10, if_pos d2, t6, nI_clamp (by omega), nI_clamp (by omega), sg_in (m1.mx h) d2, t5, pk_us]
      have s1 : nI (i + 1) - nI i = nI 1 := by rw [pk_sub (by omega)]; exact congrArg nI (by omega)
      rw [s1, if_neg (show ¬ (2 : Int32) ≤ nI 1 by decide), f6_number_L12, ite_self]
      obtain ⟨b, hb, eb⟩ := dg_num d2
      have c62 : ∀ y, (wr τ1 5 k y) 6 3 + 1 = nI (i + 2) := fun y => by rw [wr_ne (by decide), t6]; exact nI_1 (i + 1)
      rw [c62]
      refine ⟨_, rfl, m1.tr ((mk5_told τ1 k _).tr (mk5_spot _ _)), fun q hq => ?_, Or.inr ⟨_, _, rfl, rfl, ?_⟩⟩
      · show upd (τ1 5) k _ q = τ 5 q
        rw [pk_un hq, t5, pk_un hq]
      · show upd (τ1 5) k _ k = _
        rw [pk_us, x1, eb, show (10 : Int32) = nI 10 from rfl, show (48 : Int32) = nI 48 from rfl, pk_mul, pk_mul, nI_add, pk_sub (by omega), pk_sub (by omega), nI_add]
        exact congrArg nI (by omega)
    · rw [if_neg d2, if_pos rfl, if_neg d2]
      refine ⟨τ1, rfl, m1, fun q hq => by rw [t5, pk_un hq], Or.inr ⟨_, _, rfl, t6, ?_⟩⟩
      rw [t5, pk_us, x1]
  · rw [if_neg d1, if_pos rfl, if_neg d1]
    exact ⟨τ, rfl, mk5.rf τ, fun _ _ => rfl, Or.inl ⟨rfl, e⟩⟩
theorem nb_ok {τ : PS} {t i k : Nat} {sg : Nat → Int32} (h : mxR τ t sg) (hk : k < 3) (hi : i < 990) (e : τ 6 3 = nI i) {c : Int32} (hc : -1 < c) : ∃ r τ2, f6_number τ (nI k) c = (r, τ2) ∧ mk5 τ τ2 ∧ (∀ q, q ≠ k → τ2 5 q = τ 5 q) ∧ ((nm sg i = none ∧ r = 0) ∨ ∃ x j, nm sg i = some (x, j) ∧ ((sg j = c ∧ r = 1 ∧ τ2 6 3 = nI (j + 1) ∧ τ2 5 k = x) ∨ (sg j ≠ c ∧ r = 0))) := by
  unfold f6_number
  dsimp only [sq]
  rw [nI_clamp (by omega), e]
  obtain ⟨τ2, h1, h2, h3, h4⟩ := nb_L ((mk5_told τ k 0).mx h) hk hi (show (wr τ 5 k 0) 6 3 = nI i by rw [wr_ne (by decide)]; exact e) (show (wr τ 5 k 0) 5 k = 0 from pk_us (f := τ 5))
  rw [h1]
  have m2 : mk5 τ τ2 := (mk5_told τ k 0).tr h2
  have o2 : ∀ q, q ≠ k → τ2 5 q = τ 5 q := fun q hq => by rw [h3 q hq]; exact pk_un (f := τ 5) hq
  rcases h4 with ⟨h5, h6⟩ | ⟨x, j, h5, h6, h7⟩
  · rw [h6, if_pos (Int32.le_refl _)]
    exact ⟨_, _, rfl, m2.tr (mk5_spot _ _), fun q hq => (by rw [wr_ne (by decide)]; exact o2 q hq), Or.inl ⟨h5, rfl⟩⟩
  · obtain ⟨_, j2, j3⟩ := nm_val h5
    rw [h6, if_neg (nI_ge j3 (by omega)), at_c (m2.mx h) (i := j) (by omega) h6 hc, show nI j + 1 = nI (j + 1) from nI_1 j]
    by_cases z : sg j = c
    · rw [if_pos z, if_neg ne10]
      refine ⟨_, _, rfl, m2.tr (mk5_spot _ _), fun q hq => (by rw [wr_ne (by decide)]; exact o2 q hq), Or.inr ⟨x, j, h5, Or.inl ⟨z, rfl, rfl, ?_⟩⟩⟩
      rw [wr_ne (by decide)]; exact h7
    · rw [if_neg z, if_pos rfl]
      exact ⟨_, _, rfl, m2.tr (mk5_spot _ _), fun q hq => (by rw [wr_ne (by decide)]; exact o2 q hq), Or.inr ⟨x, j, h5, Or.inr ⟨z, rfl⟩⟩⟩
theorem L50_0 (p : Int32) (n i : Nat) (u : PS) : f6_isForm_L50 p n i 0 u = (0, u) := by
  cases n with
  | zero => rw [f6_isForm_L50]
  | succ n =>
    rw [f6_isForm_L50]
    split
    · rfl
    · rfl
theorem fm_ok {t d : Nat} {sg : Nat → Int32} (hd : d ≤ 3) : ∀ rem k n i : Nat, ∀ τ : PS, k + (rem + 1) = d → n + k = 3 → i + 10 * rem < 900 → mxR τ t sg → τ 6 3 = nI i → ∃ r τ2, f6_isForm_L50 (nI d) n k 1 τ = (r, τ2) ∧ mk5 τ τ2 ∧ ((hdn sg rem i = none ∧ r = 0) ∨ ∃ l e, hdn sg rem i = some (l, e) ∧ r = 1 ∧ τ2 6 3 = nI e ∧ (∀ q, q < k → τ2 5 q = τ 5 q) ∧ ∀ q, q < rem + 1 → τ2 5 (k + q) = l.getD q 0) := by
  intro rem
  induction rem with
  | zero =>
    intro k n i τ hkd hn hi h e
    obtain ⟨n, rfl⟩ : ∃ m, n = m + 1 := ⟨n - 1, by omega⟩
    rw [f6_isForm_L50, if_neg (nI_ge (by omega) (by omega)), if_neg ne10, if_pos (show nI k = nI d - 1 from by rw [show (1 : Int32) = nI 1 from rfl, pk_sub (by omega)]; exact congrArg nI (by omega))]
    dsimp only [sq2]
    obtain ⟨r, τ2, h1, h2, h3, h4⟩ := nb_ok h (show k < 3 by omega) (show i < 990 by omega) e (c := 59) (by decide)
    rw [h1]
    dsimp only
    unfold hdn tl
    rcases h4 with ⟨h5, h6⟩ | ⟨x, j, h5, ⟨h6, h7, h8, h9⟩ | ⟨h6, h7⟩⟩
    · rw [h5, h6, L50_0]
      exact ⟨_, _, rfl, h2, Or.inl ⟨rfl, rfl⟩⟩
    · rw [h5, h7]
      have fin : f6_isForm_L50 (nI d) n (k + 1) 1 τ2 = (1, τ2) := by
        cases n with
        | zero => rw [f6_isForm_L50]
        | succ n => rw [f6_isForm_L50, if_pos (nI_le (by omega) (by omega))]
      rw [fin]
      refine ⟨_, _, rfl, h2, Or.inr ⟨[x], j + 1, ?_, rfl, h8, fun q hq => h3 q (by omega), fun q hq => ?_⟩⟩
      · show ((if sg j = 59 then some ([], j + 1) else none).map _) = some ([x], j + 1)
        rw [if_pos h6]; rfl
      · have : q = 0 := by omega
        subst this; exact h9
    · rw [h5, h7, L50_0]
      refine ⟨_, _, rfl, h2, Or.inl ⟨?_, rfl⟩⟩
      show ((if sg j = 59 then some ([], j + 1) else none).map _) = none
      rw [if_neg h6]; rfl
  | succ rem ih =>
    intro k n i τ hkd hn hi h e
    obtain ⟨n, rfl⟩ : ∃ m, n = m + 1 := ⟨n - 1, by omega⟩
    rw [f6_isForm_L50, if_neg (nI_ge (by omega) (by omega)), if_neg ne10, if_neg (show ¬ nI k = nI d - 1 from by
      rw [show (1 : Int32) = nI 1 from rfl, pk_sub (by omega)]
      intro y; have := e_inj (by omega) (by omega) y; omega)]
    dsimp only [sq2]
    obtain ⟨r, τ2, h1, h2, h3, h4⟩ := nb_ok h (show k < 3 by omega) (show i < 990 by omega) e (c := 44) (by decide)
    rw [h1]
    dsimp only
    have ex : ∀ x j, nm sg i = some (x, j) → hdn sg (rem + 1) i = (if sg j = 44 then hdn sg rem (j + 1) else none).map (fun w => (x :: w.1, w.2)) := fun x j hx => by
      unfold hdn
      rw [hx]
      rfl
    rcases h4 with ⟨h5, h6⟩ | ⟨x, j, h5, ⟨h6, h7, h8, h9⟩ | ⟨h6, h7⟩⟩
    · rw [h6, L50_0]
      refine ⟨_, _, rfl, h2, Or.inl ⟨?_, rfl⟩⟩
      unfold hdn; rw [h5]; rfl
    · rw [h7]
      obtain ⟨_, j2, _⟩ := nm_val h5
      obtain ⟨r3, τ3, g1, g2, g3⟩ := ih (k + 1) n (j + 1) τ2 (by omega) (by omega) (by omega) (h2.mx h) h8
      rw [ex x j h5, if_pos h6]
      refine ⟨r3, τ3, g1, h2.tr g2, ?_⟩
      rcases g3 with ⟨g4, g5⟩ | ⟨l, e2, g4, g5, g6, g7, g8⟩
      · left; rw [g4]; exact ⟨rfl, g5⟩
      · right
        rw [g4]
        refine ⟨x :: l, e2, rfl, g5, g6, fun q hq => by rw [g7 q (by omega)]; exact h3 q (by omega), fun q hq => ?_⟩
        cases q with
        | zero => rw [Nat.add_zero, g7 k (by omega)]; exact h9
        | succ q => rw [show k + (q + 1) = (k + 1) + q by omega, g8 q (by omega)]; rfl
    · rw [h7, L50_0, ex x j h5, if_neg h6]
      exact ⟨_, _, rfl, h2, Or.inl ⟨rfl, rfl⟩⟩
/-- the end of an order lies behind its begin, and its numbers are small -/
theorem tl_end {sg : Nat → Int32} : ∀ n i l e, tl sg n i = some (l, e) → i < e ∧ ∀ q, ∃ a, a ≤ 99 ∧ l.getD q 0 = nI a := by
  intro n
  induction n with
  | zero =>
    intro i l e h
    unfold tl at h
    by_cases z : sg i = 59
    · rw [if_pos z] at h; cases h
      exact ⟨by omega, fun q => ⟨0, by omega, by cases q <;> rfl⟩⟩
    · rw [if_neg z] at h; cases h
  | succ n ih =>
    intro i l e h
    unfold tl at h
    by_cases z : sg i = 44
    · rw [if_pos z] at h
      cases hx : nm sg (i + 1) with
      | none => rw [hx] at h; cases h
      | some w =>
        obtain ⟨x, j⟩ := w
        rw [hx] at h
        have h : (tl sg n j).map (fun w => (x :: w.1, w.2)) = some (l, e) := h
        cases hy : tl sg n j with
        | none => rw [hy] at h; cases h
        | some w =>
          obtain ⟨l2, e2⟩ := w
          rw [hy] at h
          cases h
          obtain ⟨a, b⟩ := ih j l2 _ hy
          obtain ⟨⟨v, v1, v2⟩, _, j3⟩ := nm_val hx
          refine ⟨by omega, fun q => ?_⟩
          cases q with
          | zero => exact ⟨v, v1, v2⟩
          | succ q => exact b q
    · rw [if_neg z] at h; cases h
theorem hdn_end {sg : Nat → Int32} {n i : Nat} {l : List Int32} {e : Nat} (h : hdn sg n i = some (l, e)) : i < e ∧ ∀ q, ∃ a, a ≤ 99 ∧ l.getD q 0 = nI a := by
  unfold hdn at h
  cases hx : nm sg i with
  | none => rw [hx] at h; cases h
  | some w =>
    obtain ⟨x, j⟩ := w
    rw [hx] at h
    have h : (tl sg n j).map (fun w => (x :: w.1, w.2)) = some (l, e) := h
    cases hy : tl sg n j with
    | none => rw [hy] at h; cases h
    | some w =>
      obtain ⟨l2, e2⟩ := w
      rw [hy] at h
      cases h
      obtain ⟨a, b⟩ := tl_end n j l2 _ hy
      obtain ⟨⟨v, v1, v2⟩, _, j3⟩ := nm_val hx
      refine ⟨by omega, fun q => ?_⟩
      cases q with
      | zero => exact ⟨v, v1, v2⟩
      | succ q => exact b q
