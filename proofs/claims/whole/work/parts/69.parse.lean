/-! Reading an order: what class and model read. -/
def nm (sg : Nat → Int32) (i : Nat) : Option (Int32 × Nat) := if 48 ≤ sg i ∧ sg i ≤ 57 then (if 48 ≤ sg (i + 1) ∧ sg (i + 1) ≤ 57 then some ((sg i - 48) * 10 + (sg (i + 1) - 48), i + 2) else some (sg i - 48, i + 1)) else none
def tl (sg : Nat → Int32) : Nat → Nat → Option (List Int32 × Nat)
  | 0, i => if sg i = 59 then some ([], i + 1) else none
  | n + 1, i => if sg i = 44 then (nm sg (i + 1)).bind (fun q => (tl sg n q.2).map (fun w => (q.1 :: w.1, w.2))) else none
def hdn (sg : Nat → Int32) (n i : Nat) : Option (List Int32 × Nat) := (nm sg i).bind (fun q => (tl sg n q.2).map (fun w => (q.1 :: w.1, w.2)))
/-- the signs of a text -/
def txR (T : PS) (t : Nat) (sg : Nat → Int32) : Prop := T 2 0 = nI t ∧ t ≤ 60 ∧ ∀ i, sg i = if i < t then T 0 i else -1
theorem sgn_here {T : PS} {t i : Nat} {sg : Nat → Int32} (h : txR T t sg) (hi : i < 1000) (e : T 2 2 = nI i) : f3_signHere T = sg i := by
  obtain ⟨a, b, c⟩ := h
  unfold f3_signHere
  rw [e, a, c i, if_neg (nI_pos (by omega)), nI_clamp (by omega)]
  by_cases z : i < t
  · rw [if_pos z, if_neg (nI_ge z (by omega)), if_neg (show ¬ (60 : Int32) ≤ nI i from nI_ge (b := 60) (by omega) (by decide))]
  · rw [if_neg z, if_pos (nI_le (by omega) (by omega))]
theorem dg_num {x : Int32} (h : 48 ≤ x ∧ x ≤ 57) : ∃ a, a ≤ 9 ∧ x = nI (48 + a) := by
  obtain ⟨h1, h2⟩ := h
  have h0 : ¬ x < 0 := fun z => by
    rw [lt_t] at z; rw [le_t] at h1
    have t1 : (48 : Int32).toInt = 48 := by decide
    have t0 : (0 : Int32).toInt = 0 := by decide
    omega
  obtain ⟨k, hk, rfl⟩ := nI_of2 (n := 57) (by decide) h0 h2
  have : 48 ≤ k := (nI_leI (a := 48) (by decide) (by omega)).mp h1
  exact ⟨k - 48, by omega, congrArg nI (by omega)⟩
theorem nm_val {sg : Nat → Int32} {i j : Nat} {x : Int32} (h : nm sg i = some (x, j)) : (∃ a, a ≤ 99 ∧ x = nI a) ∧ j ≤ i + 2 ∧ i < j := by
  unfold nm at h
  by_cases h1 : 48 ≤ sg i ∧ sg i ≤ 57
  · rw [if_pos h1] at h
    obtain ⟨a, ha, ea⟩ := dg_num h1
    have e1 : sg i - 48 = nI a := by rw [ea, show (48 : Int32) = nI 48 from rfl, pk_sub (by omega)]; exact congrArg nI (by omega)
    by_cases h2 : 48 ≤ sg (i + 1) ∧ sg (i + 1) ≤ 57
    · rw [if_pos h2] at h
      obtain ⟨b, hb, eb⟩ := dg_num h2
      have e2 : sg (i + 1) - 48 = nI b := by rw [eb, show (48 : Int32) = nI 48 from rfl, pk_sub (by omega)]; exact congrArg nI (by omega)
      cases h
      rw [e1, e2, show (10 : Int32) = nI 10 from rfl, pk_mul, nI_add]
      exact ⟨⟨a * 10 + b, by omega, rfl⟩, by omega, by omega⟩
    · rw [if_neg h2] at h
      cases h
      exact ⟨⟨a, by omega, e1⟩, by omega, by omega⟩
  · rw [if_neg h1] at h; cases h
/-- what reading leaves alone -/
def tk (T T2 : PS) : Prop := T2 0 = T 0 ∧ T2 2 0 = T 2 0 ∧ T2 2 1 = T 2 1
theorem tk.rf (T : PS) : tk T T := ⟨rfl, rfl, rfl⟩
theorem tk.tr {T T2 T3 : PS} (h : tk T T2) (h2 : tk T2 T3) : tk T T3 := ⟨h2.1.trans h.1, h2.2.1.trans h.2.1, h2.2.2.trans h.2.2⟩
theorem tk.tx {T T2 : PS} {t : Nat} {sg : Nat → Int32} (h : tk T T2) (hx : txR T t sg) : txR T2 t sg := ⟨h.2.1.trans hx.1, hx.2.1, fun i => by rw [h.1]; exact hx.2.2 i⟩
theorem tk_next (T : PS) (x : Int32) : tk T (wr T 2 2 x) := ⟨wr_ne (by decide), rfl, rfl⟩
theorem tk_num (T : PS) (k : Nat) (x : Int32) : tk T (wr T 1 k x) := ⟨wr_ne (by decide), rfl, rfl⟩
theorem rd_dig {T : PS} {t i : Nat} {sg : Nat → Int32} (h : txR T t sg) (hi : i < 1000) (e : T 2 2 = nI i) : f3_readDigit T = if 48 ≤ sg i ∧ sg i ≤ 57 then (sg i - 48, wr T 2 2 (nI (i + 1))) else (-1, T) := by
  unfold f3_readDigit
  dsimp only [sq]
  rw [sgn_here h hi e, e, show nI i + 1 = nI (i + 1) from nI_1 i]
  by_cases h1 : sg i < 48
  · rw [if_pos h1, if_neg (fun z => absurd h1 (Int32.not_lt.mpr z.1))]
  · rw [if_neg h1]
    by_cases h2 : sg i ≤ 57
    · rw [if_pos h2, if_pos ⟨Int32.not_lt.mp h1, h2⟩]
    · rw [if_neg h2, if_neg (fun z => h2 z.2)]
theorem dg_ne {x : Int32} (h : 48 ≤ x ∧ x ≤ 57) : x - 48 ≠ -1 := by
  obtain ⟨a, ha, ea⟩ := dg_num h
  rw [ea, show (48 : Int32) = nI 48 from rfl, pk_sub (by omega)]
  exact e_neg (by omega)
theorem rd_num {T : PS} {t i : Nat} {sg : Nat → Int32} (h : txR T t sg) (hi : i < 990) (e : T 2 2 = nI i) : ∃ r T2, f3_readNumber T = (r, T2) ∧ tk T T2 ∧ T2 1 = T 1 ∧ ((nm sg i = none ∧ r = -1) ∨ ∃ j, nm sg i = some (r, j) ∧ r ≠ -1 ∧ T2 2 2 = nI j) := by
  unfold f3_readNumber nm
  dsimp only [sq2]
  rw [rd_dig h (by omega) e]
  by_cases h1 : 48 ≤ sg i ∧ sg i ≤ 57
  · rw [if_pos h1, if_pos h1]
    dsimp only
    rw [if_neg (dg_ne h1), rd_dig ((tk_next T (nI (i + 1))).tx h) (i := i + 1) (by omega) rfl]
    by_cases h2 : 48 ≤ sg (i + 1) ∧ sg (i + 1) ≤ 57
    · rw [if_pos h2, if_pos h2]
      dsimp only
      rw [if_neg (dg_ne h2)]
      refine ⟨_, _, rfl, (tk_next _ _).tr (tk_next _ _), ?_, Or.inr ⟨i + 2, rfl, ?_, rfl⟩⟩
      · rw [wr_ne (by decide), wr_ne (by decide)]
      · obtain ⟨a, ha, ea⟩ := dg_num h1
        obtain ⟨b, hb, eb⟩ := dg_num h2
        rw [ea, eb, show (48 : Int32) = nI 48 from rfl, pk_sub (by omega), pk_sub (by omega), show (10 : Int32) = nI 10 from rfl, pk_mul, nI_add]
        exact e_neg (by omega)
    · rw [if_neg h2, if_neg h2]
      dsimp only
      rw [if_pos (show (-1 : Int32) = -1 from rfl)]
      exact ⟨_, _, rfl, tk_next _ _, wr_ne (by decide), Or.inr ⟨i + 1, rfl, dg_ne h1, rfl⟩⟩
  · rw [if_neg h1, if_neg h1]
    dsimp only
    rw [if_pos (show (-1 : Int32) = -1 from rfl)]
    exact ⟨_, _, rfl, tk.rf T, rfl, Or.inl ⟨rfl, rfl⟩⟩
theorem ps_at {T : PS} {t i : Nat} {sg : Nat → Int32} (h : txR T t sg) (hi : i < 1000) (e : T 2 2 = nI i) (c : Int32) : f3_passes T c = if sg i = c then (1, wr T 2 2 (nI (i + 1))) else (0, T) := by
  unfold f3_passes
  dsimp only [sq]
  rw [sgn_here h hi e, e, show nI i + 1 = nI (i + 1) from nI_1 i]
/-- the class, behind a number: the numbers that are still due, and the end -/
theorem rd_tail {t d : Nat} {sg : Nat → Int32} (p : Int32) (hd : d ≤ 3) : ∀ rem k n i : Nat, ∀ T : PS, 0 < k → k + rem = d → n + k = 3 → i + 10 * rem < 900 → txR T t sg → T 2 2 = nI i → ∃ r T2, f3_readOrder_L41 p (nI d) n k T = (r, T2) ∧ tk T T2 ∧ ((tl sg rem i = none ∧ r = 0) ∨ ∃ l e, tl sg rem i = some (l, e) ∧ r = 1 ∧ T2 2 2 = nI e ∧ (∀ q, q < k → T2 1 q = T 1 q) ∧ ∀ q, q < rem → T2 1 (k + q) = l.getD q 0) := by
  intro rem
  induction rem with
  | zero =>
    intro k n i T hk hkd hn hi h e
    have end_ : ∃ r T2, f3_passes T 59 = (r, T2) ∧ tk T T2 ∧ ((tl sg 0 i = none ∧ r = 0) ∨ ∃ l e, tl sg 0 i = some (l, e) ∧ r = 1 ∧ T2 2 2 = nI e ∧ (∀ q, q < k → T2 1 q = T 1 q) ∧ ∀ q, q < 0 → T2 1 (k + q) = l.getD q 0) := by
      rw [ps_at h (by omega) e]
      unfold tl
      by_cases z : sg i = 59
      · rw [if_pos z, if_pos z]
        exact ⟨_, _, rfl, tk_next _ _, Or.inr ⟨[], i + 1, rfl, rfl, rfl, fun q _ => by rw [wr_ne (by decide)], fun q hq => absurd hq (Nat.not_lt_zero q)⟩⟩
      · rw [if_neg z, if_neg z]
        exact ⟨_, _, rfl, tk.rf T, Or.inl ⟨rfl, rfl⟩⟩
    cases n with
    | zero =>
      rw [f3_readOrder_L41]
      dsimp only [sq2]
      rw [ite_self]; exact end_
    | succ n =>
      rw [f3_readOrder_L41, if_pos (nI_le (by omega) (by omega))]
      exact end_
  | succ rem ih =>
    intro k n i T hk hkd hn hi h e
    obtain ⟨n, rfl⟩ : ∃ m, n = m + 1 := ⟨n - 1, by omega⟩
    rw [f3_readOrder_L41, if_neg (nI_ge (by omega) (by omega)), if_neg (nI_nle hk (by omega)), ps_at h (by omega) e]
    dsimp only [sq, sq2]
    unfold tl
    by_cases z : sg i = 44
    · rw [if_pos z, if_pos z]
      dsimp only
      rw [if_neg ne10]
      obtain ⟨r, T2, h1, h2, h3, h4⟩ := rd_num ((tk_next T (nI (i + 1))).tx h) (i := i + 1) (by omega) rfl
      rw [h1]
      dsimp only
      have rk : (wr T2 1 k r) 1 k = r := pk_us (f := T2 1)
      rw [rk]
      have tkk : tk T (wr T2 1 k r) := ((tk_next T _).tr h2).tr (tk_num _ _ _)
      rcases h4 with ⟨h5, h6⟩ | ⟨j, h5, h6, h7⟩
      · rw [h5, if_pos h6]
        exact ⟨_, _, rfl, tkk, Or.inl ⟨rfl, rfl⟩⟩
      · rw [h5, if_neg h6]
        obtain ⟨_, j2, _⟩ := nm_val h5
        obtain ⟨r2, T3, g1, g2, g3⟩ := ih (k + 1) n j (wr T2 1 k r) (by omega) (by omega) (by omega) (by omega) (tkk.tx h) h7
        refine ⟨r2, T3, g1, tkk.tr g2, ?_⟩
        rcases g3 with ⟨g4, g5⟩ | ⟨l, e2, g4, g5, g6, g7, g8⟩
        · left; refine ⟨?_, g5⟩
          show ((tl sg rem j).map _) = none
          rw [g4]; rfl
        · right
          refine ⟨r :: l, e2, ?_, g5, g6, fun q hq => ?_, fun q hq => ?_⟩
          · show ((tl sg rem j).map _) = some (r :: l, e2)
            rw [g4]; rfl
          · rw [g7 q (by omega)]
            show upd (T2 1) k r q = T 1 q
            rw [pk_un (by omega), h3, wr_ne (by decide)]
          · cases q with
            | zero => rw [Nat.add_zero, g7 k (by omega)]; exact pk_us (f := T2 1)
            | succ q => rw [show k + (q + 1) = (k + 1) + q by omega, g8 q (by omega)]; rfl
    · rw [if_neg z, if_neg z]
      dsimp only
      rw [if_pos (show (0 : Int32) = 0 from rfl)]
      exact ⟨_, _, rfl, tk.rf T, Or.inl ⟨rfl, rfl⟩⟩
/-- the class reads the numbers of an order -/
theorem rd_head {t d : Nat} {sg : Nat → Int32} (p : Int32) (hd0 : 0 < d) (hd : d ≤ 3) {i : Nat} {T : PS} (hi : i < 500) (h : txR T t sg) (e : T 2 2 = nI i) : ∃ r T2, f3_readOrder_L41 p (nI d) 3 0 T = (r, T2) ∧ tk T T2 ∧ ((hdn sg (d - 1) i = none ∧ r = 0) ∨ ∃ l e, hdn sg (d - 1) i = some (l, e) ∧ r = 1 ∧ T2 2 2 = nI e ∧ ∀ q, q < d → T2 1 q = l.getD q 0) := by
  rw [f3_readOrder_L41, if_neg (nI_ge (by omega) (by omega)), if_pos (show nI 0 ≤ 0 by decide)]
  dsimp only [sq, sq2]
  obtain ⟨r, T2, h1, h2, h3, h4⟩ := rd_num h (i := i) (by omega) e
  rw [h1]
  dsimp only
  have rk : (wr T2 1 0 r) 1 0 = r := pk_us (f := T2 1) (k := 0) (x := r)
  rw [rk]
  have tkk : tk T (wr T2 1 0 r) := h2.tr (tk_num _ _ _)
  unfold hdn
  rcases h4 with ⟨h5, h6⟩ | ⟨j, h5, h6, h7⟩
  · rw [h5, if_pos h6]
    exact ⟨_, _, rfl, tkk, Or.inl ⟨rfl, rfl⟩⟩
  · rw [h5, if_neg h6]
    obtain ⟨_, j2, _⟩ := nm_val h5
    obtain ⟨r2, T3, g1, g2, g3⟩ := rd_tail p hd (d - 1) 1 2 j (wr T2 1 0 r) (by omega) (by omega) rfl (by omega) (tkk.tx h) h7
    refine ⟨r2, T3, g1, tkk.tr g2, ?_⟩
    rcases g3 with ⟨g4, g5⟩ | ⟨l, e2, g4, g5, g6, g7, g8⟩
    · left; refine ⟨?_, g5⟩
      show ((tl sg (d - 1) j).map _) = none
      rw [g4]; rfl
    · right
      refine ⟨r :: l, e2, ?_, g5, g6, fun q hq => ?_⟩
      · show ((tl sg (d - 1) j).map _) = some (r :: l, e2)
        rw [g4]; rfl
      · cases q with
        | zero => rw [g7 0 (by omega)]; exact rk
        | succ q => rw [show q + 1 = 1 + q by omega, g8 q (by omega), show 1 + q = q + 1 by omega]; rfl
