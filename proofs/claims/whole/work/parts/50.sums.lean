/-! Sums of numbers, and what loops come to. -/
def sm (g : Nat → Nat) : Nat → Nat → Nat
  | 0, _ => 0
  | n + 1, i => g i + sm g n (i + 1)
theorem sm_congr {g h : Nat → Nat} : ∀ n i : Nat, (∀ k, i ≤ k → k < i + n → g k = h k) → sm g n i = sm h n i := by
  intro n
  induction n with
  | zero => intro i _; rfl
  | succ n ih =>
    intro i hk
    show g i + sm g n (i + 1) = h i + sm h n (i + 1)
    rw [hk i (Nat.le_refl i) (by omega), ih (i + 1) (fun k h1 h2 => hk k (by omega) (by omega))]
theorem sm_le {g : Nat → Nat} (c : Nat) : ∀ n i : Nat, (∀ k, i ≤ k → k < i + n → g k ≤ c) → sm g n i ≤ c * n := by
  intro n
  induction n with
  | zero => intro i _; exact Nat.zero_le _
  | succ n ih =>
    intro i hk
    show g i + sm g n (i + 1) ≤ c * (n + 1)
    have h1 := hk i (Nat.le_refl i) (by omega)
    have h2 := ih (i + 1) (fun k h1 h2 => hk k (by omega) (by omega))
    rw [Nat.mul_succ]; omega
theorem sm_zero {g : Nat → Nat} (n i : Nat) (h : ∀ k, i ≤ k → k < i + n → g k = 0) : sm g n i = 0 := by
  have := sm_le 0 n i (fun k h1 h2 => Nat.le_of_eq (h k h1 h2))
  omega
theorem sm_split {g : Nat → Nat} (b : Nat) : ∀ a i : Nat, sm g (a + b) i = sm g a i + sm g b (i + a) := by
  intro a
  induction a with
  | zero => intro i; rw [Nat.zero_add]; show _ = 0 + _; rw [Nat.zero_add]; rfl
  | succ a ih =>
    intro i
    rw [show a + 1 + b = (a + b) + 1 by omega]
    show g i + sm g (a + b) (i + 1) = g i + sm g a (i + 1) + sm g b (i + (a + 1))
    rw [ih (i + 1), show i + 1 + a = i + (a + 1) by omega]; omega
theorem sm_shift {g : Nat → Nat} (c : Nat) : ∀ n i : Nat, sm (fun k => g (c + k)) n i = sm g n (c + i) := by
  intro n
  induction n with
  | zero => intro i; rfl
  | succ n ih =>
    intro i
    show g (c + i) + sm (fun k => g (c + k)) n (i + 1) = g (c + i) + sm g n (c + i + 1)
    rw [ih (i + 1), Nat.add_assoc]
theorem sm_plus {g h : Nat → Nat} : ∀ n i : Nat, sm (fun k => g k + h k) n i = sm g n i + sm h n i := by
  intro n
  induction n with
  | zero => intro i; rfl
  | succ n ih =>
    intro i
    show g i + h i + sm (fun k => g k + h k) n (i + 1) = g i + sm g n (i + 1) + (h i + sm h n (i + 1))
    rw [ih (i + 1)]; omega
theorem sm_comm {g : Nat → Nat → Nat} (n i : Nat) : ∀ m j : Nat, sm (fun p => sm (fun q => g p q) n i) m j = sm (fun q => sm (fun p => g p q) m j) n i := by
  intro m
  induction m with
  | zero => intro j; exact (sm_zero n i (fun _ _ _ => rfl)).symm
  | succ m ih =>
    intro j
    show sm (fun q => g j q) n i + sm (fun p => sm (fun q => g p q) n i) m (j + 1) = sm (fun q => g j q + sm (fun p => g p q) m (j + 1)) n i
    rw [ih (j + 1), sm_plus]
theorem sm_blocks {g : Nat → Nat} (m : Nat) : ∀ n i : Nat, sm (fun v => sm g m (m * v)) n i = sm g (m * n) (m * i) := by
  intro n
  induction n with
  | zero => intro i; rfl
  | succ n ih =>
    intro i
    show sm g m (m * i) + sm (fun v => sm g m (m * v)) n (i + 1) = sm g (m * (n + 1)) (m * i)
    rw [ih (i + 1), show m * (n + 1) = m + m * n by rw [Nat.mul_succ]; omega, sm_split, show m * (i + 1) = m * i + m from Nat.mul_succ m i]
theorem sm_one {g h : Nat → Nat} (k0 : Nat) : ∀ n i : Nat, i ≤ k0 → k0 < i + n → (∀ k, i ≤ k → k < i + n → k ≠ k0 → g k = h k) → sm g n i + h k0 = sm h n i + g k0 := by
  intro n
  induction n with
  | zero => intro i h1 h2; omega
  | succ n ih =>
    intro i h1 h2 hk
    show g i + sm g n (i + 1) + h k0 = h i + sm h n (i + 1) + g k0
    by_cases hi : i = k0
    · subst hi
      rw [sm_congr n (i + 1) (fun k q1 q2 => hk k (by omega) (by omega) (by omega))]; omega
    · have := ih (i + 1) (by omega) (by omega) (fun k q1 q2 q3 => hk k (by omega) (by omega) q3)
      rw [hk i (Nat.le_refl i) (by omega) hi]; omega
theorem sm_ge {g : Nat → Nat} (k0 : Nat) : ∀ n i : Nat, i ≤ k0 → k0 < i + n → g k0 ≤ sm g n i := by
  intro n
  induction n with
  | zero => intro i h1 h2; omega
  | succ n ih =>
    intro i h1 h2
    show g k0 ≤ g i + sm g n (i + 1)
    by_cases hi : i = k0
    · subst hi; omega
    · have := ih (i + 1) (by omega) (by omega); omega
theorem sm_mono {g h : Nat → Nat} : ∀ n i : Nat, (∀ k, i ≤ k → k < i + n → g k ≤ h k) → sm g n i ≤ sm h n i := by
  intro n
  induction n with
  | zero => intro i _; exact Nat.le_refl _
  | succ n ih =>
    intro i hk
    show g i + sm g n (i + 1) ≤ h i + sm h n (i + 1)
    have h1 := hk i (Nat.le_refl i) (by omega)
    have h2 := ih (i + 1) (fun k h1 h2 => hk k (by omega) (by omega))
    omega
/-- a positive sum has a positive number in it -/
theorem sm_pos {g : Nat → Nat} : ∀ n i : Nat, 0 < sm g n i → ∃ k, i ≤ k ∧ k < i + n ∧ 0 < g k := by
  intro n
  induction n with
  | zero => intro i h; exact absurd h (Nat.lt_irrefl 0)
  | succ n ih =>
    intro i h
    by_cases hi : 0 < g i
    · exact ⟨i, Nat.le_refl i, by omega, hi⟩
    · have h2 : 0 < g i + sm g n (i + 1) := h
      obtain ⟨k, k1, k2, k3⟩ := ih (i + 1) (by omega)
      exact ⟨k, by omega, by omega, k3⟩
/-- a loop that adds -/
theorem sm_loop {L : Nat → Nat → Int32 → Int32} {g : Nat → Nat} (N : Nat) (h0 : ∀ i x, L 0 i x = x) (h1 : ∀ n i x, i < N → L (n + 1) i x = L n (i + 1) (x + nI (g i))) : ∀ n i a : Nat, i + n ≤ N → L n i (nI a) = nI (a + sm g n i) := by
  intro n
  induction n with
  | zero => intro i a _; exact h0 i _
  | succ n ih =>
    intro i a hi
    rw [h1 n i _ (by omega), nI_add, ih (i + 1) _ (by omega)]
    show nI (a + g i + sm g n (i + 1)) = nI (a + (g i + sm g n (i + 1)))
    rw [Nat.add_assoc]
theorem e_add0 (x : Int32) : x + nI 0 = x := Int32.add_zero x
theorem e_n0 : (0 : Int32) = nI 0 := rfl
/-- a loop that joins sets -/
def so (g : Nat → Int32) : Nat → Nat → Int32
  | 0, _ => 0
  | n + 1, i => g i ||| so g n (i + 1)
theorem so_congr {g h : Nat → Int32} : ∀ n i : Nat, (∀ k, i ≤ k → k < i + n → g k = h k) → so g n i = so h n i := by
  intro n
  induction n with
  | zero => intro i _; rfl
  | succ n ih =>
    intro i hk
    show g i ||| so g n (i + 1) = h i ||| so h n (i + 1)
    rw [hk i (Nat.le_refl i) (by omega), ih (i + 1) (fun k h1 h2 => hk k (by omega) (by omega))]
theorem so_loop {L : Nat → Nat → Int32 → Int32} {g : Nat → Int32} (N : Nat) (h0 : ∀ i x, L 0 i x = x) (h1 : ∀ n i x, i < N → L (n + 1) i x = L n (i + 1) (x ||| g i)) : ∀ n i x, i + n ≤ N → L n i x = x ||| so g n i := by
  intro n
  induction n with
  | zero => intro i x _; rw [h0 i _]; exact Int32.or_zero.symm
  | succ n ih =>
    intro i x hi
    rw [h1 n i _ (by omega), ih (i + 1) _ (by omega)]
    show x ||| g i ||| so g n (i + 1) = x ||| (g i ||| so g n (i + 1))
    exact Int32.or_assoc _ _ _
/-! Numbers and their order. -/
theorem e_m1 : ¬ (0 : Int32) ≤ -1 := by decide
theorem e_neg {k : Nat} (h : k < 2 ^ 31) : nI k ≠ -1 := fun q => by
  have h1 := nI_toInt h
  rw [q] at h1
  have h2 : (-1 : Int32).toInt = -1 := by decide
  rw [h2] at h1
  omega
theorem e_inj {a b : Nat} (ha : a < 2 ^ 31) (hb : b < 2 ^ 31) (h : nI a = nI b) : a = b := (nI_eq ha hb).mp h
