/-! The pool and the model's row: what agrees, and what holds of the pool. -/
theorem lt_t {x y : Int32} : x < y ↔ x.toInt < y.toInt := Int32.lt_iff_toInt_lt
theorem le_t {x y : Int32} : x ≤ y ↔ x.toInt ≤ y.toInt := Int32.le_iff_toInt_le
theorem nge8 {v : Nat} (h : v < 8) : ¬ (8 : Int32) ≤ nI v := nI_ge (b := 8) h (by decide)
theorem nge40 {v : Nat} (h : v < 40) : ¬ (40 : Int32) ≤ nI v := nI_ge (b := 40) h (by decide)
theorem nge30 {v : Nat} (h : v < 30) : ¬ (30 : Int32) ≤ nI v := nI_ge (b := 30) h (by decide)
theorem st_a {α : Type} {P : Prop} [Decidable P] {F : Int32 → α} {x : Int32} : (if P then F (x + 1) else F x) = F (x + nI (if P then 1 else 0)) := by
  by_cases h : P
  · rw [if_pos h, if_pos h]; rfl
  · rw [if_neg h, if_neg h, e_add0]
theorem st_b {α : Type} {P : Prop} [Decidable P] {F : Int32 → α} {x : Int32} : (if P then F x else F (x + 1)) = F (x + nI (if P then 0 else 1)) := by
  by_cases h : P
  · rw [if_pos h, if_pos h, e_add0]
  · rw [if_neg h, if_neg h]; rfl
theorem st_c {α : Type} {P : Prop} [Decidable P] {F : Int32 → α} {x : Int32} : (if P then F (x + 1) else F (x + 0)) = F (x + nI (if P then 1 else 0)) := by
  by_cases h : P
  · rw [if_pos h, if_pos h]; rfl
  · rw [if_neg h, if_neg h]; rfl
theorem st_d {α : Type} {P : Prop} [Decidable P] {F : Int32 → α} {x : Int32} : (if P then F (x + 0) else F (x + 1)) = F (x + nI (if P then 0 else 1)) := by
  by_cases h : P
  · rw [if_pos h, if_pos h]; rfl
  · rw [if_neg h, if_neg h]; rfl
/-! the model's places -/
theorem e_ix {v j : Nat} (hv : v < 8) (hj : j < 47) : (((67 : Int32) + ((47 : Int32) * nI v)) + nI j).toNatClampNeg = 67 + 47 * v + j := by
  have h : (67 : Int32) + (47 : Int32) * nI v + nI j = nI (67 + 47 * v + j) := by
    rw [show (67 : Int32) = nI 67 from rfl, show (47 : Int32) = nI 47 from rfl, pk_mul, nI_add, nI_add]
  rw [h, nI_clamp (by omega)]
section OFS
variable {μ : PS} {v : Nat} (hv : v < 8)
theorem e_of {μ : PS} {v : Nat} (hv : v < 8) {j : Nat} (hj : j < 47) : f6_of μ (nI v) (nI j) = μ 0 (67 + 47 * v + j) := by unfold f6_of; rw [e_ix hv hj]
theorem e_of0 {μ : PS} {v : Nat} (hv : v < 8) : f6_of μ (nI v) 0 = μ 0 (67 + 47 * v) := e_of hv (j := 0) (by decide)
theorem e_of1 {μ : PS} {v : Nat} (hv : v < 8) : f6_of μ (nI v) 1 = μ 0 (68 + 47 * v) := (e_of hv (j := 1) (by decide)).trans (congrArg (μ 0) (by omega))
theorem e_of2 {μ : PS} {v : Nat} (hv : v < 8) : f6_of μ (nI v) 2 = μ 0 (69 + 47 * v) := (e_of hv (j := 2) (by decide)).trans (congrArg (μ 0) (by omega))
theorem e_of3 {μ : PS} {v : Nat} (hv : v < 8) : f6_of μ (nI v) 3 = μ 0 (70 + 47 * v) := (e_of hv (j := 3) (by decide)).trans (congrArg (μ 0) (by omega))
theorem e_of4 {μ : PS} {v : Nat} (hv : v < 8) : f6_of μ (nI v) 4 = μ 0 (71 + 47 * v) := (e_of hv (j := 4) (by decide)).trans (congrArg (μ 0) (by omega))
theorem e_of5 {μ : PS} {v : Nat} (hv : v < 8) : f6_of μ (nI v) 5 = μ 0 (72 + 47 * v) := (e_of hv (j := 5) (by decide)).trans (congrArg (μ 0) (by omega))
theorem e_of6 {μ : PS} {v : Nat} (hv : v < 8) : f6_of μ (nI v) 6 = μ 0 (73 + 47 * v) := (e_of hv (j := 6) (by decide)).trans (congrArg (μ 0) (by omega))
theorem e_piece {μ : PS} {v : Nat} (hv : v < 8) {k : Nat} (hk : k < 40) : f6_piece μ (nI v) (nI k) = μ 0 (74 + 47 * v + k) := by
  unfold f6_piece
  rw [show (7 : Int32) + nI k = nI (7 + k) from nI_add 7 k, e_of hv (by omega)]
  exact congrArg (μ 0) (by omega)
theorem e_puts {μ : PS} {v : Nat} (hv : v < 8) {j : Nat} (hj : j < 47) {x : Int32} : f6_puts μ (nI v) (nI j) x = wr μ 0 (67 + 47 * v + j) x := by
  unfold f6_puts; dsimp only [sq]; rw [e_ix hv hj]
theorem e_puts0 {μ : PS} {v : Nat} (hv : v < 8) {x : Int32} : f6_puts μ (nI v) 0 x = wr μ 0 (67 + 47 * v) x := e_puts hv (j := 0) (by decide)
theorem e_puts1 {μ : PS} {v : Nat} (hv : v < 8) {x : Int32} : f6_puts μ (nI v) 1 x = wr μ 0 (68 + 47 * v) x := (e_puts hv (j := 1) (by decide)).trans (congrArg (fun i => wr μ 0 i x) (by omega))
theorem e_puts2 {μ : PS} {v : Nat} (hv : v < 8) {x : Int32} : f6_puts μ (nI v) 2 x = wr μ 0 (69 + 47 * v) x := (e_puts hv (j := 2) (by decide)).trans (congrArg (fun i => wr μ 0 i x) (by omega))
theorem e_puts3 {μ : PS} {v : Nat} (hv : v < 8) {x : Int32} : f6_puts μ (nI v) 3 x = wr μ 0 (70 + 47 * v) x := (e_puts hv (j := 3) (by decide)).trans (congrArg (fun i => wr μ 0 i x) (by omega))
theorem e_puts4 {μ : PS} {v : Nat} (hv : v < 8) {x : Int32} : f6_puts μ (nI v) 4 x = wr μ 0 (71 + 47 * v) x := (e_puts hv (j := 4) (by decide)).trans (congrArg (fun i => wr μ 0 i x) (by omega))
theorem e_puts5 {μ : PS} {v : Nat} (hv : v < 8) {x : Int32} : f6_puts μ (nI v) 5 x = wr μ 0 (72 + 47 * v) x := (e_puts hv (j := 5) (by decide)).trans (congrArg (fun i => wr μ 0 i x) (by omega))
theorem e_puts6 {μ : PS} {v : Nat} (hv : v < 8) {x : Int32} : f6_puts μ (nI v) 6 x = wr μ 0 (73 + 47 * v) x := (e_puts hv (j := 6) (by decide)).trans (congrArg (fun i => wr μ 0 i x) (by omega))
theorem e_putp {μ : PS} {v : Nat} (hv : v < 8) {k : Nat} (hk : k < 40) {x : Int32} : f6_puts μ (nI v) (nI (7 + k)) x = wr μ 0 (74 + 47 * v + k) x := (e_puts hv (j := 7 + k) (by omega)).trans (congrArg (fun i => wr μ 0 i x) (by omega))
theorem e_putq {μ : PS} {v : Nat} (hv : v < 8) {k : Nat} (hk : k < 40) {x : Int32} : f6_puts μ (nI v) ((7 : Int32) + nI k) x = wr μ 0 (74 + 47 * v + k) x := by
  rw [show (7 : Int32) + nI k = nI (7 + k) from nI_add 7 k]; exact e_putp hv hk
end OFS
/-! the relation -/
def qL (u : PS) (s : Nat → Int32) : Prop := ∀ v, v < 8 → (0 < u 0 v ∧ s (67 + 47 * v) = 1) ∨ (u 0 v = 0 ∧ s (67 + 47 * v) = 0)
def qV (u : PS) (s : Nat → Int32) : Prop := ∀ v, v < 8 → 0 < u 0 v → s (68 + 47 * v) = u 0 v ∧ s (69 + 47 * v) = u 1 v ∧ s (70 + 47 * v) = u 2 v ∧ s (71 + 47 * v) = u 3 v ∧ s (72 + 47 * v) = u 4 v ∧ s (73 + 47 * v) = u 5 v
def qP (u : PS) (s : Nat → Int32) : Prop := ∀ v k, v < 8 → k < 40 → 0 < u 0 v → s (74 + 47 * v + k) = u 6 (40 * v + k)
def qD (u : PS) (s : Nat → Int32) : Prop := ∀ p, p < 30 → s (7 + p) = u 7 p
def qE (u : PS) (s : Nat → Int32) : Prop := ∀ i, i < 3 → s i = u 9 i
def qS (u : PS) (s : Nat → Int32) : Prop := s 3 = u 13 0 ∧ s 4 = u 13 1 ∧ s 5 = u 13 2 ∧ s 6 = u 13 3
def qW (u : PS) (s : Nat → Int32) : Prop := ∀ i, i < 10 → s (37 + 3 * i) = u 10 i ∧ s (38 + 3 * i) = u 11 i ∧ s (39 + 3 * i) = u 12 i
def qM (s : Nat → Int32) : Prop := (∀ a : Nat, a < 8 → (s (68 + 47 * a)).toInt ≤ 40) ∧ ∀ a k : Nat, a < 8 → k < 40 → (s (74 + 47 * a + k)).toInt < 30
def qR (u : PS) (s : Nat → Int32) : Prop := qL u s ∧ qV u s ∧ qP u s ∧ qD u s ∧ qE u s ∧ qS u s ∧ qW u s ∧ qM s
/-! what holds of the pool -/
def own (u : PS) (x : Int32) : Nat := sm (fun q => if u 6 q = x then 1 else 0) 320 0
def fre (u : PS) : Nat := sm (fun p => if u 8 p = 0 then 1 else 0) 30 0
def prs (u : PS) : Nat := sm (fun v => (u 2 v).toNatClampNeg) 8 0
def iS (u : PS) : Prop := ∀ v, v < 8 → vp_in (u 0 v) 41
def iP (u : PS) : Prop := ∀ v k, v < 8 → k < 40 → u 6 (40 * v + k) = -1 ∨ (vp_in (u 6 (40 * v + k)) 30 ∧ nI k < u 0 v)
def iM (u : PS) : Prop := ∀ v, v < 8 → vp_in (u 1 v) 101
def iQ (u : PS) : Prop := ∀ v, v < 8 → vp_in (u 2 v) 31 ∧ (u 0 v = 0 → u 2 v = 0)
def iA (u : PS) : Prop := ∀ v, v < 8 → u 3 v = -1 ∨ (0 < u 0 v ∧ ∃ w, w < 8 ∧ u 3 v = nI w ∧ 0 < u 0 w)
def iT (u : PS) : Prop := ∃ rk : Nat → Nat, ∀ v w, v < 8 → w < 8 → u 3 v = nI w → rk w < rk v
def iO (u : PS) : Prop := ∀ p, p < 30 → u 8 p = nI (own u (nI p))
def iF (u : PS) : Prop := prs u ≤ fre u
def iK (u : PS) : Prop := vp_in (u 13 3) 11 ∧ ∀ j, j < 3 → vp_in (u 9 j) 101
def iI (u : PS) : Prop := iS u ∧ iP u ∧ iM u ∧ iQ u ∧ iA u ∧ iT u ∧ iO u ∧ iF u ∧ iK u
def RI (u : PS) (s : Nat → Int32) : Prop := qR u s ∧ iI u
section RIP
variable {u : PS} {s : Nat → Int32}
theorem RI.L (h : RI u s) : qL u s := h.1.1
theorem RI.V (h : RI u s) : qV u s := h.1.2.1
theorem RI.P (h : RI u s) : qP u s := h.1.2.2.1
theorem RI.D (h : RI u s) : qD u s := h.1.2.2.2.1
theorem RI.E (h : RI u s) : qE u s := h.1.2.2.2.2.1
theorem RI.S (h : RI u s) : qS u s := h.1.2.2.2.2.2.1
theorem RI.W (h : RI u s) : qW u s := h.1.2.2.2.2.2.2.1
theorem RI.M (h : RI u s) : qM s := h.1.2.2.2.2.2.2.2
theorem RI.iS (h : RI u s) : iS u := h.2.1
theorem RI.iP (h : RI u s) : iP u := h.2.2.1
theorem RI.iM (h : RI u s) : iM u := h.2.2.2.1
theorem RI.iQ (h : RI u s) : iQ u := h.2.2.2.2.1
theorem RI.iA (h : RI u s) : iA u := h.2.2.2.2.2.1
theorem RI.iT (h : RI u s) : iT u := h.2.2.2.2.2.2.1
theorem RI.iO (h : RI u s) : iO u := h.2.2.2.2.2.2.2.1
theorem RI.iF (h : RI u s) : iF u := h.2.2.2.2.2.2.2.2.1
theorem RI.iK (h : RI u s) : iK u := h.2.2.2.2.2.2.2.2.2
end RIP
/-! which volumes there are -/
theorem e_size {u : PS} (h : iS u) {v : Nat} (hv : v < 8) : ∃ n, n ≤ 40 ∧ u 0 v = nI n := by
  obtain ⟨n, h1, h2⟩ := vp_in_of (h v hv) (by decide)
  exact ⟨n, by omega, h2⟩
theorem e_lives {u : PS} {v : Nat} (hv : v < 8) : f1_lives u (nI v) = if 0 < u 0 v then 1 else 0 := by
  unfold f1_lives
  rw [if_neg (nI_pos (by omega)), if_neg (nge8 hv), nI_clamp (by omega)]
  by_cases h : 0 < u 0 v
  · rw [if_pos h, if_neg (Int32.not_le.mpr h)]
  · rw [if_neg h, if_pos (Int32.not_lt.mp h)]
theorem e_lives1 {u : PS} {v : Nat} (hv : v < 8) (h : 0 < u 0 v) : f1_lives u (nI v) = 1 := by rw [e_lives hv, if_pos h]
theorem e_lives0 {u : PS} {v : Nat} (hv : v < 8) (h : u 0 v = 0) : f1_lives u (nI v) = 0 := by rw [e_lives hv, h, if_neg (by decide)]
theorem e_liv (u : PS) (p : Int32) : f1_lives u p = 0 ∨ ∃ v, v < 8 ∧ p = nI v ∧ 0 < u 0 v ∧ f1_lives u p = 1 := by
  rcases pk_ix p (n := 8) (by decide) with h1 | h1 | ⟨v, hv, rfl⟩
  · left; unfold f1_lives; rw [if_pos h1]
  · left; unfold f1_lives
    by_cases h2 : p < 0
    · rw [if_pos h2]
    · rw [if_neg h2, if_pos (show (8 : Int32) ≤ p from h1)]
  · by_cases h : 0 < u 0 v
    · exact Or.inr ⟨v, hv, rfl, h, e_lives1 hv h⟩
    · left; rw [e_lives hv, if_neg h]
theorem e_isVol {u μ : PS} (h : qL u (μ 0)) (p : Int32) : f6_isVolume μ p = f1_lives u p := by
  rcases pk_ix p (n := 8) (by decide) with h1 | h1 | ⟨v, hv, rfl⟩
  · unfold f6_isVolume f6_in f1_lives; rw [if_pos h1, if_pos h1, if_pos rfl]
  · have h7 : (7 : Int32) < p := by
      rw [le_t] at h1; rw [lt_t]
      have t8 : (nI 8).toInt = 8 := by decide
      have t7 : (7 : Int32).toInt = 7 := by decide
      omega
    have h0 : ¬ p < 0 := by
      rw [lt_t] at h7 ⊢
      have t7 : (7 : Int32).toInt = 7 := by decide
      have t0 : (0 : Int32).toInt = 0 := by decide
      omega
    unfold f6_isVolume f6_in f1_lives
    rw [if_neg h0, if_pos h7, if_pos rfl, if_neg h0, if_pos (show (8 : Int32) ≤ p from h1)]
  · rw [e_lives hv]
    unfold f6_isVolume f6_in
    rw [if_neg (nI_pos (by omega)), if_neg (show ¬ (7 : Int32) < nI v from nI_nlt (a := 7) (by omega) (by decide)), if_neg (by decide), e_of0 hv]
    rcases h v hv with ⟨a, b⟩ | ⟨a, b⟩
    · rw [b, if_pos rfl, if_pos a]
    · rw [b, a, if_neg (by decide), if_neg (by decide)]
theorem e_dead {u : PS} (h : iP u) {v k : Nat} (hv : v < 8) (hk : k < 40) (hd : u 0 v = 0) : u 6 (40 * v + k) = -1 := by
  rcases h v k hv hk with q | ⟨_, q⟩
  · exact q
  · rw [hd] at q; exact absurd q (nI_pos (by omega))
theorem e_behind {u : PS} (h : iP u) {v k i : Nat} (hv : v < 8) (hk : k < 40) (hi : i ≤ k) (hd : u 0 v ≤ nI i) : u 6 (40 * v + k) = -1 := by
  rcases h v k hv hk with q | ⟨_, q⟩
  · exact q
  · rw [lt_t] at q; rw [le_t] at hd
    rw [nI_toInt (by omega)] at q hd
    omega
theorem e_ownIn {u μ : PS} (h : RI u (μ 0)) {v : Nat} (hv : v < 8) {x : Int32} (hx : x ≠ -1) : f6_ownersIn μ (nI v) x = nI (sm (fun k => if u 6 (40 * v + k) = x then 1 else 0) 40 0) := by
  unfold f6_ownersIn; dsimp only [sq]
  have K : ∀ n i a : Nat, i + n = 40 → f6_ownersIn_L5 μ (nI v) x n i (nI a) = nI (a + sm (fun k => if u 6 (40 * v + k) = x then 1 else 0) n i) := by
    intro n
    induction n with
    | zero => intro i a _; rw [f6_ownersIn_L5]; rfl
    | succ n ih =>
      intro i a hi
      rw [f6_ownersIn_L5, e_of1 hv, e_of0 hv, e_piece hv (by omega)]
      rcases h.L v hv with ⟨l1, l2⟩ | ⟨l1, l2⟩
      · rw [(h.V v hv l1).1, l2, h.P v i hv (by omega) l1]
        by_cases hs : u 0 v ≤ nI i
        · rw [if_pos hs, sm_zero (n + 1) i (fun k k1 k2 => if_neg (by rw [e_behind h.iP hv (by omega) k1 hs]; exact fun q => hx q.symm))]; rfl
        · rw [if_neg hs, if_pos rfl, st_c (F := f6_ownersIn_L5 μ (nI v) x n (i + 1)), nI_add, ih (i + 1) _ (by omega)]
          show nI (_ + _ + _) = nI (_ + (_ + _))
          rw [Nat.add_assoc]
      · rw [sm_zero (n + 1) i (fun k k1 k2 => if_neg (by rw [e_dead h.iP hv (by omega) l1]; exact fun q => hx q.symm))]
        rw [l2]
        by_cases hs : μ 0 (68 + 47 * v) ≤ nI i
        · rw [if_pos hs]; rfl
        · rw [if_neg hs, if_neg (by decide)]; rfl
  have := K 40 0 0 rfl
  rw [Nat.zero_add] at this
  exact this
theorem e_owners {u μ : PS} (h : RI u (μ 0)) {x : Int32} (hx : x ≠ -1) : f6_owners μ x = nI (own u x) := by
  unfold f6_owners; dsimp only [sq]
  have K := sm_loop (L := f6_owners_L4 μ x) (g := fun v => sm (fun k => if u 6 (40 * v + k) = x then 1 else 0) 40 0) 8 (fun i y => by rw [f6_owners_L4]) (fun n i y hi => by rw [f6_owners_L4, e_ownIn h hi hx]) 8 0 0 (by decide)
  rw [Nat.zero_add] at K
  refine Eq.trans K (congrArg nI ?_)
  have B := sm_blocks (g := fun q => if u 6 q = x then 1 else 0) 40 8 0
  unfold own
  rw [show (320 : Nat) = 40 * 8 from rfl, ← show 40 * 0 = 0 from rfl, ← B]
  exact sm_congr 8 0 (fun v _ _ => (sm_shift (g := fun q => if u 6 q = x then 1 else 0) (40 * v) 40 0))
theorem e_owners8 {u μ : PS} (h : RI u (μ 0)) {p : Nat} (hp : p < 30) : f6_owners μ (nI p) = u 8 p := (e_owners h (e_neg (by omega))).trans (h.iO p hp).symm
theorem own_le (u : PS) (x : Int32) : own u x ≤ 320 := by
  have := sm_le (g := fun q => if u 6 q = x then 1 else 0) 1 320 0 (fun k _ _ => by split <;> omega)
  unfold own; omega
/-! free pieces, promises, what is available, levels -/
theorem e_fre (u : PS) : f1_freePieces u = nI (fre u) := by
  unfold f1_freePieces; dsimp only [sq]
  have K := sm_loop (L := f1_freePieces_L4 u) (g := fun p => if u 8 p = 0 then 1 else 0) 30 (fun i y => by rw [f1_freePieces_L4]) (fun n i y hi => by rw [f1_freePieces_L4]; exact st_a (F := f1_freePieces_L4 u n (i + 1))) 30 0 0 (by decide)
  rw [Nat.zero_add] at K
  exact K
theorem e_free {u μ : PS} (h : RI u (μ 0)) : f6_free μ = nI (fre u) := by
  unfold f6_free; dsimp only [sq]
  have K := sm_loop (L := f6_free_L4 μ) (g := fun p => if u 8 p = 0 then 1 else 0) 30 (fun i y => by rw [f6_free_L4]) (fun n i y hi => by rw [f6_free_L4, e_owners8 h hi]; exact st_c (F := f6_free_L4 μ n (i + 1))) 30 0 0 (by decide)
  rw [Nat.zero_add] at K
  exact K
theorem fre_le (u : PS) : fre u ≤ 30 := by
  have := sm_le (g := fun p => if u 8 p = 0 then 1 else 0) 1 30 0 (fun k _ _ => by split <;> omega)
  unfold fre; omega
theorem e_num {x : Int32} {n : Nat} (h : vp_in x n) (hn : n < 2 ^ 31) : nI x.toNatClampNeg = x := by
  obtain ⟨k, h1, rfl⟩ := vp_in_of h hn
  rw [nI_clamp (by omega)]
theorem e_prs {u : PS} (h : iQ u) : f1_allPromises u = nI (prs u) := by
  unfold f1_allPromises; dsimp only [sq]
  have K := sm_loop (L := f1_allPromises_L4 u) (g := fun v => (u 2 v).toNatClampNeg) 8 (fun i y => by rw [f1_allPromises_L4]) (fun n i y hi => by rw [f1_allPromises_L4, e_num (h i hi).1 (by decide)]) 8 0 0 (by decide)
  rw [Nat.zero_add] at K
  exact K
theorem e_promises {u μ : PS} (h : RI u (μ 0)) : f6_promises μ = nI (prs u) := by
  unfold f6_promises; dsimp only [sq]
  have K := sm_loop (L := f6_promises_L4 μ) (g := fun v => (u 2 v).toNatClampNeg) 8 (fun i y => by rw [f6_promises_L4]) (fun n i y hi => by
    rw [f6_promises_L4, e_of0 hi, e_of3 hi, e_num (h.iQ i hi).1 (by decide)]
    rcases h.L i hi with ⟨a, b⟩ | ⟨a, b⟩
    · rw [b, if_pos rfl, (h.V i hi a).2.2.1]
    · rw [b, if_neg (by decide), (h.iQ i hi).2 a]) 8 0 0 (by decide)
  rw [Nat.zero_add] at K
  exact K
theorem e_avail {u μ : PS} (h : RI u (μ 0)) : f6_available μ = f1_available u := by
  unfold f6_available f1_available
  rw [e_free h, e_promises h, e_fre, e_prs h.iQ]
theorem e_levelBy {u μ : PS} (h : qE u (μ 0)) (x : Int32) : f6_levelBy μ x = f1_levelWith u x := by
  unfold f6_levelBy f1_levelWith
  rw [h 1 (by decide), h 0 (by decide)]
theorem e_av {u : PS} (h : iQ u) (hf : iF u) : f1_available u = nI (fre u - prs u) := by
  unfold f1_available
  rw [e_fre, e_prs h, pk_sub hf]
