/-! Families. -/
theorem so_or {g h : Nat → Int32} : ∀ n i : Nat, so (fun k => g k ||| h k) n i = so g n i ||| so h n i := by
  intro n
  induction n with
  | zero => intro i; exact (Int32.or_zero (a := 0)).symm
  | succ n ih =>
    intro i
    show g i ||| h i ||| so (fun k => g k ||| h k) n (i + 1) = g i ||| so g n (i + 1) ||| (h i ||| so h n (i + 1))
    rw [ih (i + 1)]
    ac_rfl
theorem so_none {g : Nat → Int32} (n i : Nat) (h : ∀ k, i ≤ k → k < i + n → g k = 0) : so g n i = 0 := (so_zero n i).mpr h
theorem so_comm {g : Nat → Nat → Int32} (n i : Nat) : ∀ m j : Nat, so (fun p => so (fun q => g p q) n i) m j = so (fun q => so (fun p => g p q) m j) n i := by
  intro m
  induction m with
  | zero => intro j; exact (so_none n i (fun _ _ _ => rfl)).symm
  | succ m ih =>
    intro j
    show so (fun q => g j q) n i ||| so (fun p => so (fun q => g p q) n i) m (j + 1) = so (fun q => g j q ||| so (fun p => g p q) m (j + 1)) n i
    rw [ih (j + 1), so_or]
theorem so_single {g : Nat → Int32} (k0 : Nat) : ∀ n i : Nat, i ≤ k0 → k0 < i + n → (∀ k, i ≤ k → k < i + n → k ≠ k0 → g k = 0) → so g n i = g k0 := by
  intro n
  induction n with
  | zero => intro i h1 h2; omega
  | succ n ih =>
    intro i h1 h2 hk
    show g i ||| so g n (i + 1) = g k0
    by_cases e : i = k0
    · subst e
      rw [so_none n (i + 1) (fun k q1 q2 => hk k (by omega) (by omega) (by omega))]
      exact Int32.or_zero
    · rw [hk i (Nat.le_refl i) (by omega) e, ih (i + 1) (by omega) (by omega) (fun k q1 q2 q3 => hk k (by omega) (by omega) q3)]
      exact Int32.zero_or
/-- a set of volumes -/
def setO (P : Nat → Bool) : Int32 := so (fun v => bif P v then bit v else 0) 8 0
theorem setO_congr {P Q : Nat → Bool} (h : ∀ v, v < 8 → P v = Q v) : setO P = setO Q := so_congr 8 0 (fun k _ k2 => by rw [h k (by omega)])
theorem setO_or (P Q : Nat → Bool) : setO P ||| setO Q = setO (fun v => P v || Q v) := by
  unfold setO
  rw [← so_or]
  exact so_congr 8 0 (fun k _ _ => by
    show (bif P k then bit k else 0) ||| (bif Q k then bit k else 0) = bif (P k || Q k) then bit k else 0
    cases P k <;> cases Q k <;> simp)
theorem setO_zero {P : Nat → Bool} : setO P = 0 ↔ ∀ v, v < 8 → P v = false := by
  unfold setO
  rw [so_zero]
  constructor
  · intro h v hv
    have := h v (Nat.zero_le _) (by omega)
    cases e : P v with
    | false => rfl
    | true => rw [e] at this; exact absurd this (bit_ne hv)
  · intro h k _ k2; rw [h k (by omega)]; rfl
def setB (b0 b1 b2 b3 b4 b5 b6 b7 : Bool) : Int32 := (bif b0 then bit 0 else 0) ||| ((bif b1 then bit 1 else 0) ||| ((bif b2 then bit 2 else 0) ||| ((bif b3 then bit 3 else 0) ||| ((bif b4 then bit 4 else 0) ||| ((bif b5 then bit 5 else 0) ||| ((bif b6 then bit 6 else 0) ||| ((bif b7 then bit 7 else 0) ||| 0)))))))
theorem setO_B (P : Nat → Bool) : setO P = setB (P 0) (P 1) (P 2) (P 3) (P 4) (P 5) (P 6) (P 7) := rfl
def pickB (b0 b1 b2 b3 b4 b5 b6 b7 : Bool) (v : Nat) : Bool := match v with | 0 => b0 | 1 => b1 | 2 => b2 | 3 => b3 | 4 => b4 | 5 => b5 | 6 => b6 | _ => b7
theorem setB_has : ∀ v, v < 8 → ∀ b0 b1 b2 b3 b4 b5 b6 b7 : Bool, (((setB b0 b1 b2 b3 b4 b5 b6 b7 >>> (nI v &&& 31)) &&& (1 : Int32)) = (1 : Int32)) = (pickB b0 b1 b2 b3 b4 b5 b6 b7 v = true) := by
  intro v hv b0 b1 b2 b3 b4 b5 b6 b7
  apply propext
  revert v b0 b1 b2 b3 b4 b5 b6 b7
  decide +kernel
theorem setB_and : ∀ v, v < 8 → ∀ b0 b1 b2 b3 b4 b5 b6 b7 : Bool, bit v &&& (setB b0 b1 b2 b3 b4 b5 b6 b7 ^^^ (-1 : Int32)) = bif pickB b0 b1 b2 b3 b4 b5 b6 b7 v then 0 else bit v := by decide +kernel
theorem pick_P (P : Nat → Bool) {v : Nat} (hv : v < 8) : pickB (P 0) (P 1) (P 2) (P 3) (P 4) (P 5) (P 6) (P 7) v = P v := by
  rcases (show v = 0 ∨ v = 1 ∨ v = 2 ∨ v = 3 ∨ v = 4 ∨ v = 5 ∨ v = 6 ∨ v = 7 by omega) with rfl | rfl | rfl | rfl | rfl | rfl | rfl | rfl <;> rfl
theorem setO_has (P : Nat → Bool) {v : Nat} (hv : v < 8) : (((setO P >>> (nI v &&& 31)) &&& (1 : Int32)) = (1 : Int32)) = (P v = true) := by
  rw [setO_B, setB_has v hv, pick_P P hv]
theorem so_and {g : Nat → Int32} (c : Int32) : ∀ n i : Nat, so g n i &&& c = so (fun k => g k &&& c) n i := by
  intro n
  induction n with
  | zero => intro i; exact Int32.zero_and
  | succ n ih =>
    intro i
    show (g i ||| so g n (i + 1)) &&& c = (g i &&& c) ||| so (fun k => g k &&& c) n (i + 1)
    rw [← ih (i + 1)]
    apply Int32.toBitVec_inj.mp
    simp only [Int32.toBitVec_and, Int32.toBitVec_or]
    exact BitVec.and_or_distrib_right
theorem setO_diff (P Q : Nat → Bool) : setO P &&& (setO Q ^^^ (-1 : Int32)) = setO (fun v => P v && !Q v) := by
  show so (fun v => bif P v then bit v else 0) 8 0 &&& _ = so (fun v => bif (P v && !Q v) then bit v else 0) 8 0
  rw [so_and]
  refine so_congr 8 0 (fun k _ k2 => ?_)
  show (bif P k then bit k else 0) &&& (setO Q ^^^ (-1 : Int32)) = bif (P k && !Q k) then bit k else 0
  cases P k with
  | false => exact Int32.zero_and
  | true =>
    show bit k &&& (setO Q ^^^ (-1 : Int32)) = bif (true && !Q k) then bit k else 0
    rw [setO_B, setB_and k (by omega), pick_P Q (by omega)]
    cases Q k <;> rfl
theorem setO_bit {t : Nat} (ht : t < 8) : setO (fun v => Nat.beq v t) = bit t := by
  unfold setO
  rw [so_single t 8 0 (Nat.zero_le _) (by omega) (fun k _ _ k3 => by
    show (bif Nat.beq k t then bit k else 0) = 0
    cases e : Nat.beq k t with
    | false => rfl
    | true => exact absurd (Nat.eq_of_beq_eq_true e) k3)]
  show (bif Nat.beq t t then bit t else 0) = bit t
  rw [Nat.beq_refl]; rfl
/-- the volumes that are some steps below a volume -/
def lay (u : PS) (t : Nat) : Nat → Nat → Bool
  | 0, m => Nat.beq m t
  | d + 1, m => bif decide (0 ≤ u 3 m) then lay u t d (u 3 m).toNatClampNeg else false
theorem lay_no {u : PS} {t d m : Nat} (h : u 3 m = -1) : lay u t (d + 1) m = false := by
  show (bif decide (0 ≤ u 3 m) then _ else false) = false
  rw [h]; rfl
theorem lay_up {u : PS} {t d m w : Nat} (hw : w < 8) (h : u 3 m = nI w) : lay u t (d + 1) m = lay u t d w := by
  show (bif decide (0 ≤ u 3 m) then lay u t d (u 3 m).toNatClampNeg else false) = _
  rw [h, nI_clamp (by omega), decide_eq_true (nI_pos' (by omega))]; rfl
/-- heights that are at most seven -/
theorem heights {u : PS} (hA : iA u) (hT : iT u) : ∃ c : Nat → Nat, (∀ v, v < 8 → c v ≤ 7) ∧ ∀ v w, v < 8 → w < 8 → u 3 v = nI w → c w < c v := by
  obtain ⟨rk, hr⟩ := hT
  refine ⟨fun v => sm (fun w => if rk w < rk v then 1 else 0) 8 0, fun v hv => ?_, fun v w hv hw e => ?_⟩
  · have := sm_lt (g := fun w => if rk w < rk v then 1 else 0) (h := fun _ => 1) v 8 0 (Nat.zero_le _) (by omega) (fun k _ _ => by split <;> omega) (by rw [if_neg (Nat.lt_irrefl _)]; decide)
    have e8 : sm (fun _ => 1) 8 0 = 8 := rfl
    rw [e8] at this
    show sm (fun w => if rk w < rk v then 1 else 0) 8 0 ≤ 7
    omega
  · have h := hr v w hv hw e
    refine sm_lt w 8 0 (Nat.zero_le _) (by omega) (fun k _ _ => ?_) ?_
    · by_cases q : rk k < rk w
      · rw [if_pos q, if_pos (Nat.lt_trans q h)]; exact Nat.le_refl _
      · rw [if_neg q]; exact Nat.zero_le _
    · rw [if_neg (Nat.lt_irrefl _), if_pos h]; decide
section FAM
variable {u : PS} {t : Nat}
theorem par_cases (hA : iA u) {m : Nat} (hm : m < 8) : u 3 m = -1 ∨ ∃ w, w < 8 ∧ u 3 m = nI w ∧ 0 < u 0 m ∧ 0 < u 0 w := by
  rcases hA m hm with h | ⟨h, w, h1, h2, h3⟩
  · exact Or.inl h
  · exact Or.inr ⟨w, h1, h2, h, h3⟩
theorem lay_height (hA : iA u) {c : Nat → Nat} (hc : ∀ v w, v < 8 → w < 8 → u 3 v = nI w → c w < c v) : ∀ d m, m < 8 → lay u t d m = true → c t + d ≤ c m := by
  intro d
  induction d with
  | zero => intro m _ h; rw [Nat.eq_of_beq_eq_true h]; exact Nat.le_refl _
  | succ d ih =>
    intro m hm h
    rcases par_cases hA hm with e | ⟨w, hw, e, _⟩
    · rw [lay_no e] at h; exact absurd h (by decide)
    · rw [lay_up hw e] at h
      have := ih w hw h
      have := hc m w hm hw e
      omega
theorem lay_uniq (hA : iA u) (hT : iT u) : ∀ d m, m < 8 → lay u t d m = true → ∀ d2, lay u t d2 m = true → d = d2 := by
  obtain ⟨c, _, hc⟩ := heights hA hT
  intro d
  induction d with
  | zero =>
    intro m hm h d2 h2
    have e : m = t := Nat.eq_of_beq_eq_true h
    have := lay_height (t := t) hA hc d2 m hm h2
    rw [e] at this; omega
  | succ d ih =>
    intro m hm h d2 h2
    cases d2 with
    | zero =>
      have e : m = t := Nat.eq_of_beq_eq_true h2
      have := lay_height (t := t) hA hc (d + 1) m hm h
      rw [e] at this; omega
    | succ d2 =>
      rcases par_cases hA hm with e | ⟨w, hw, e, _⟩
      · rw [lay_no e] at h; exact absurd h (by decide)
      · rw [lay_up hw e] at h h2
        rw [ih w hw h d2 h2]
theorem lay_max (hA : iA u) (hT : iT u) {d m : Nat} (hm : m < 8) (h : lay u t d m = true) : d ≤ 7 := by
  obtain ⟨c, h7, hc⟩ := heights hA hT
  have := lay_height (t := t) hA hc d m hm h
  have := h7 m hm
  omega
/-- a layer below an empty one is empty -/
theorem lay_emp (hA : iA u) {d : Nat} (h : ∀ m, m < 8 → lay u t d m = false) : ∀ e m, m < 8 → lay u t (d + e) m = false := by
  intro e
  induction e with
  | zero => exact h
  | succ e ih =>
    intro m hm
    rcases par_cases hA hm with q | ⟨w, hw, q, _⟩
    · exact lay_no q
    · rw [show d + (e + 1) = (d + e) + 1 from rfl, lay_up hw q]; exact ih w hw
theorem steps_no (x : Int32) (y : Int32) (n i : Nat) : f1_stepsUp_L5 u x y n i (-1) = -1 := by
  cases n with
  | zero => rw [f1_stepsUp_L5]
  | succ n =>
    rw [f1_stepsUp_L5]
    have : f1_lives u (-1) = 0 := by unfold f1_lives; rw [if_pos (by decide)]
    rw [this, if_pos rfl]
theorem steps_up (hA : iA u) (hT : iT u) (ht : t < 8) (hl : 0 < u 0 t) (x : Int32) : ∀ n i m, m < 8 → (∀ d, d < n → lay u t d m = true → f1_stepsUp_L5 u x (nI t) n i (nI m) = nI (i + d)) ∧ ((∀ d, d < n → lay u t d m = false) → f1_stepsUp_L5 u x (nI t) n i (nI m) = -1) := by
  intro n
  induction n with
  | zero => intro i m hm; exact ⟨fun d hd => absurd hd (Nat.not_lt_zero d), fun _ => by rw [f1_stepsUp_L5]⟩
  | succ n ih =>
    intro i m hm
    rw [f1_stepsUp_L5, e_lives hm, nI_clamp (by omega)]
    by_cases e : m = t
    · subst e
      rw [if_pos hl, if_neg ne10, if_pos rfl]
      have z : lay u m 0 m = true := Nat.beq_refl m
      refine ⟨fun d hd h => ?_, fun h => ?_⟩
      · rw [lay_uniq hA hT d m hm h 0 z]; rfl
      · rw [h 0 (by omega)] at z; exact absurd z (by decide)
    · have z0 : lay u t 0 m = false := by
        cases q : lay u t 0 m with
        | false => rfl
        | true => exact absurd (Nat.eq_of_beq_eq_true q) e
      rcases par_cases hA hm with q | ⟨w, hw, q, lm, lw⟩
      · have no : ∀ d, lay u t d m = false := fun d => by
          cases d with
          | zero => exact z0
          | succ d => exact lay_no q
        refine ⟨fun d hd h => ?_, fun _ => ?_⟩
        · rw [no d] at h; exact absurd h (by decide)
        · by_cases lm : 0 < u 0 m
          · rw [if_pos lm, if_neg ne10, if_neg (fun y => e (e_inj (by omega) (by omega) y)), q, steps_no]
          · rw [if_neg lm, if_pos rfl]
      · rw [if_pos lm, if_neg ne10, if_neg (fun y => e (e_inj (by omega) (by omega) y)), q]
        obtain ⟨a, b⟩ := ih (i + 1) w hw
        refine ⟨fun d hd h => ?_, fun h => b (fun d hd => ?_)⟩
        · cases d with
          | zero => rw [z0] at h; exact absurd h (by decide)
          | succ d =>
            rw [lay_up hw q] at h
            rw [a d (by omega) h]
            exact congrArg nI (by omega)
        · have := h (d + 1) (by omega)
          rw [lay_up hw q] at this; exact this
theorem steps_1 (hA : iA u) (hT : iT u) (ht : t < 8) (hl : 0 < u 0 t) {m d : Nat} (hm : m < 8) (h : lay u t d m = true) : f1_stepsUp u (nI m) (nI t) = nI d := by
  have := (steps_up hA hT ht hl (nI m) 8 0 m hm).1 d (by have := lay_max hA hT hm h; omega) h
  rw [Nat.zero_add] at this
  exact this
theorem steps_0 (hA : iA u) (hT : iT u) (ht : t < 8) (hl : 0 < u 0 t) {m : Nat} (hm : m < 8) (h : ∀ d, lay u t d m = false) : f1_stepsUp u (nI m) (nI t) = -1 := (steps_up hA hT ht hl (nI m) 8 0 m hm).2 (fun d _ => h d)
/-- the union of the layers ahead of one -/
def upto (u : PS) (t : Nat) : Nat → Nat → Bool
  | 0, _ => false
  | k + 1, m => upto u t k m || lay u t k m
theorem upto_iff : ∀ k m, upto u t k m = true ↔ ∃ d, d < k ∧ lay u t d m = true := by
  intro k
  induction k with
  | zero => intro m; exact ⟨fun h => absurd (show false = true from h) (by decide), fun ⟨d, h, _⟩ => absurd h (Nat.not_lt_zero d)⟩
  | succ k ih =>
    intro m
    show (upto u t k m || lay u t k m) = true ↔ _
    rw [Bool.or_eq_true, ih m]
    constructor
    · rintro (⟨d, h1, h2⟩ | h)
      · exact ⟨d, by omega, h2⟩
      · exact ⟨k, by omega, h⟩
    · rintro ⟨d, h1, h2⟩
      by_cases e : d = k
      · subst e; exact Or.inr h2
      · exact Or.inl ⟨d, by omega, h2⟩
theorem e_family0 (hA : iA u) (hT : iT u) (ht : t < 8) (hl : 0 < u 0 t) {k : Nat} (hk : ∀ m, m < 8 → lay u t k m = false) : f1_familyOf u (nI t) = setO (upto u t k) := by
  unfold f1_familyOf; dsimp only [sq]
  have K := so_loop (L := f1_familyOf_L4 u (nI t)) (g := fun m => bif upto u t k m then bit m else 0) 8 (fun i y => by rw [f1_familyOf_L4]) (fun n i y hi => by
    rw [f1_familyOf_L4]
    cases e : upto u t k i with
    | true =>
      obtain ⟨d, h1, h2⟩ := (upto_iff k i).mp e
      have := lay_max hA hT hi h2
      rw [steps_1 hA hT ht hl hi h2, if_neg (e_neg (by omega))]; rfl
    | false =>
      have no : ∀ d, lay u t d i = false := fun d => by
        cases q : lay u t d i with
        | false => rfl
        | true =>
          by_cases z : d < k
          · rw [(upto_iff k i).mpr ⟨d, z, q⟩] at e; exact absurd e (by decide)
          · have := lay_emp hA hk (d - k) i hi
            rw [show k + (d - k) = d by omega, q] at this; exact absurd this (by decide)
      rw [steps_0 hA hT ht hl hi no, if_pos rfl]; exact congrArg _ Int32.or_zero.symm) 8 0 0 (by decide)
  rw [Int32.zero_or] at K
  exact K
theorem e_longest0 (hA : iA u) (hT : iT u) (ht : t < 8) (hl : 0 < u 0 t) {k : Nat} (hk : ∀ m, m < 8 → lay u t (k + 1) m = false) {m0 : Nat} (hm0 : m0 < 8) (hq : lay u t k m0 = true) : f1_longestLineFrom u (nI t) = nI k := by
  unfold f1_longestLineFrom; dsimp only [sq]
  have k7 := lay_max hA hT hm0 hq
  have B : ∀ m, m < 8 → f1_stepsUp u (nI m) (nI t) ≤ nI k := fun m hm => by
    by_cases e : ∃ d, lay u t d m = true
    · obtain ⟨d, h⟩ := e
      rw [steps_1 hA hT ht hl hm h]
      refine nI_le ?_ (by omega)
      rcases Nat.lt_or_ge k d with z | z
      · have := lay_emp hA hk (d - (k + 1)) m hm
        rw [show k + 1 + (d - (k + 1)) = d by omega, h] at this; exact absurd this (by decide)
      · exact z
    · rw [steps_0 hA hT ht hl hm (fun d => by
        cases q : lay u t d m with
        | false => rfl
        | true => exact absurd ⟨d, q⟩ e)]
      rw [le_t, nI_toInt (by omega)]
      have : (-1 : Int32).toInt = -1 := by decide
      omega
  have K : ∀ n i x, i + n = 8 → x ≤ nI k → (x = nI k ∨ i ≤ m0) → f1_longestLineFrom_L4 u (nI t) n i x = nI k := by
    intro n
    induction n with
    | zero =>
      intro i x hi _ h
      rw [f1_longestLineFrom_L4]
      rcases h with h | h
      · exact h
      · omega
    | succ n ih =>
      intro i x hi hx h
      rw [f1_longestLineFrom_L4]
      by_cases z : x < f1_stepsUp u (nI i) (nI t)
      · rw [if_pos z]
        refine ih (i + 1) _ (by omega) (B i (by omega)) ?_
        by_cases e : i = m0
        · subst e; exact Or.inl (steps_1 hA hT ht hl hm0 hq)
        · rcases h with h | h
          · rw [h] at z
            exact absurd z (Int32.not_lt.mpr (B i (by omega)))
          · exact Or.inr (by omega)
      · rw [if_neg z]
        refine ih (i + 1) _ (by omega) hx ?_
        by_cases e : i = m0
        · subst e
          rw [steps_1 hA hT ht hl hm0 hq] at z
          exact Or.inl (Int32.le_antisymm hx (Int32.not_lt.mp z))
        · rcases h with h | h
          · exact Or.inl h
          · exact Or.inr (by omega)
  exact K 8 0 0 rfl (nI_pos' (by omega)) (Or.inr (Nat.zero_le _))
end FAM
theorem clones_set {u μ : PS} (h : RI u (μ 0)) (w : Nat) : f6_clones μ (nI w) = so (fun i => if 0 < u 0 i ∧ u 3 i = nI w then bit i else 0) 8 0 := by
  unfold f6_clones; dsimp only [sq]
  have K := so_loop (L := f6_clones_L4 μ (nI w)) (g := fun i => if 0 < u 0 i ∧ u 3 i = nI w then bit i else 0) 8 (fun i y => by rw [f6_clones_L4]) (fun n i y hi => by
    rw [f6_clones_L4, e_of0 hi, e_of4 hi]
    rcases h.L i hi with ⟨a, b⟩ | ⟨a, b⟩
    · rw [b, if_pos rfl, (h.V i hi a).2.2.2.1]
      by_cases q : u 3 i = nI w
      · rw [if_pos q, if_pos ⟨a, q⟩]
      · rw [if_neg q, if_neg (fun z => q z.2)]
    · rw [b, if_neg ne01, if_neg (fun z => by rw [a] at z; exact absurd z.1 (by decide))]) 8 0 0 (by decide)
  rw [Int32.zero_or] at K
  exact K
theorem e_next {u μ : PS} (h : RI u (μ 0)) (t k : Nat) : f6_family_L41 μ (setO (lay u t k)) 8 0 0 = setO (lay u t (k + 1)) := by
  have K := so_loop (L := f6_family_L41 μ (setO (lay u t k))) (g := fun v => so (fun i => bif lay u t k v && decide (0 < u 0 i ∧ u 3 i = nI v) then bit i else 0) 8 0) 8 (fun i y => by rw [f6_family_L41]) (fun n i y hi => by
    rw [f6_family_L41, clones_set h i]
    have e := setO_has (lay u t k) hi
    cases q : lay u t k i with
    | true =>
      rw [if_pos (e.mpr q)]
      refine congrArg (fun z => f6_family_L41 μ (setO (lay u t k)) n (i + 1) (y ||| z)) (so_congr 8 0 (fun j _ _ => ?_))
      by_cases z : 0 < u 0 j ∧ u 3 j = nI i
      · rw [if_pos z, decide_eq_true z]; rfl
      · rw [if_neg z, decide_eq_false z]; rfl
    | false =>
      rw [if_neg (fun z => by rw [e.mp z] at q; exact absurd q (by decide))]
      refine congrArg (fun z => f6_family_L41 μ (setO (lay u t k)) n (i + 1) (y ||| z)) (so_none 8 0 (fun j _ _ => rfl)).symm) 8 0 0 (by decide)
  rw [Int32.zero_or] at K
  rw [K, so_comm]
  refine so_congr 8 0 (fun i _ i2 => ?_)
  rcases par_cases h.iA (show i < 8 by omega) with q | ⟨w, hw, q, lm, lw⟩
  · rw [lay_no q]
    exact so_none 8 0 (fun v _ v2 => by
      rw [decide_eq_false (fun z => by rw [q] at z; exact e_neg (show v < 2 ^ 31 by omega) z.2.symm), Bool.and_false]; rfl)
  · rw [lay_up hw q]
    rw [so_single w 8 0 (Nat.zero_le _) (by omega) (fun v _ v2 v3 => by
      rw [decide_eq_false (fun z => by rw [q] at z; exact v3 (e_inj (by omega) (by omega) z.2).symm), Bool.and_false]; rfl)]
    rw [decide_eq_true ⟨lm, q⟩, Bool.and_true]
theorem lay_set {u : PS} {t : Nat} (hA : iA u) (hT : iT u) (k : Nat) : setO (lay u t k) &&& (setO (upto u t k) ^^^ (-1 : Int32)) = setO (lay u t k) := by
  rw [setO_diff]
  refine setO_congr (fun v hv => ?_)
  cases q : lay u t k v with
  | false => rfl
  | true =>
    cases z : upto u t k v with
    | false => rfl
    | true =>
      obtain ⟨d, h1, h2⟩ := (upto_iff k v).mp z
      have := lay_uniq hA hT d v hv h2 k q
      omega
theorem e_famT {u μ : PS} (h : RI u (μ 0)) (t : Nat) : ∀ n k, n + k = 8 → f6_family_T μ (n + 1) (setO (upto u t (k + 1))) (setO (lay u t k)) := by
  intro n
  induction n with
  | zero =>
    intro k hk
    rw [f6_family_T]
    intro hz
    exact absurd (setO_zero.mpr (fun v hv => by
      cases q : lay u t k v with
      | false => rfl
      | true => have := lay_max h.iA h.iT hv q; omega)) hz
  | succ n ih =>
    intro k hk
    rw [f6_family_T]
    intro _
    rw [e_next h t k]
    have e1 : setO (upto u t (k + 1)) ||| setO (lay u t (k + 1)) = setO (upto u t (k + 2)) := by rw [setO_or]; rfl
    rw [e1, lay_set h.iA h.iT (k + 1)]
    exact ih (k + 1) (by omega)
theorem upto_1 {u : PS} {t : Nat} (ht : t < 8) : setO (upto u t 1) = bit t := by
  rw [← setO_bit ht]
  exact setO_congr (fun v _ => by show (false || Nat.beq v t) = Nat.beq v t; exact Bool.false_or _)
theorem e_fam30 {u μ : PS} (h : RI u (μ 0)) (t : Nat) : ∀ n k, n + k = 9 → (∀ j, j < k → ∃ m, m < 8 ∧ lay u t j m = true) → ∃ K, K ≤ 8 ∧ k ≤ K ∧ (∀ m, m < 8 → lay u t K m = false) ∧ (∀ j, j < K → ∃ m, m < 8 ∧ lay u t j m = true) ∧ f6_family_L30 μ n (setO (upto u t (k + 1))) (setO (lay u t k)) (nI k + (-1)) = (setO (upto u t K), nI K + (-1)) := by
  intro n
  induction n with
  | zero =>
    intro k hk hj
    obtain ⟨m, h1, h2⟩ := hj 8 (by omega)
    have := lay_max h.iA h.iT h1 h2
    omega
  | succ n ih =>
    intro k hk hj
    rw [f6_family_L30]
    by_cases z : setO (lay u t k) = 0
    · rw [if_pos z]
      have z2 := setO_zero.mp z
      refine ⟨k, by omega, Nat.le_refl k, z2, hj, ?_⟩
      refine congrArg (fun y => (y, nI k + (-1))) (setO_congr (fun v hv => ?_))
      show (upto u t k v || lay u t k v) = upto u t k v
      rw [z2 v hv, Bool.or_false]
    · rw [if_neg z]
      dsimp only [sq]
      rw [e_next h t k]
      have e1 : setO (upto u t (k + 1)) ||| setO (lay u t (k + 1)) = setO (upto u t (k + 2)) := by rw [setO_or]; rfl
      rw [e1, lay_set h.iA h.iT (k + 1), show nI k + (-1) + 1 = nI (k + 1) + (-1) from by rw [← nI_1 k]; ac_rfl]
      have ex : ∃ m, m < 8 ∧ lay u t k m = true := by
        by_cases q : ∃ m, m < 8 ∧ lay u t k m = true
        · exact q
        · exact absurd (setO_zero.mpr (fun v hv => by
            cases e : lay u t k v with
            | false => rfl
            | true => exact absurd ⟨v, hv, e⟩ q)) z
      obtain ⟨K, a, b, c, d, e⟩ := ih (k + 1) (by omega) (fun j hjk => by
        by_cases q : j = k
        · subst q; exact ex
        · exact hj j (by omega))
      exact ⟨K, a, by omega, c, d, e⟩
theorem e_family {Z : ST} {μ : PS} (h : RI (Z 0) (μ 0)) (p1 p2 : Int32) : f5_family Z p1 p2 = f6_family μ p1 p2 := by
  unfold f5_family f6_family
  rw [e_isVol h.L]
  rcases e_liv (Z 0) p1 with h0 | ⟨t, ht, rfl, hl, h1⟩
  · rw [if_pos h0, if_pos h0]
  · rw [h1, if_neg ne10, if_neg ne10, e_rng]
    obtain ⟨K, a, b, c, d, e⟩ := e_fam30 h t 9 0 rfl (fun j hj => absurd hj (Nat.not_lt_zero j))
    rw [upto_1 ht, show setO (lay (Z 0) t 0) = bit t from setO_bit ht, show nI 0 + (-1) = (-1 : Int32) from by decide] at e
    have hK : 0 < K := by
      rcases Nat.eq_zero_or_pos K with q | q
      · subst q
        have := c t ht
        rw [show lay (Z 0) t 0 t = true from Nat.beq_refl t] at this
        exact absurd this (by decide)
      · exact q
    obtain ⟨k, rfl⟩ : ∃ k, K = k + 1 := ⟨K - 1, by omega⟩
    obtain ⟨m0, hm0, hq⟩ := d k (by omega)
    dsimp only [sq2]
    rw [e]
    dsimp only
    rw [pk_m1, e_family0 h.iA h.iT ht hl c, e_longest0 h.iA h.iT ht hl c hm0 hq, e_poo h]
    rcases pk_ix p2 (n := 3) (by decide) with q | q | ⟨j, hj, rfl⟩
    · rw [if_pos q]
      have t0 : (0 : Int32).toInt = 0 := by decide
      have n0 : ¬ p2 = 0 := by rintro rfl; exact absurd q (by decide)
      have n1 : ¬ p2 = 1 := by rintro rfl; exact absurd q (by decide)
      have n2 : ¬ p2 = 2 := by rintro rfl; exact absurd q (by decide)
      rw [if_neg n0, if_neg n1, if_neg n2]
    · have n0 : ¬ p2 = 0 := by rintro rfl; exact absurd q (by decide)
      have n1 : ¬ p2 = 1 := by rintro rfl; exact absurd q (by decide)
      have n2 : ¬ p2 = 2 := by rintro rfl; exact absurd q (by decide)
      have n3 : ¬ p2 ≤ 2 := by
        rw [le_t] at q ⊢
        have t2 : (nI 3).toInt = 3 := by decide
        have t1 : (2 : Int32).toInt = 2 := by decide
        omega
      rw [if_neg n0, if_neg n1, if_neg n2, if_neg n3]
      split <;> rfl
    · rw [if_neg (nI_pos (by omega)), if_pos (show nI j ≤ 2 from nI_le (b := 2) (by omega) (by decide))]
      rcases (show j = 0 ∨ j = 1 ∨ j = 2 by omega) with rfl | rfl | rfl
      · rw [if_pos (show nI 0 = 0 from rfl), if_pos (show nI 0 = 0 from rfl)]
      · rw [if_neg (show ¬ nI 1 = 0 by decide), if_pos (show nI 1 = 1 from rfl), if_neg (show ¬ nI 1 = 0 by decide), if_pos (show nI 1 = 1 from rfl)]
      · rw [if_neg (show ¬ nI 2 = 0 by decide), if_neg (show ¬ nI 2 = 1 by decide), if_pos (show nI 2 = 2 from rfl), if_neg (show ¬ nI 2 = 0 by decide), if_neg (show ¬ nI 2 = 1 by decide)]
theorem e_famT0 {u μ : PS} (h : RI u (μ 0)) {p1 : Int32} {t : Nat} (ht : t < 8) (hp : p1 = nI t) : f6_family_T μ 9 ((1 : Int32) <<< (p1 &&& 31)) ((1 : Int32) <<< (p1 &&& 31)) := by
  subst hp
  have := e_famT h t 8 0 rfl
  rw [upto_1 ht, show setO (lay u t 0) = bit t from setO_bit ht] at this
  exact this
