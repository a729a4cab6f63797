/-! Merging. -/
/-- the spots of a pool, renamed -/
def mp6 (u : PS) (f : Nat → Nat) (q : Nat) : Int32 := if u 6 q = -1 then -1 else nI (f (u 6 q).toNatClampNeg)
def mpU (u : PS) (f : Nat → Nat) : PS := setA (setA u 6 (mp6 u f)) 8 (fun p => nI (own (setA u 6 (mp6 u f)) (nI p)))
abbrev Own (u : PS) (p : Nat) : Prop := 0 < own u (nI p)
/-- a renaming that keeps to the pieces that there are -/
def good (u : PS) (f : Nat → Nat) : Prop := ∀ p, p < 30 → Own u p → f p < 30 ∧ Own u (f p)
theorem spot_any {u : PS} (hP : iP u) {q : Nat} (hq : q < 320) : u 6 q = -1 ∨ ∃ p, p < 30 ∧ u 6 q = nI p ∧ Own u p := by
  have e : 40 * (q / 40) + q % 40 = q := Nat.div_add_mod q 40
  rcases e_spot hP (show q / 40 < 8 by omega) (show q % 40 < 40 by omega) with z | ⟨p, hp, z, _⟩
  · rw [e] at z; exact Or.inl z
  · rw [e] at z; exact Or.inr ⟨p, hp, z, own_pos hq z⟩
theorem mp6_none {u : PS} {f : Nat → Nat} {q : Nat} (h : u 6 q = -1) : mp6 u f q = -1 := if_pos h
theorem mp6_at {u : PS} {f : Nat → Nat} {q p : Nat} (hp : p < 30) (h : u 6 q = nI p) : mp6 u f q = nI (f p) := by
  unfold mp6
  rw [h, if_neg (e_neg (by omega)), nI_clamp (by omega)]
theorem mp_row (u : PS) (f : Nat → Nat) : (mpU u f) 6 = mp6 u f := (setA_ne (by decide)).trans setA_eq
theorem mp_ne (u : PS) (f : Nat → Nat) {j : Nat} (h6 : j ≠ 6) (h8 : j ≠ 8) : (mpU u f) j = u j := (setA_ne h8).trans (setA_ne h6)
theorem own_row {u w : PS} (h : w 6 = u 6) (x : Int32) : own w x = own u x := by unfold own; rw [h]
theorem mp_8 (u : PS) (f : Nat → Nat) (p : Nat) : (mpU u f) 8 p = nI (own (mpU u f) (nI p)) := by
  have e : own (mpU u f) (nI p) = own (setA u 6 (mp6 u f)) (nI p) := own_row (by rw [mp_row, setA_eq]) _
  rw [e]
  exact congrFun setA_eq p
theorem mp_own {u : PS} (hP : iP u) {f : Nat → Nat} (hf : good u f) {q : Nat} (hq : q < 30) : 0 < own (mpU u f) (nI q) ↔ ∃ p, p < 30 ∧ Own u p ∧ f p = q := by
  constructor
  · intro h
    obtain ⟨k, _, k2, k3⟩ := sm_pos 320 0 h
    have k4 : mp6 u f k = nI q := by
      by_cases z : (mpU u f) 6 k = nI q
      · rw [mp_row] at z; exact z
      · rw [if_neg z] at k3; omega
    rcases spot_any hP (show k < 320 by omega) with z | ⟨p, hp, z, ho⟩
    · rw [mp6_none z] at k4; exact absurd k4.symm (e_neg (by omega))
    · rw [mp6_at hp z] at k4
      have := (hf p hp ho).1
      exact ⟨p, hp, ho, e_inj (by omega) (by omega) k4⟩
  · rintro ⟨p, hp, ho, e⟩
    obtain ⟨k, _, k2, k3⟩ := sm_pos 320 0 ho
    have k4 : u 6 k = nI p := by
      by_cases z : u 6 k = nI p
      · exact z
      · rw [if_neg z] at k3; omega
    exact own_pos (u := mpU u f) (show k < 320 by omega) (by rw [mp_row, mp6_at hp k4, e])
theorem mp_congr {u : PS} (hP : iP u) {f g : Nat → Nat} (h : ∀ p, p < 30 → Own u p → f p = g p) : (∀ q, q < 320 → mp6 u f q = mp6 u g q) ∧ ∀ x, own (mpU u f) x = own (mpU u g) x := by
  have a : ∀ q, q < 320 → mp6 u f q = mp6 u g q := fun q hq => by
    rcases spot_any hP hq with z | ⟨p, hp, z, ho⟩
    · rw [mp6_none z, mp6_none z]
    · rw [mp6_at hp z, mp6_at hp z, h p hp ho]
  refine ⟨a, fun x => sm_congr 320 0 (fun k _ k2 => ?_)⟩
  rw [mp_row, mp_row, a k (by omega)]
/-- a pool with renamed spots -/
def clS (u U : PS) (f : Nat → Nat) : Prop := (∀ q, q < 320 → U 6 q = mp6 u f q) ∧ (∀ p, p < 30 → U 8 p = nI (own (mpU u f) (nI p))) ∧ ∀ j, j ≠ 6 → j ≠ 8 → U j = u j
theorem clS_congr {u U : PS} (hP : iP u) {f g : Nat → Nat} (h : ∀ p, p < 30 → Own u p → f p = g p) (hc : clS u U f) : clS u U g := by
  obtain ⟨a, b⟩ := mp_congr hP h
  exact ⟨fun q hq => (hc.1 q hq).trans (a q hq), fun p hp => (hc.2.1 p hp).trans (congrArg nI (b _)), hc.2.2⟩
theorem move2 (a b : Int32) : ∀ n i : Nat, ∀ u : PS, (∀ q, i ≤ q → q < i + n → (f1_moveOwners_L2 a b n i u) 6 q = if u 6 q = a then b else u 6 q) ∧ (∀ q, (q < i ∨ i + n ≤ q) → (f1_moveOwners_L2 a b n i u) 6 q = u 6 q) ∧ ∀ j, j ≠ 6 → (f1_moveOwners_L2 a b n i u) j = u j := by
  intro n
  induction n with
  | zero => intro i u; rw [f1_moveOwners_L2]; exact ⟨fun q h1 h2 => absurd h2 (by omega), fun _ _ => rfl, fun _ _ => rfl⟩
  | succ n ih =>
    intro i u
    rw [f1_moveOwners_L2]
    dsimp only [sq]
    by_cases z : u 6 i = a
    · rw [if_pos z]
      obtain ⟨h1, h2, h3⟩ := ih (i + 1) (wr u 6 i b)
      have r : ∀ q, (wr u 6 i b) 6 q = upd (u 6) i b q := fun _ => rfl
      refine ⟨fun q q1 q2 => ?_, fun q hq => ?_, fun j hj => ?_⟩
      · by_cases e : q = i
        · rw [h2 q (by omega), r, e, pk_us, if_pos z]
        · rw [h1 q (by omega) (by omega), r, pk_un e]
      · rw [h2 q (by omega), r, pk_un (by omega)]
      · rw [h3 j hj, wr_ne hj]
    · rw [if_neg z]
      obtain ⟨h1, h2, h3⟩ := ih (i + 1) u
      refine ⟨fun q q1 q2 => ?_, fun q hq => h2 q (by omega), h3⟩
      by_cases e : q = i
      · rw [h2 q (by omega), e, if_neg z]
      · exact h1 q (by omega) (by omega)
theorem move320 (u : PS) (a b : Int32) : ∃ V, f1_moveOwners_L2 a b 320 0 u = V ∧ (∀ q, q < 320 → V 6 q = if u 6 q = a then b else u 6 q) ∧ ∀ j, j ≠ 6 → V j = u j := by
  obtain ⟨h1, _, h3⟩ := move2 a b 320 0 u
  exact ⟨_, rfl, fun q hq => h1 q (Nat.zero_le q) (by omega), h3⟩
theorem cl_move {u U : PS} (hP : iP u) {f : Nat → Nat} (hf : good u f) (hc : clS u U f) {i j : Nat} (hi : i < 30) (hj : j < 30) (hij : i ≠ j) : ∃ V, f1_moveOwners U (nI j) (nI i) = V ∧ clS u V (fun p => if f p = j then i else f p) := by
  obtain ⟨V, hV, v6, vo⟩ := move320 U (nI j) (nI i)
  have m6 : ∀ q, q < 320 → mp6 u (fun p => if f p = j then i else f p) q = if mp6 u f q = nI j then nI i else mp6 u f q := fun q hq => by
    rcases spot_any hP hq with z | ⟨p, hp, z, ho⟩
    · rw [mp6_none z, mp6_none z, if_neg (fun y => e_neg (show j < 2 ^ 31 by omega) y.symm)]
    · rw [mp6_at hp z, mp6_at hp z]
      have := (hf p hp ho).1
      by_cases y : f p = j
      · rw [if_pos y, if_pos (congrArg nI y)]
      · rw [if_neg y, if_neg (fun t => y (e_inj (by omega) (by omega) t))]
  have oi : own (mpU u (fun p => if f p = j then i else f p)) (nI i) = own (mpU u f) (nI i) + own (mpU u f) (nI j) := by
    unfold own
    rw [← sm_plus]
    refine sm_congr 320 0 (fun k _ k2 => ?_)
    rw [mp_row, mp_row, m6 k (by omega)]
    by_cases y : mp6 u f k = nI j
    · rw [if_pos y, if_pos rfl, y, if_neg (fun t => hij (e_inj (by omega) (by omega) t).symm), if_pos rfl]
    · rw [if_neg y, if_neg y, Nat.add_zero]
  have oj : own (mpU u (fun p => if f p = j then i else f p)) (nI j) = 0 := by
    refine sm_zero 320 0 (fun k _ k2 => if_neg ?_)
    rw [mp_row, m6 k (by omega)]
    by_cases y : mp6 u f k = nI j
    · rw [if_pos y]; exact fun t => hij (e_inj (by omega) (by omega) t)
    · rw [if_neg y]; exact y
  have oo : ∀ p, p < 30 → p ≠ i → p ≠ j → own (mpU u (fun p => if f p = j then i else f p)) (nI p) = own (mpU u f) (nI p) := fun p hp p1 p2 => by
    refine sm_congr 320 0 (fun k _ k2 => ?_)
    rw [mp_row, mp_row, m6 k (by omega)]
    by_cases y : mp6 u f k = nI j
    · rw [if_pos y, y, if_neg (fun t => p1 (e_inj (by omega) (by omega) t).symm), if_neg (fun t => p2 (e_inj (by omega) (by omega) t).symm)]
    · rw [if_neg y]
  unfold f1_moveOwners
  rw [hV]
  dsimp only [sq]
  rw [nI_clamp (by omega), nI_clamp (by omega)]
  refine ⟨_, rfl, fun q hq => ?_, fun p hp => ?_, fun k k6 k8 => ?_⟩
  · rw [wr_ne (by decide), wr_ne (by decide), v6 q hq, hc.1 q hq, m6 q hq]
  · have r8 : V 8 = U 8 := vo 8 (by decide)
    show upd (upd (V 8) i (V 8 i + V 8 j)) j 0 p = _
    rw [r8]
    by_cases pj : p = j
    · rw [pj, pk_us, oj]; rfl
    · rw [pk_un pj]
      by_cases pi : p = i
      · rw [pi, pk_us, oi, hc.2.1 i hi, hc.2.1 j hj, nI_add]
      · rw [pk_un pi, oo p hp pi pj]; exact hc.2.1 p hp
  · rw [wr_ne k8, wr_ne k8, vo k k6, hc.2.2 k k6 k8]
/-- the lowest piece with the same value -/
theorem reps (u : PS) : ∃ r : Nat → Nat, ∀ p, p < 30 → Own u p → r p ≤ p ∧ Own u (r p) ∧ u 7 (r p) = u 7 p ∧ ∀ q, q < r p → ¬ (Own u q ∧ u 7 q = u 7 p) := by
  have ex : ∀ p : Nat, ∃ k : Nat, p < 30 → Own u p → k ≤ p ∧ Own u k ∧ u 7 k = u 7 p ∧ ∀ q, q < k → ¬ (Own u q ∧ u 7 q = u 7 p) := by
   intro p
   by_cases h : p < 30 ∧ Own u p
   · obtain ⟨k, ⟨k1, k2⟩, k3⟩ := pk_least (fun k => Own u k ∧ u 7 k = u 7 p) ⟨p, h.2, rfl⟩
     refine ⟨k, fun _ _ => ⟨?_, k1, k2, k3⟩⟩
     rcases Nat.lt_or_ge p k with z | z
     · exact absurd ⟨h.2, rfl⟩ (k3 p z)
     · exact z
   · exact ⟨0, fun a b => absurd ⟨a, b⟩ h⟩
  exact ⟨fun p => Classical.choose (ex p), fun p => Classical.choose_spec (ex p)⟩
section MRG
variable {u : PS} {r : Nat → Nat} (hr : ∀ p, p < 30 → Own u p → r p ≤ p ∧ Own u (r p) ∧ u 7 (r p) = u 7 p ∧ ∀ q, q < r p → ¬ (Own u q ∧ u 7 q = u 7 p))
def chi (r : Nat → Nat) (i j : Nat) : Nat → Nat := fun p => if r p < i then r p else if r p = i ∧ p < j then i else p
def psi (r : Nat → Nat) (j : Nat) : Nat → Nat := fun p => if p < j then r p else p
theorem chi_good (hr : ∀ p, p < 30 → Own u p → r p ≤ p ∧ Own u (r p) ∧ u 7 (r p) = u 7 p ∧ ∀ q, q < r p → ¬ (Own u q ∧ u 7 q = u 7 p)) (i j : Nat) : good u (chi r i j) := fun p hp ho => by
  obtain ⟨a, b, _⟩ := hr p hp ho
  unfold chi
  by_cases h1 : r p < i
  · rw [if_pos h1]; exact ⟨by omega, b⟩
  · rw [if_neg h1]
    by_cases h2 : r p = i ∧ p < j
    · rw [if_pos h2, ← h2.1]; exact ⟨by omega, b⟩
    · rw [if_neg h2]; exact ⟨hp, ho⟩
theorem psi_good (hr : ∀ p, p < 30 → Own u p → r p ≤ p ∧ Own u (r p) ∧ u 7 (r p) = u 7 p ∧ ∀ q, q < r p → ¬ (Own u q ∧ u 7 q = u 7 p)) (j : Nat) : good u (psi r j) := fun p hp ho => by
  obtain ⟨a, b, _⟩ := hr p hp ho
  unfold psi
  by_cases h1 : p < j
  · rw [if_pos h1]; exact ⟨by omega, b⟩
  · rw [if_neg h1]; exact ⟨hp, ho⟩
theorem rep_rep (hr : ∀ p, p < 30 → Own u p → r p ≤ p ∧ Own u (r p) ∧ u 7 (r p) = u 7 p ∧ ∀ q, q < r p → ¬ (Own u q ∧ u 7 q = u 7 p)) {p : Nat} (hp : p < 30) (ho : Own u p) : r (r p) = r p := by
  obtain ⟨a, b, c, d⟩ := hr p hp ho
  obtain ⟨a2, b2, c2, d2⟩ := hr (r p) (by omega) b
  rcases Nat.lt_or_ge (r (r p)) (r p) with z | z
  · exact absurd ⟨b2, c2.trans c⟩ (d _ z)
  · omega
/-- the class's test: the later piece's place is at the earlier one -/
theorem chi_test (hP : iP u) (hr : ∀ p, p < 30 → Own u p → r p ≤ p ∧ Own u (r p) ∧ u 7 (r p) = u 7 p ∧ ∀ q, q < r p → ¬ (Own u q ∧ u 7 q = u 7 p)) {U : PS} {i j : Nat} (hj : j < 30) (hij : i < j) (hc : clS u U (chi r i j)) : (¬ U 8 i ≤ 0 ∧ ¬ U 8 j ≤ 0 ∧ U 7 i = U 7 j) ↔ (Own u j ∧ r j = i) := by
  have g := chi_good hr i j
  have p8 : ∀ q, q < 30 → (¬ U 8 q ≤ 0 ↔ ∃ p, p < 30 ∧ Own u p ∧ chi r i j p = q) := fun q hq => by
    rw [hc.2.1 q hq, ← mp_own hP g hq]
    have ol := own_le (mpU u (chi r i j)) (nI q)
    constructor
    · intro h
      rcases Nat.eq_zero_or_pos (own (mpU u (chi r i j)) (nI q)) with z | z
      · rw [z] at h; exact absurd (by decide) h
      · exact z
    · intro h; exact nI_nle h (by omega)
  rw [p8 i (by omega), p8 j hj, hc.2.2 7 (by decide) (by decide)]
  constructor
  · rintro ⟨⟨p, hp, ho, e⟩, ⟨p2, hp2, ho2, e2⟩, e3⟩
    obtain ⟨a, b, c, d⟩ := hr p hp ho
    obtain ⟨a2, b2, c2, d2⟩ := hr p2 hp2 ho2
    -- i is a piece that stands for itself
    have oi : Own u i ∧ r i = i := by
      unfold chi at e
      by_cases h1 : r p < i
      · rw [if_pos h1] at e; omega
      · rw [if_neg h1] at e
        by_cases h2 : r p = i ∧ p < j
        · rw [← h2.1]; exact ⟨b, rep_rep hr hp ho⟩
        · rw [if_neg h2] at e
          subst e
          exact ⟨ho, by omega⟩
    have oj : Own u j ∧ i ≤ r j := by
      unfold chi at e2
      by_cases h1 : r p2 < i
      · rw [if_pos h1] at e2; omega
      · rw [if_neg h1] at e2
        by_cases h2 : r p2 = i ∧ p2 < j
        · rw [if_pos h2] at e2; omega
        · rw [if_neg h2] at e2
          subst e2
          exact ⟨ho2, by omega⟩
    refine ⟨oj.1, ?_⟩
    obtain ⟨_, _, _, d3⟩ := hr j hj oj.1
    rcases Nat.lt_or_ge i (r j) with z | z
    · exact absurd ⟨oi.1, e3⟩ (d3 i z)
    · omega
  · rintro ⟨oj, e⟩
    obtain ⟨a, b, c, d⟩ := hr j hj oj
    have ri : r i = i := by rw [← e]; exact rep_rep hr hj oj
    refine ⟨⟨i, by omega, by rw [← e]; exact b, ?_⟩, ⟨j, hj, oj, ?_⟩, ?_⟩
    · unfold chi
      rw [ri, if_neg (Nat.lt_irrefl i)]
      split <;> rfl
    · unfold chi
      rw [e, if_neg (Nat.lt_irrefl i), if_neg (by omega)]
    · rw [← e]; exact c
/-- how many pieces go to piece i -/
theorem cl_inner (hP : iP u) (hr : ∀ p, p < 30 → Own u p → r p ≤ p ∧ Own u (r p) ∧ u 7 (r p) = u 7 p ∧ ∀ q, q < r p → ¬ (Own u q ∧ u 7 q = u 7 p)) {i : Nat} : ∀ n j a : Nat, ∀ U : PS, j + n = 30 → i < j → clS u U (chi r i j) → ∃ V, f1_mergePieces_L14 i n j (nI a) U = (nI (a + sm (fun p => if 0 < own u (nI p) ∧ r p = i then 1 else 0) n j), V) ∧ clS u V (chi r i 30) := by
  intro n
  induction n with
  | zero =>
    intro j a U hj hij hc
    rw [f1_mergePieces_L14]
    have : j = 30 := by omega
    subst this
    exact ⟨U, rfl, hc⟩
  | succ n ih =>
    intro j a U hj hij hc
    rw [f1_mergePieces_L14]
    dsimp only [sq]
    have t := chi_test hP hr (show j < 30 by omega) hij hc
    show ∃ V, _ = (nI (a + ((if 0 < own u (nI j) ∧ r j = i then 1 else 0) + sm (fun p => if 0 < own u (nI p) ∧ r p = i then 1 else 0) n (j + 1))), V) ∧ _
    by_cases z : Own u j ∧ r j = i
    · obtain ⟨t1, t2, t3⟩ := t.mpr z
      rw [if_neg t1, if_neg t2, if_pos t3, if_pos z]
      obtain ⟨V, hV, hc2⟩ := cl_move hP (chi_good hr i j) hc (show i < 30 by omega) (show j < 30 by omega) (by omega)
      rw [hV, show nI a + 1 = nI (a + 1) from nI_1 a, ← Nat.add_assoc]
      refine ih (j + 1) (a + 1) V (by omega) (by omega) (clS_congr hP (fun p hp ho => ?_) hc2)
      show (if chi r i j p = j then i else chi r i j p) = chi r i (j + 1) p
      unfold chi
      obtain ⟨b1, _, _, _⟩ := hr p hp ho
      by_cases h1 : r p < i
      · rw [if_pos h1, if_pos h1, if_neg (by omega)]
      · rw [if_neg h1, if_neg h1]
        by_cases h2 : r p = i ∧ p < j
        · rw [if_pos h2, if_neg (by omega), if_pos ⟨h2.1, by omega⟩]
        · rw [if_neg h2]
          by_cases h3 : p = j
          · rw [if_pos h3, if_pos ⟨by rw [h3]; exact z.2, by omega⟩]
          · rw [if_neg h3, if_neg (fun y => h2 ⟨y.1, by omega⟩)]
    · rw [if_neg z, Nat.zero_add]
      have nx : clS u U (chi r i (j + 1)) := clS_congr hP (fun p hp ho => by
        unfold chi
        by_cases h1 : r p < i
        · rw [if_pos h1, if_pos h1]
        · rw [if_neg h1, if_neg h1]
          by_cases h2 : r p = i ∧ p < j
          · rw [if_pos h2, if_pos ⟨h2.1, by omega⟩]
          · rw [if_neg h2, if_neg (fun y => by
              by_cases h3 : p = j
              · subst h3; exact z ⟨ho, y.1⟩
              · exact h2 ⟨y.1, by omega⟩)]) hc
      have go := ih (j + 1) a U (by omega) (by omega) nx
      by_cases c1 : U 8 i ≤ 0
      · rw [if_pos c1]; exact go
      · rw [if_neg c1]
        by_cases c2 : U 8 j ≤ 0
        · rw [if_pos c2]; exact go
        · rw [if_neg c2, if_neg (fun c3 => z (t.mp ⟨c1, c2, c3⟩))]; exact go
theorem cl_outer (hP : iP u) (hr : ∀ p, p < 30 → Own u p → r p ≤ p ∧ Own u (r p) ∧ u 7 (r p) = u 7 p ∧ ∀ q, q < r p → ¬ (Own u q ∧ u 7 q = u 7 p)) : ∀ n i a : Nat, ∀ U : PS, i + n = 30 → clS u U (fun p => if r p < i then r p else p) → ∃ V, f1_mergePieces_L4 n i (nI a) U = (nI (a + sm (fun i => sm (fun p => if i < p ∧ 0 < own u (nI p) ∧ r p = i then 1 else 0) 30 0) n i), V) ∧ clS u V r := by
  intro n
  induction n with
  | zero =>
    intro i a U hi hc
    rw [f1_mergePieces_L4]
    refine ⟨U, rfl, clS_congr hP (fun p hp ho => ?_) hc⟩
    obtain ⟨b1, _, _, _⟩ := hr p hp ho
    show (if r p < i then r p else p) = r p
    rw [if_pos (by omega)]
  | succ n ih =>
    intro i a U hi hc
    rw [f1_mergePieces_L4]
    dsimp only [sq2]
    have c0 : clS u U (chi r i (i + 1)) := clS_congr hP (fun p hp ho => by
      obtain ⟨b1, _, _, _⟩ := hr p hp ho
      unfold chi
      by_cases h1 : r p < i
      · rw [if_pos h1, if_pos h1]
      · rw [if_neg h1, if_neg h1]
        by_cases h2 : r p = i ∧ p < i + 1
        · rw [if_pos h2]; omega
        · rw [if_neg h2]) hc
    obtain ⟨V, hV, hcV⟩ := cl_inner hP hr (30 - (i + 1)) (i + 1) a U (by omega) (by omega) c0
    rw [hV]
    dsimp only
    obtain ⟨W, hW, hcW⟩ := ih (i + 1) (a + sm (fun p => if 0 < own u (nI p) ∧ r p = i then 1 else 0) (30 - (i + 1)) (i + 1)) V (by omega) (clS_congr hP (fun p hp ho => by
      obtain ⟨b1, _, _, _⟩ := hr p hp ho
      unfold chi
      by_cases h1 : r p < i
      · rw [if_pos h1, if_pos (by omega)]
      · rw [if_neg h1]
        by_cases h2 : r p = i ∧ p < 30
        · rw [if_pos h2, if_pos (by omega), h2.1]
        · rw [if_neg h2]
          by_cases h3 : r p < i + 1
          · exact absurd ⟨by omega, hp⟩ h2
          · rw [if_neg h3]) hcV)
    rw [hW]
    refine ⟨W, ?_, hcW⟩
    refine congrArg (fun z => (nI z, W)) ?_
    show _ = a + (sm (fun p => if i < p ∧ 0 < own u (nI p) ∧ r p = i then 1 else 0) 30 0 + _)
    have sp := sm_split (g := fun p => if i < p ∧ 0 < own u (nI p) ∧ r p = i then 1 else 0) (30 - (i + 1)) (i + 1) 0
    rw [show i + 1 + (30 - (i + 1)) = 30 by omega, sm_zero (i + 1) 0 (fun k _ k2 => if_neg (by omega)), Nat.zero_add, Nat.zero_add] at sp
    rw [sp, sm_congr (30 - (i + 1)) (i + 1) (fun k k1 _ => e_ifc (P := i < k ∧ 0 < own u (nI k) ∧ r k = i) (Q := 0 < own u (nI k) ∧ r k = i) ⟨fun y => y.2, fun y => ⟨by omega, y⟩⟩)]
    omega
theorem cl_count (hr : ∀ p, p < 30 → Own u p → r p ≤ p ∧ Own u (r p) ∧ u 7 (r p) = u 7 p ∧ ∀ q, q < r p → ¬ (Own u q ∧ u 7 q = u 7 p)) : sm (fun i => sm (fun p => if i < p ∧ 0 < own u (nI p) ∧ r p = i then 1 else 0) 30 0) 30 0 = sm (fun p => if 0 < own u (nI p) ∧ r p < p then 1 else 0) 30 0 := by
  rw [sm_comm (g := fun i p => if i < p ∧ 0 < own u (nI p) ∧ r p = i then 1 else 0) 30 0 30 0]
  refine sm_congr 30 0 (fun p _ p2 => ?_)
  by_cases z : 0 < own u (nI p) ∧ r p < p
  · rw [if_pos z]
    have O := sm_one (g := fun i => if i < p ∧ 0 < own u (nI p) ∧ r p = i then 1 else 0) (h := fun _ => 0) (r p) 30 0 (Nat.zero_le _) (by omega) (fun k _ _ k3 => if_neg (fun y => k3 y.2.2.symm))
    rw [if_pos ⟨z.2, z.1, rfl⟩, sm_zero 30 0 (g := fun _ => 0) (fun _ _ _ => rfl)] at O
    omega
  · rw [if_neg z]
    exact sm_zero 30 0 (fun k _ _ => if_neg (fun y => z ⟨y.2.1, by omega⟩))
end MRG
