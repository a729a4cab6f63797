/-! Merging: the model, and both. -/
def mS (u : PS) (s : Nat → Int32) (f : Nat → Nat) (t : Nat → Int32) : Prop := (∀ q, (∀ v k, v < 8 → k < 40 → 0 < u 0 v → q ≠ 74 + 47 * v + k) → t q = s q) ∧ ∀ v k, v < 8 → k < 40 → 0 < u 0 v → t (74 + 47 * v + k) = mp6 u f (40 * v + k)
theorem RI_mp {u : PS} {s t : Nat → Int32} {f : Nat → Nat} (h : RI u s) (hf : good u f) (ht : mS u s f t) : RI (mpU u f) t := by
  obtain ⟨t1, t2⟩ := ht
  have e0 : (mpU u f) 0 = u 0 := mp_ne u f (by decide) (by decide)
  have e1 : (mpU u f) 1 = u 1 := mp_ne u f (by decide) (by decide)
  have e2 : (mpU u f) 2 = u 2 := mp_ne u f (by decide) (by decide)
  have e3 : (mpU u f) 3 = u 3 := mp_ne u f (by decide) (by decide)
  have e4 : (mpU u f) 4 = u 4 := mp_ne u f (by decide) (by decide)
  have e5 : (mpU u f) 5 = u 5 := mp_ne u f (by decide) (by decide)
  have e7 : (mpU u f) 7 = u 7 := mp_ne u f (by decide) (by decide)
  have e9 : (mpU u f) 9 = u 9 := mp_ne u f (by decide) (by decide)
  have e10 : (mpU u f) 10 = u 10 := mp_ne u f (by decide) (by decide)
  have e11 : (mpU u f) 11 = u 11 := mp_ne u f (by decide) (by decide)
  have e12 : (mpU u f) 12 = u 12 := mp_ne u f (by decide) (by decide)
  have e13 : (mpU u f) 13 = u 13 := mp_ne u f (by decide) (by decide)
  have e6 := mp_row u f
  have mp_in : ∀ w k, w < 8 → k < 40 → mp6 u f (40 * w + k) = -1 ∨ (vp_in (mp6 u f (40 * w + k)) 30 ∧ nI k < u 0 w) := fun w k hw hk => by
    rcases e_spot h.iP hw hk with z | ⟨p, hp, z, hs⟩
    · exact Or.inl (mp6_none z)
    · rw [mp6_at hp z]
      exact Or.inr ⟨vp_in_nI (hf p hp (own_pos (by omega) z)).1 (by decide), hs⟩
  refine ⟨⟨fun w hw => ?_, fun w hw hl => ?_, fun w k hw hk hl => ?_, fun p hp => ?_, fun i hi => ?_, ⟨?_, ?_, ?_, ?_⟩, fun i hi => ⟨?_, ?_, ?_⟩, fun a ha => ?_, fun a k ha hk => ?_⟩, fun w hw => ?_, fun w k hw hk => ?_, fun w hw => ?_, fun w hw => ?_, fun w hw => ?_, ?_, fun p hp => mp_8 u f p, ?_, ?_⟩
  · rw [e0, t1 _ (fun v k _ _ _ => by omega)]; exact h.L w hw
  · rw [e0] at hl
    rw [e0, e1, e2, e3, e4, e5, t1 _ (fun v k _ _ _ => by omega), t1 _ (fun v k _ _ _ => by omega), t1 _ (fun v k _ _ _ => by omega), t1 _ (fun v k _ _ _ => by omega), t1 _ (fun v k _ _ _ => by omega), t1 _ (fun v k _ _ _ => by omega)]
    exact h.V w hw hl
  · rw [e0] at hl
    rw [e6]; exact t2 w k hw hk hl
  · rw [e7, t1 _ (fun v k _ _ _ => by omega)]; exact h.D p hp
  · rw [e9, t1 _ (fun v k _ _ _ => by omega)]; exact h.E i hi
  · rw [e13, t1 _ (fun v k _ _ _ => by omega)]; exact h.S.1
  · rw [e13, t1 _ (fun v k _ _ _ => by omega)]; exact h.S.2.1
  · rw [e13, t1 _ (fun v k _ _ _ => by omega)]; exact h.S.2.2.1
  · rw [e13, t1 _ (fun v k _ _ _ => by omega)]; exact h.S.2.2.2
  · rw [e10, t1 _ (fun v k _ _ _ => by omega)]; exact (h.W i hi).1
  · rw [e11, t1 _ (fun v k _ _ _ => by omega)]; exact (h.W i hi).2.1
  · rw [e12, t1 _ (fun v k _ _ _ => by omega)]; exact (h.W i hi).2.2
  · rw [t1 _ (fun v k _ _ _ => by omega)]; exact h.M.1 a ha
  · by_cases hl : 0 < u 0 a
    · rw [t2 a k ha hk hl]
      rcases mp_in a k ha hk with z | ⟨z, _⟩
      · rw [z]; decide
      · rw [vp_in_iff] at z; omega
    · rw [t1 _ (fun v i hv hi hl2 q => by
        have : v = a := by omega
        rw [this] at hl2; exact hl hl2)]
      exact h.M.2 a k ha hk
  · rw [e0]; exact h.iS w hw
  · rw [e0, e6]; exact mp_in w k hw hk
  · rw [e1]; exact h.iM w hw
  · rw [e0, e2]; exact h.iQ w hw
  · rw [e0, e3]; exact h.iA w hw
  · obtain ⟨rk, hr⟩ := h.iT
    exact ⟨rk, fun x y hx hy e => hr x y hx hy (by rw [← e3]; exact e)⟩
  · show prs (mpU u f) ≤ fre (mpU u f)
    have p : prs (mpU u f) = prs u := by unfold prs; rw [e2]
    have m : fre u ≤ fre (mpU u f) := sm_mono 30 0 (fun q _ q2 => by
      by_cases z : u 8 q = 0
      · rw [if_pos z, mp_8]
        have n0 : own (mpU u f) (nI q) = 0 := by
          rcases Nat.eq_zero_or_pos (own (mpU u f) (nI q)) with y | y
          · exact y
          · obtain ⟨p, hp, ho, e⟩ := (mp_own h.iP hf (show q < 30 by omega)).mp y
            have oq := (hf p hp ho).2
            rw [e] at oq
            have o := h.iO q (by omega)
            rw [z] at o
            have ol := own_le u (nI q)
            have := e_inj (a := 0) (by omega) (by omega) o
            have : 0 < own u (nI q) := oq
            omega
        rw [n0, if_pos (show nI 0 = 0 from rfl)]; exact Nat.le_refl _
      · rw [if_neg z]; exact Nat.zero_le _)
    have f2 : prs u ≤ fre u := h.iF
    omega
  · refine ⟨?_, fun j hj => ?_⟩
    · rw [e13]; exact h.iK.1
    · rw [e9]; exact h.iK.2 j hj
theorem mp6_move {u : PS} (hP : iP u) {f : Nat → Nat} (hf : good u f) {i j : Nat} (hi : i < 30) (hj : j < 30) : ∀ q, q < 320 → mp6 u (fun p => if f p = j then i else f p) q = if mp6 u f q = nI j then nI i else mp6 u f q := fun q hq => by
  rcases spot_any hP hq with z | ⟨p, hp, z, ho⟩
  · rw [mp6_none z, mp6_none z, if_neg (fun y => e_neg (show j < 2 ^ 31 by omega) y.symm)]
  · rw [mp6_at hp z, mp6_at hp z]
    have := (hf p hp ho).1
    by_cases y : f p = j
    · rw [if_pos y, if_pos (congrArg nI y)]
    · rw [if_neg y, if_neg (fun t => y (e_inj (by omega) (by omega) t))]
theorem mv11 (a b : Int32) {v : Nat} (hv : v < 8) : ∀ n i : Nat, ∀ τ : PS, i + n = 40 → τ 0 (67 + 47 * v) = 1 → (∀ k, i ≤ k → k < 40 → (f6_moves_L11 a b v n i τ) 0 (74 + 47 * v + k) = if τ 0 (74 + 47 * v + k) = a then b else τ 0 (74 + 47 * v + k)) ∧ (∀ q, (q < 74 + 47 * v + i ∨ 114 + 47 * v ≤ q) → (f6_moves_L11 a b v n i τ) 0 q = τ 0 q) ∧ ∀ j, j ≠ 0 → (f6_moves_L11 a b v n i τ) j = τ j := by
  intro n
  induction n with
  | zero => intro i τ hi _; rw [f6_moves_L11]; exact ⟨fun k h1 h2 => absurd h2 (by omega), fun _ _ => rfl, fun _ _ => rfl⟩
  | succ n ih =>
    intro i τ hi hl
    rw [f6_moves_L11, e_of0 hv, hl, if_pos rfl, e_piece hv (by omega)]
    dsimp only [sq]
    rw [e_putp hv (by omega), e_putp hv (by omega)]
    have both : (if τ 0 (74 + 47 * v + i) = a then f6_moves_L11 a b v n (i + 1) (wr τ 0 (74 + 47 * v + i) b) else f6_moves_L11 a b v n (i + 1) (wr τ 0 (74 + 47 * v + i) (τ 0 (74 + 47 * v + i)))) = f6_moves_L11 a b v n (i + 1) (wr τ 0 (74 + 47 * v + i) (if τ 0 (74 + 47 * v + i) = a then b else τ 0 (74 + 47 * v + i))) := by split <;> rfl
    rw [both]
    generalize hx : (if τ 0 (74 + 47 * v + i) = a then b else τ 0 (74 + 47 * v + i)) = x
    have r0 : ∀ q, (wr τ 0 (74 + 47 * v + i) x) 0 q = upd (τ 0) (74 + 47 * v + i) x q := fun _ => rfl
    obtain ⟨h1, h2, h3⟩ := ih (i + 1) (wr τ 0 (74 + 47 * v + i) x) (by omega) (by rw [r0, pk_un (by omega)]; exact hl)
    refine ⟨fun k k1 k2 => ?_, fun q hq => ?_, fun j hj => ?_⟩
    · by_cases e : k = i
      · subst e; rw [h2 _ (by omega), r0, pk_us, hx]
      · rw [h1 k (by omega) k2, r0, pk_un (by omega)]
    · rw [h2 q (by omega), r0, pk_un (by omega)]
    · rw [h3 j hj, wr_ne hj]
theorem mv11d (a b : Int32) {v : Nat} (hv : v < 8) (n i : Nat) {τ : PS} (h : τ 0 (67 + 47 * v) = 0) : f6_moves_L11 a b v n i τ = τ := by
  cases n with
  | zero => rw [f6_moves_L11]
  | succ n => rw [f6_moves_L11, e_of0 hv, h, if_neg ne01]
theorem mv2 (a b : Int32) : ∀ n i : Nat, ∀ τ : PS, i + n = 8 → (∀ v, v < 8 → τ 0 (67 + 47 * v) = 1 ∨ τ 0 (67 + 47 * v) = 0) → (∀ v k, i ≤ v → v < 8 → k < 40 → τ 0 (67 + 47 * v) = 1 → (f6_moves_L2 a b n i τ) 0 (74 + 47 * v + k) = if τ 0 (74 + 47 * v + k) = a then b else τ 0 (74 + 47 * v + k)) ∧ (∀ q, (∀ v k, i ≤ v → v < 8 → k < 40 → τ 0 (67 + 47 * v) = 1 → q ≠ 74 + 47 * v + k) → (f6_moves_L2 a b n i τ) 0 q = τ 0 q) ∧ ∀ j, j ≠ 0 → (f6_moves_L2 a b n i τ) j = τ j := by
  intro n
  induction n with
  | zero => intro i τ hi _; rw [f6_moves_L2]; exact ⟨fun v k h1 h2 => absurd h2 (by omega), fun _ _ => rfl, fun _ _ => rfl⟩
  | succ n ih =>
    intro i τ hi hfl
    rw [f6_moves_L2]
    dsimp only [sq]
    have hi8 : i < 8 := by omega
    rcases hfl i hi8 with l | l
    · obtain ⟨b1, b2, b3⟩ := mv11 a b hi8 40 0 τ rfl l
      obtain ⟨σ, hσ⟩ : ∃ σ, f6_moves_L11 a b i 40 0 τ = σ := ⟨_, rfl⟩
      rw [hσ] at b1 b2 b3 ⊢
      have fl : ∀ v, v < 8 → σ 0 (67 + 47 * v) = τ 0 (67 + 47 * v) := fun v hv => b2 _ (by omega)
      obtain ⟨c1, c2, c3⟩ := ih (i + 1) σ (by omega) (fun v hv => by rw [fl v hv]; exact hfl v hv)
      refine ⟨fun v k h1 h2 h3 h4 => ?_, fun q hq => ?_, fun j hj => (c3 j hj).trans (b3 j hj)⟩
      · by_cases e : v = i
        · subst e
          rw [c2 _ (fun w k2 w1 w2 w3 _ => by omega)]
          exact b1 k (Nat.zero_le k) h3
        · have hb : σ 0 (74 + 47 * v + k) = τ 0 (74 + 47 * v + k) := b2 _ (by omega)
          rw [c1 v k (by omega) h2 h3 (by rw [fl v h2]; exact h4), hb]
      · rw [c2 q (fun w k2 w1 w2 w3 w4 => hq w k2 (by omega) w2 w3 (by rw [← fl w w2]; exact w4))]
        refine b2 q ?_
        rcases Nat.lt_or_ge q (74 + 47 * i + 0) with z | z
        · exact Or.inl z
        · rcases Nat.lt_or_ge q (114 + 47 * i) with y | y
          · exact absurd (show q = 74 + 47 * i + (q - (74 + 47 * i)) by omega) (hq i (q - (74 + 47 * i)) (Nat.le_refl i) hi8 (by omega) l)
          · exact Or.inr y
    · rw [mv11d a b hi8 40 0 l]
      obtain ⟨c1, c2, c3⟩ := ih (i + 1) τ (by omega) hfl
      refine ⟨fun v k h1 h2 h3 h4 => ?_, fun q hq => ?_, c3⟩
      · have e : v ≠ i := fun e => by rw [e, l] at h4; exact absurd h4 (by decide)
        exact c1 v k (by omega) h2 h3 h4
      · exact c2 q (fun w k2 w1 w2 w3 w4 => hq w k2 (by omega) w2 w3 w4)
theorem mo_move {u : PS} {s : Nat → Int32} (h : RI u s) {f : Nat → Nat} (hf : good u f) {τ : PS} (ht : mS u s f (τ 0)) {i j : Nat} (hi : i < 30) (hj : j < 30) : ∃ ν, f6_moves τ (nI j) (nI i) = ν ∧ mS u s (fun p => if f p = j then i else f p) (ν 0) ∧ ∀ k, k ≠ 0 → ν k = τ k := by
  obtain ⟨t1, t2⟩ := ht
  have fl : ∀ v, v < 8 → τ 0 (67 + 47 * v) = s (67 + 47 * v) := fun v hv => t1 _ (fun w k _ _ _ => by omega)
  obtain ⟨a, b, c⟩ := mv2 (nI j) (nI i) 8 0 τ rfl (fun v hv => by
    rw [fl v hv]
    rcases h.L v hv with ⟨_, z⟩ | ⟨_, z⟩
    · exact Or.inl z
    · exact Or.inr z)
  have lv : ∀ v, v < 8 → (τ 0 (67 + 47 * v) = 1 ↔ 0 < u 0 v) := fun v hv => by
    rw [fl v hv]
    rcases h.L v hv with ⟨y, z⟩ | ⟨y, z⟩
    · exact ⟨fun _ => y, fun _ => z⟩
    · rw [z, y]; exact ⟨fun q => absurd q (by decide), fun q => absurd q (by decide)⟩
  unfold f6_moves
  dsimp only [sq]
  refine ⟨_, rfl, ⟨fun q hq => ?_, fun v k hv hk hl => ?_⟩, c⟩
  · rw [b q (fun v k _ v2 k2 v3 => hq v k v2 k2 ((lv v v2).mp v3))]
    exact t1 q hq
  · rw [a v k (Nat.zero_le v) hv hk ((lv v hv).mpr hl), t2 v k hv hk hl, mp6_move h.iP hf hi hj _ (by omega)]
theorem mS_congr {u : PS} {s t : Nat → Int32} (hP : iP u) {f g : Nat → Nat} (h : ∀ p, p < 30 → Own u p → f p = g p) (hc : mS u s f t) : mS u s g t := ⟨hc.1, fun v k hv hk hl => (hc.2 v k hv hk hl).trans ((mp_congr hP h).1 _ (by omega))⟩
section MR2
variable {u : PS} {r : Nat → Nat}
theorem mo_17 (τ : PS) (j : Nat) (T : Nat → Prop) (hT : ∀ q, q < j → (T q ↔ τ 0 (7 + q) = τ 0 (7 + j) ∧ ¬ f6_owners τ (nI q) ≤ 0)) : ∀ n x, n ≤ j → (∀ q, q < n → T q → (∀ q2, q2 < q → ¬ T q2) → f6_merges_L17 τ j n x = nI q) ∧ ((∀ q, q < n → ¬ T q) → f6_merges_L17 τ j n x = x) := by
  intro n
  induction n with
  | zero => intro x _; exact ⟨fun q h => absurd h (Nat.not_lt_zero q), fun _ => by rw [f6_merges_L17]⟩
  | succ n ih =>
    intro x hn
    rw [f6_merges_L17]
    have tn := hT n (by omega)
    by_cases z : T n
    · obtain ⟨z1, z2⟩ := tn.mp z
      rw [if_pos z1, if_neg z2]
      obtain ⟨a, b⟩ := ih (nI n) (by omega)
      refine ⟨fun q h1 h2 h3 => ?_, fun h => absurd z (h n (by omega))⟩
      by_cases e : q = n
      · subst e; exact b h3
      · exact a q (by omega) h2 h3
    · obtain ⟨a, b⟩ := ih x (by omega)
      have same : (if τ 0 (7 + n) = τ 0 (7 + j) then (if f6_owners τ (nI n) ≤ 0 then f6_merges_L17 τ j n x else f6_merges_L17 τ j n (nI n)) else f6_merges_L17 τ j n x) = f6_merges_L17 τ j n x := by
        by_cases y1 : τ 0 (7 + n) = τ 0 (7 + j)
        · rw [if_pos y1]
          by_cases y2 : f6_owners τ (nI n) ≤ 0
          · rw [if_pos y2]
          · exact absurd (tn.mpr ⟨y1, y2⟩) z
        · rw [if_neg y1]
      rw [same]
      refine ⟨fun q h1 h2 h3 => ?_, fun h => b (fun q hq => h q (by omega))⟩
      by_cases e : q = n
      · subst e; exact absurd h2 z
      · exact a q (by omega) h2 h3
theorem mo_loop {s : Nat → Int32} (h : RI u s) (hr : ∀ p, p < 30 → Own u p → r p ≤ p ∧ Own u (r p) ∧ u 7 (r p) = u 7 p ∧ ∀ q, q < r p → ¬ (Own u q ∧ u 7 q = u 7 p)) : ∀ n j a : Nat, ∀ τ : PS, j + n = 30 → mS u s (psi r j) (τ 0) → ∃ ν, f6_merges_L4 n j (nI a) τ = (nI (a + sm (fun p => if 0 < own u (nI p) ∧ r p < p then 1 else 0) n j), ν) ∧ mS u s r (ν 0) ∧ ∀ k, k ≠ 0 → ν k = τ k := by
  intro n
  induction n with
  | zero =>
    intro j a τ hj hc
    rw [f6_merges_L4]
    refine ⟨τ, rfl, mS_congr h.iP (fun p hp ho => ?_) hc, fun _ _ => rfl⟩
    unfold psi
    rw [if_pos (by omega)]
  | succ n ih =>
    intro j a τ hj hc
    have hj30 : j < 30 := by omega
    have g := psi_good hr j
    have R := RI_mp h g hc
    have e7 : (mpU u (psi r j)) 7 = u 7 := mp_ne u _ (by decide) (by decide)
    have val : ∀ q, q < 30 → τ 0 (7 + q) = u 7 q := fun q hq => by rw [R.D q hq, e7]
    have ow : ∀ q, q < 30 → (¬ f6_owners τ (nI q) ≤ 0 ↔ ∃ p, p < 30 ∧ Own u p ∧ psi r j p = q) := fun q hq => by
      rw [e_owners R (e_neg (by omega)), ← mp_own h.iP g hq]
      have ol := own_le (mpU u (psi r j)) (nI q)
      constructor
      · intro y
        rcases Nat.eq_zero_or_pos (own (mpU u (psi r j)) (nI q)) with z | z
        · rw [z] at y; exact absurd (by decide) y
        · exact z
      · intro y; exact nI_nle y (by omega)
    have owj : ¬ f6_owners τ (nI j) ≤ 0 ↔ Own u j := by
      rw [ow j hj30]
      constructor
      · rintro ⟨p, hp, ho, e⟩
        unfold psi at e
        obtain ⟨b1, _, _, _⟩ := hr p hp ho
        by_cases z : p < j
        · rw [if_pos z] at e; omega
        · rw [if_neg z] at e; rw [← e]; exact ho
      · intro y
        exact ⟨j, hj30, y, by unfold psi; rw [if_neg (Nat.lt_irrefl j)]⟩
    have T : ∀ q, q < j → ((Own u q ∧ r q = q ∧ u 7 q = u 7 j) ↔ τ 0 (7 + q) = τ 0 (7 + j) ∧ ¬ f6_owners τ (nI q) ≤ 0) := fun q hq => by
      rw [val q (by omega), val j hj30, ow q (by omega)]
      constructor
      · rintro ⟨y1, y2, y3⟩
        exact ⟨y3, q, by omega, y1, by unfold psi; rw [if_pos hq]; exact y2⟩
      · rintro ⟨y3, p, hp, ho, e⟩
        unfold psi at e
        by_cases z : p < j
        · rw [if_pos z] at e
          obtain ⟨_, b2, _, _⟩ := hr p hp ho
          rw [← e]
          exact ⟨b2, rep_rep hr hp ho, by rw [e]; exact y3⟩
        · rw [if_neg z] at e; omega
    obtain ⟨f1, f2⟩ := mo_17 τ j (fun q => Own u q ∧ r q = q ∧ u 7 q = u 7 j) T j (nI j) (Nat.le_refl j)
    have skip : mS u s (psi r (j + 1)) (τ 0) ∨ True := Or.inr trivial
    rw [f6_merges_L4]
    dsimp only [sq]
    show ∃ ν, _ = (nI (a + ((if 0 < own u (nI j) ∧ r j < j then 1 else 0) + sm (fun p => if 0 < own u (nI p) ∧ r p < p then 1 else 0) n (j + 1))), ν) ∧ _
    have nx : (¬ Own u j ∨ r j = j) → mS u s (psi r (j + 1)) (τ 0) := fun y => mS_congr h.iP (fun p hp ho => by
      unfold psi
      by_cases z : p < j
      · rw [if_pos z, if_pos (by omega)]
      · rw [if_neg z]
        by_cases z2 : p = j
        · subst z2
          rcases y with y | y
          · exact absurd ho y
          · rw [if_pos (by omega), y]
        · rw [if_neg (by omega)]) hc
    by_cases oj : Own u j
    · rw [if_neg (owj.mpr oj)]
      obtain ⟨b1, b2, b3, b4⟩ := hr j hj30 oj
      rcases Nat.lt_or_ge (r j) j with z | z
      · have y4 : f6_merges_L17 τ j j (nI j) = nI (r j) := f1 (r j) z ⟨b2, rep_rep hr hj30 oj, b3⟩ (fun q hq y => b4 q hq ⟨y.1, y.2.2⟩)
        rw [y4, if_neg (nI_ge z (by omega)), if_pos ⟨oj, z⟩]
        obtain ⟨ν, hν, hc2, c3⟩ := mo_move h g hc (show r j < 30 by omega) hj30
        rw [hν, show nI a + 1 = nI (a + 1) from nI_1 a, ← Nat.add_assoc]
        obtain ⟨ν2, d1, d2, d3⟩ := ih (j + 1) (a + 1) ν (by omega) (mS_congr h.iP (fun p hp ho => by
          show (if psi r j p = j then r j else psi r j p) = psi r (j + 1) p
          unfold psi
          obtain ⟨p1, _, _, _⟩ := hr p hp ho
          by_cases y : p < j
          · rw [if_pos y, if_neg (by omega), if_pos (by omega)]
          · rw [if_neg y]
            by_cases y2 : p = j
            · rw [if_pos y2, if_pos (by omega), y2]
            · rw [if_neg y2, if_neg (by omega)]) hc2)
        exact ⟨ν2, d1, d2, fun k hk => (d3 k hk).trans (c3 k hk)⟩
      · have e : r j = j := by omega
        have y4 : f6_merges_L17 τ j j (nI j) = nI j := f2 (fun q hq y => b4 q (by omega) ⟨y.1, y.2.2⟩)
        rw [y4, if_pos (Int32.le_refl _), if_neg (fun y => by omega), Nat.zero_add]
        exact ih (j + 1) a τ (by omega) (nx (Or.inr e))
    · have : f6_owners τ (nI j) ≤ 0 := by
        by_cases y : f6_owners τ (nI j) ≤ 0
        · exact y
        · exact absurd (owj.mp y) oj
      rw [if_pos this, if_neg (fun y => oj y.1), Nat.zero_add]
      exact ih (j + 1) a τ (by omega) (nx (Or.inl oj))
end MR2
theorem e_merges {u τ : PS} (h : RI u (τ 0)) : ∃ (g : Nat) (V ν : PS), g ≤ 30 ∧ f1_mergePieces u = (nI g, V) ∧ f6_merges τ = (nI g, ν) ∧ RI V (ν 0) ∧ ∀ k, k ≠ 0 → ν k = τ k := by
  obtain ⟨r, hr⟩ := reps u
  have hP := h.iP
  have c0 : clS u u (fun p => if r p < 0 then r p else p) := by
    have e : ∀ q, q < 320 → u 6 q = mp6 u (fun p => if r p < 0 then r p else p) q := fun q hq => by
      rcases spot_any hP hq with z | ⟨p, hp, z, _⟩
      · rw [mp6_none z, z]
      · rw [mp6_at hp z, if_neg (Nat.not_lt_zero _), z]
    refine ⟨e, fun p hp => ?_, fun _ _ _ => rfl⟩
    rw [h.iO p hp]
    refine congrArg nI (sm_congr 320 0 (fun k _ k2 => ?_))
    rw [mp_row, ← e k (by omega)]
  obtain ⟨V, hV, hcV⟩ := cl_outer hP hr 30 0 0 u rfl c0
  rw [Nat.zero_add, cl_count hr] at hV
  have m0 : mS u (τ 0) (psi r 0) (τ 0) := ⟨fun _ _ => rfl, fun v k hv hk hl => by
    rw [h.P v k hv hk hl]
    rcases spot_any hP (show 40 * v + k < 320 by omega) with z | ⟨p, hp, z, _⟩
    · rw [mp6_none z, z]
    · rw [mp6_at hp z, z]; rfl⟩
  obtain ⟨ν, hν, hcν, n3⟩ := mo_loop h hr 30 0 0 τ rfl m0
  rw [Nat.zero_add] at hν
  have gr : good u r := fun p hp ho => by
    obtain ⟨a, b, _⟩ := hr p hp ho
    exact ⟨by omega, b⟩
  have R := RI_mp h gr hcν
  have ag : agr (mpU u r) V := by
    refine ⟨fun j k hj hk => ?_, fun k hk => ?_, fun k hk => ?_, fun k hk => ?_, fun k hk => ?_, fun k hk => ⟨?_, ?_, ?_⟩, fun k hk => ?_⟩
    · rw [hcV.2.2 j (by omega) (by omega), mp_ne u r (by omega) (by omega)]
    · rw [hcV.1 k hk, mp_row]
    · rw [hcV.2.2 7 (by decide) (by decide), mp_ne u r (by decide) (by decide)]
    · rw [hcV.2.1 k hk, mp_8]
    · rw [hcV.2.2 9 (by decide) (by decide), mp_ne u r (by decide) (by decide)]
    · rw [hcV.2.2 10 (by decide) (by decide), mp_ne u r (by decide) (by decide)]
    · rw [hcV.2.2 11 (by decide) (by decide), mp_ne u r (by decide) (by decide)]
    · rw [hcV.2.2 12 (by decide) (by decide), mp_ne u r (by decide) (by decide)]
    · rw [hcV.2.2 13 (by decide) (by decide), mp_ne u r (by decide) (by decide)]
  have RV := RI_agr ag R
  unfold f1_mergePieces f6_merges
  dsimp only [sq, sq2]
  rw [show (0 : Int32) = nI 0 from rfl, hV, hν]
  dsimp only
  have gle := sm_le (g := fun p => if 0 < own u (nI p) ∧ r p < p then 1 else 0) 1 30 0 (fun k _ _ => by split <;> omega)
  obtain ⟨g, hg⟩ : ∃ g, sm (fun p => if 0 < own u (nI p) ∧ r p < p then 1 else 0) 30 0 = g := ⟨_, rfl⟩
  rw [hg] at gle ⊢
  have s5 : ν 0 5 = V 13 2 := RV.S.2.2.1
  rw [s5]
  exact ⟨g, _, _, by omega, rfl, rfl, RI_s2 RV, fun k hk => by rw [wr_ne hk, n3 k hk]⟩
theorem e_merge {u μ : PS} (h : RI u (μ 0)) : opOk u μ (f1_mergePieces u) (f6_merge μ) := by
  obtain ⟨g, V, ν, g1, a, b, c, d⟩ := e_merges (RI_chg h)
  unfold f6_merge
  dsimp only [sq, sq2]
  rw [a, b]
  exact Or.inr ⟨err_nI (by omega), rfl, c, d⟩
