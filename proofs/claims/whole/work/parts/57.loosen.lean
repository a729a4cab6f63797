/-! Taking a piece from a place. -/
theorem own_wr {u : PS} {q : Nat} {y x : Int32} (hq : q < 320) : own (wr u 6 q y) x + (if u 6 q = x then 1 else 0) = own u x + (if y = x then 1 else 0) := by
  have := sm_one (g := fun k => if wr u 6 q y 6 k = x then 1 else 0) (h := fun k => if u 6 k = x then 1 else 0) q 320 0 (Nat.zero_le _) (by omega) (fun k _ _ k3 => by
    show (if upd (u 6) q y k = x then 1 else 0) = _
    rw [pk_un k3])
  have e : (if wr u 6 q y 6 q = x then 1 else 0) = (if y = x then 1 else 0) := by
    show (if upd (u 6) q y q = x then 1 else 0) = _
    rw [pk_us]
  rw [e] at this
  exact this
theorem own_pos {u : PS} {q : Nat} {x : Int32} (hq : q < 320) (h : u 6 q = x) : 0 < own u x := by
  have := sm_ge (g := fun k => if u 6 k = x then 1 else 0) q 320 0 (Nat.zero_le _) (by omega)
  rw [if_pos h] at this
  exact this
theorem fre_wr {u : PS} {p : Nat} {x : Int32} (hp : p < 30) : fre (wr u 8 p x) + (if u 8 p = 0 then 1 else 0) = fre u + (if x = 0 then 1 else 0) := by
  have := sm_one (g := fun k => if wr u 8 p x 8 k = 0 then 1 else 0) (h := fun k => if u 8 k = 0 then 1 else 0) p 30 0 (Nat.zero_le _) (by omega) (fun k _ _ k3 => by
    show (if upd (u 8) p x k = 0 then 1 else 0) = _
    rw [pk_un k3])
  have e : (if wr u 8 p x 8 p = 0 then 1 else 0) = (if x = 0 then 1 else 0) := by
    show (if upd (u 8) p x p = 0 then 1 else 0) = _
    rw [pk_us]
  rw [e] at this
  exact this
/-- a place of a volume loses its piece: the pool and the row behind it -/
theorem RI_off {u : PS} {s : Nat → Int32} (h : RI u s) {v k p : Nat} (hv : v < 8) (hk : k < 40) (hp : p < 30) (e : u 6 (40 * v + k) = nI p) : RI (wr (wr u 6 (40 * v + k) (-1)) 8 p (u 8 p - 1)) (upd s (74 + 47 * v + k) (-1)) ∧ u 8 p - 1 = nI (own u (nI p) - 1) ∧ 0 < own u (nI p) := by
  have ho := own_pos (u := u) (show 40 * v + k < 320 by omega) e
  have hle := own_le u (nI p)
  have e1 : u 8 p - 1 = nI (own u (nI p) - 1) := by rw [h.iO p hp]; exact pk_sub ho
  refine ⟨⟨qR_spot hv hk (by decide) h.1, h.iS, fun w i hw hi => ?_, h.iM, h.iQ, h.iA, h.iT, fun q hq => ?_, ?_, h.iK⟩, e1, ho⟩
  · show upd (u 6) (40 * v + k) (-1) (40 * w + i) = -1 ∨ (vp_in (upd (u 6) (40 * v + k) (-1) (40 * w + i)) 30 ∧ nI i < u 0 w)
    by_cases q : 40 * w + i = 40 * v + k
    · rw [q, pk_us]; exact Or.inl rfl
    · rw [pk_un q]; exact h.iP w i hw hi
  · have ow := own_wr (u := u) (y := -1) (x := nI q) (show 40 * v + k < 320 by omega)
    rw [e, if_neg (show ¬ ((-1 : Int32) = nI q) from fun z => e_neg (by omega) z.symm)] at ow
    show upd (u 8) p (u 8 p - 1) q = nI (own (wr u 6 (40 * v + k) (-1)) (nI q))
    by_cases z : q = p
    · subst z
      rw [pk_us, e1]
      rw [if_pos rfl] at ow
      exact congrArg nI (by omega)
    · rw [pk_un z, h.iO q hq]
      rw [if_neg (fun y => z (e_inj (by omega) (by omega) y).symm)] at ow
      exact congrArg nI (by omega)
  · have fw := fre_wr (u := wr u 6 (40 * v + k) (-1)) (x := u 8 p - 1) hp
    have f0 : ¬ (wr u 6 (40 * v + k) (-1)) 8 p = 0 := by
      show ¬ u 8 p = 0
      rw [h.iO p hp]; exact nI_ne0 ho (by omega)
    rw [if_neg f0] at fw
    have f1 : fre (wr u 6 (40 * v + k) (-1)) = fre u := rfl
    have f2 : prs u ≤ fre u := h.iF
    show prs u ≤ fre (wr (wr u 6 (40 * v + k) (-1)) 8 p (u 8 p - 1))
    split at fw <;> omega
/-- the rows of a pool that a loosened place leaves as they are -/
def kept1 (u u2 : PS) : Prop := ∀ j, j ≠ 6 → j ≠ 8 → j ≠ 13 → u2 j = u j
theorem kept1.rf (u : PS) : kept1 u u := fun _ _ _ _ => rfl
theorem kept1.tr {u u2 u3 : PS} (h : kept1 u u2) (h2 : kept1 u2 u3) : kept1 u u3 := fun j a b c => (h2 j a b c).trans (h j a b c)
theorem e_loosen {u μ : PS} (h : RI u (μ 0)) {v k p : Nat} (hv : v < 8) (hk : k < 40) (hp : p < 30) (hl : 0 < u 0 v) (e : u 6 (40 * v + k) = nI p) :
    ∃ (r : Nat) (u2 μ2 : PS), r ≤ 1 ∧ f1_loosen u (nI v) (nI k) = (nI r, u2) ∧ f6_trims μ (nI v) (nI k) = (nI r, μ2) ∧ RI u2 (μ2 0) ∧ (∀ j, j ≠ 0 → μ2 j = μ j) ∧ kept1 u u2 ∧ u2 6 = upd (u 6) (40 * v + k) (-1) ∧ fre u2 = fre u + r ∧ (1 < own u (nI p) → r = 0 ∧ u2 8 = upd (u 8) p (u 8 p - 1) ∧ u2 13 = u 13) := by
  obtain ⟨R, e1, ho⟩ := RI_off h hv hk hp e
  have hle := own_le u (nI p)
  unfold f1_loosen f6_trims
  rw [e_pieceAt h.iP hv hk, e, e_isP hp, if_neg ne10, e_ix40 hv hk, e_putq hv hk, e_piece hv hk, h.P v k hv hk hl, e, nI_clamp (by omega)]
  dsimp only [sq]
  have R2 : RI (wr (wr u 6 (40 * v + k) (-1)) 8 p (u 8 p - 1)) ((wr μ 0 (74 + 47 * v + k) (-1)) 0) := R
  have c1 : (wr u 6 (40 * v + k) (-1)) 8 p = u 8 p := rfl
  have c2 : (wr (wr u 6 (40 * v + k) (-1)) 8 p (u 8 p - 1)) 8 p = nI (own u (nI p) - 1) := (pk_us (f := u 8)).trans e1
  have fw := fre_wr (u := wr u 6 (40 * v + k) (-1)) (x := u 8 p - 1) hp
  have f0 : ¬ (wr u 6 (40 * v + k) (-1)) 8 p = 0 := by
    show ¬ u 8 p = 0
    rw [h.iO p hp]; exact nI_ne0 ho (by omega)
  rw [if_neg f0] at fw
  have f1 : fre (wr u 6 (40 * v + k) (-1)) = fre u := rfl
  rw [c1, c2, e_owners8 R2 hp, c2]
  have kp : kept1 u (wr (wr u 6 (40 * v + k) (-1)) 8 p (u 8 p - 1)) := fun j a b c => by rw [wr_ne b, wr_ne a]
  by_cases z : own u (nI p) = 1
  · rw [z, if_pos (show nI (1 - 1) ≤ 0 by decide), if_pos (show nI (1 - 1) = 0 by decide)]
    refine ⟨1, _, _, Nat.le_refl 1, rfl, rfl, ?_, fun j hj => ?_, fun j a b c => ?_, rfl, ?_, fun q => ?_⟩
    · have s5 : (wr (wr u 6 (40 * v + k) (-1)) 8 p (u 8 p - 1)) 13 2 + 1 = (wr μ 0 (74 + 47 * v + k) (-1)) 0 5 + 1 := by rw [R2.S.2.2.1]
      rw [← s5]
      exact RI_s2 R2
    · rw [wr_ne hj, wr_ne hj]
    · rw [wr_ne c]; exact kp j a b c
    · show fre (wr (wr u 6 (40 * v + k) (-1)) 8 p (u 8 p - 1)) = fre u + 1
      rw [e1, z] at fw ⊢
      rw [if_pos (show nI (1 - 1) = 0 by decide)] at fw
      omega
    · omega
  · rw [if_neg (nI_nle (by omega) (by omega)), if_neg (nI_ne0 (by omega) (by omega)), wr_id (x := (wr μ 0 (74 + 47 * v + k) (-1)) 0 5 + 0) (Int32.add_zero _).symm]
    refine ⟨0, _, _, Nat.zero_le 1, rfl, rfl, R2, fun j hj => ?_, kp, rfl, ?_, fun q => ⟨rfl, rfl, rfl⟩⟩
    · rw [wr_ne hj]
    · rw [e1] at fw ⊢
      rw [if_neg (nI_ne0 (by omega) (by omega))] at fw
      omega
theorem e_loose0 {u : PS} (hP : iP u) {v k : Nat} (hv : v < 8) (hk : k < 40) (e : u 6 (40 * v + k) = -1) : f1_loosen u (nI v) (nI k) = (0, u) := by
  unfold f1_loosen
  rw [e_pieceAt hP hv hk, e, e_isP0, if_pos rfl]
/-! dropping a volume: its pieces -/
theorem drop15_none {u : PS} (hP : iP u) {v : Nat} (hv : v < 8) : ∀ n i x, i + n = 40 → (∀ k, i ≤ k → k < 40 → u 6 (40 * v + k) = -1) → f1_dropVolume_L15 (nI v) n i x u = (x, u) := by
  intro n
  induction n with
  | zero => intro i x _ _; rw [f1_dropVolume_L15]
  | succ n ih =>
    intro i x hi hk
    rw [f1_dropVolume_L15, e_loose0 hP hv (by omega) (hk i (Nat.le_refl i) (by omega))]
    dsimp only [sq2]
    rw [show x + 0 = x from Int32.add_zero x]
    exact ih (i + 1) x (by omega) (fun k a b => hk k (by omega) b)
theorem e_drop19 {v : Nat} (hv : v < 8) : ∀ n i : Nat, ∀ (x : Int32) (u τ : PS), i + n = 40 → RI u (τ 0) → 0 < u 0 v → ∃ (y : Int32) (u2 τ2 : PS), f1_dropVolume_L15 (nI v) n i x u = (y, u2) ∧ f6_drop_L19 (nI v) n i x τ = (y, τ2) ∧ RI u2 (τ2 0) ∧ (∀ j, j ≠ 0 → τ2 j = τ j) ∧ kept1 u u2 ∧ (∀ k, k < 40 → (i ≤ k ∨ u 6 (40 * v + k) = -1) → u2 6 (40 * v + k) = -1) ∧ ∃ f, y = x + nI f ∧ f ≤ n := by
  intro n
  induction n with
  | zero =>
    intro i x u τ hi h hl
    rw [f1_dropVolume_L15, f6_drop_L19]
    refine ⟨x, u, τ, rfl, rfl, h, fun _ _ => rfl, kept1.rf u, fun k hk q => ?_, 0, (e_add0 x).symm, Nat.le_refl _⟩
    rcases q with q | q
    · omega
    · exact q
  | succ n ih =>
    intro i x u τ hi h hl
    rw [f6_drop_L19, e_of1 hv, (h.V v hv hl).1]
    by_cases hs : u 0 v ≤ nI i
    · rw [if_pos hs]
      have all : ∀ k, i ≤ k → k < 40 → u 6 (40 * v + k) = -1 := fun k a b => e_behind h.iP hv b a hs
      rw [drop15_none h.iP hv (n + 1) i x hi all]
      refine ⟨x, u, τ, rfl, rfl, h, fun _ _ => rfl, kept1.rf u, fun k hk q => ?_, 0, (e_add0 x).symm, Nat.zero_le _⟩
      rcases q with q | q
      · exact all k q hk
      · exact q
    · rw [if_neg hs, f1_dropVolume_L15, e_piece hv (by omega), h.P v i hv (by omega) hl]
      rcases e_spot h.iP hv (show i < 40 by omega) with e | ⟨p, hp, e, _⟩
      · rw [e, if_neg e_m1, e_loose0 h.iP hv (by omega) e]
        dsimp only [sq2]
        rw [show x + 0 = x from Int32.add_zero x]
        obtain ⟨y, u2, τ2, a, b, c, d, f, g, ⟨z, z1, z2⟩⟩ := ih (i + 1) x u τ (by omega) h hl
        refine ⟨y, u2, τ2, a, b, c, d, f, fun k hk q => g k hk ?_, z, z1, by omega⟩
        rcases q with q | q
        · by_cases q2 : k = i
          · subst q2; exact Or.inr e
          · exact Or.inl (by omega)
        · exact Or.inr q
      · obtain ⟨r, u2, τ2, r1, a, b, c, d, f, g, _⟩ := e_loosen h hv (show i < 40 by omega) hp hl e
        rw [e, if_pos (nI_pos' (by omega)), a, b]
        dsimp only [sq2]
        have hl2 : 0 < u2 0 v := by rw [f 0 (by decide) (by decide) (by decide)]; exact hl
        obtain ⟨y, u3, τ3, a3, b3, c3, d3, f3, g3, ⟨z, z1, z2⟩⟩ := ih (i + 1) (x + nI r) u2 τ2 (by omega) c hl2
        refine ⟨y, u3, τ3, a3, b3, c3, fun j hj => (d3 j hj).trans (d j hj), f.tr f3, fun k hk q => g3 k hk ?_, r + z, ?_, by omega⟩
        · rw [g]
          by_cases q2 : k = i
          · subst q2; exact Or.inr pk_us
          · rw [pk_un (by omega)]
            rcases q with q | q
            · exact Or.inl (by omega)
            · exact Or.inr q
        · rw [z1, Int32.add_assoc, nI_add]
