/-! Warnings, promises, settings. -/
theorem warns3 : ∀ n : Nat, ∀ u : PS, n ≤ 27 → (∀ q, 40 ≤ q → q < 40 + n → (f6_warns_L3 n (39 + n) u) 0 q = u 0 (q - 3)) ∧ (∀ q, (q < 40 ∨ 40 + n ≤ q) → (f6_warns_L3 n (39 + n) u) 0 q = u 0 q) ∧ ∀ j, j ≠ 0 → (f6_warns_L3 n (39 + n) u) j = u j := by
  intro n
  induction n with
  | zero => intro u _; rw [f6_warns_L3]; exact ⟨fun q a b => absurd b (by omega), fun _ _ => rfl, fun _ _ => rfl⟩
  | succ n ih =>
    intro u hn
    rw [f6_warns_L3]
    dsimp only [sq]
    obtain ⟨a, b, c⟩ := ih (wr u 0 (39 + (n + 1)) (u 0 (39 + (n + 1) - 3))) (by omega)
    rw [show 39 + (n + 1) - 1 = 39 + n by omega]
    have r0 : ∀ q, (wr u 0 (39 + (n + 1)) (u 0 (39 + (n + 1) - 3))) 0 q = upd (u 0) (39 + (n + 1)) (u 0 (39 + (n + 1) - 3)) q := fun _ => rfl
    refine ⟨fun q q1 q2 => ?_, fun q hq => ?_, fun j hj => ?_⟩
    · by_cases e : q = 39 + (n + 1)
      · rw [b q (by omega), r0, e, pk_us]
      · rw [a q q1 (by omega), r0, pk_un (by omega)]
    · rw [b q (by omega), r0, pk_un (by omega)]
    · rw [c j hj, wr_ne hj]
theorem warns66 (u : PS) : ∃ ν : PS, f6_warns_L3 27 66 u = ν ∧ (∀ q, 40 ≤ q → q < 67 → ν 0 q = u 0 (q - 3)) ∧ (∀ q, (q < 40 ∨ 67 ≤ q) → ν 0 q = u 0 q) ∧ ∀ j, j ≠ 0 → ν j = u j := by
  have h := warns3 27 u (Nat.le_refl 27)
  rw [show 39 + 27 = 66 from rfl, show 40 + 27 = 67 from rfl] at h
  exact ⟨_, rfl, h⟩
/-- the pool with the warnings that a row has -/
def rew (u : PS) (s : Nat → Int32) : PS := setA (setA (setA u 10 (fun i => s (37 + 3 * i))) 11 (fun i => s (38 + 3 * i))) 12 (fun i => s (39 + 3 * i))
theorem RI_rew {u : PS} {s t : Nat → Int32} (h : RI u s) (e : ∀ q, (q < 37 ∨ 67 ≤ q) → t q = s q) : RI (rew u t) t := by
  refine ⟨⟨fun w hw => ?_, fun w hw hl => ?_, fun w k hw hk hl => ?_, fun p hp => ?_, fun i hi => ?_, ⟨?_, ?_, ?_, ?_⟩, fun i hi => ⟨rfl, rfl, rfl⟩, fun a ha => ?_, fun a k ha hk => ?_⟩, h.iS, h.iP, h.iM, h.iQ, h.iA, h.iT, h.iO, h.iF, h.iK⟩
  · rw [e _ (by omega)]; exact h.L w hw
  · rw [e _ (by omega), e _ (by omega), e _ (by omega), e _ (by omega), e _ (by omega), e _ (by omega)]; exact h.V w hw hl
  · exact (e _ (by omega)).trans (h.P w k hw hk hl)
  · exact (e _ (by omega)).trans (h.D p hp)
  · exact (e _ (by omega)).trans (h.E i hi)
  · exact (e _ (by omega)).trans h.S.1
  · exact (e _ (by omega)).trans h.S.2.1
  · exact (e _ (by omega)).trans h.S.2.2.1
  · exact (e _ (by omega)).trans h.S.2.2.2
  · rw [e _ (by omega)]; exact h.M.1 a ha
  · rw [e _ (by omega)]; exact h.M.2 a k ha hk
theorem av_rows {u w : PS} (h : iQ u) (h2 : iQ w) (e2 : w 2 = u 2) (e8 : w 8 = u 8) : f1_available w = f1_available u := by
  unfold f1_available
  rw [e_fre, e_fre, e_prs h, e_prs h2]
  unfold fre prs
  rw [e2, e8]
theorem kept_min : ∀ c, c < 11 → (if (10 : Int32) < nI c + 1 then (10 : Int32) else nI c + 1) = (if (10 : Int32) ≤ nI c then nI c + 0 else nI c + 1) ∧ vp_in (if (10 : Int32) < nI c + 1 then (10 : Int32) else nI c + 1) 11 := by
  have : ∀ c, c < 11 → (if (10 : Int32) < nI c + 1 then (10 : Int32) else nI c + 1) = (if (10 : Int32) ≤ nI c then nI c + 0 else nI c + 1) ∧ (if (10 : Int32) < nI c + 1 then (10 : Int32) else nI c + 1) = nI (min (c + 1) 10) := by decide +kernel
  intro c hc
  refine ⟨(this c hc).1, ?_⟩
  rw [(this c hc).2]
  exact vp_in_nI (by omega) (by decide)
theorem e_warns {u μ : PS} (h : RI u (μ 0)) (k p : Int32) : RI (f4_add u k p (f1_available u)) ((f6_warns μ k p) 0) ∧ ∀ j, j ≠ 0 → (f6_warns μ k p) j = μ j := by
  unfold f6_warns
  dsimp only [sq]
  obtain ⟨ν, hν, a, b, c⟩ := warns66 μ
  rw [hν]
  generalize hν2 : wr (wr ν 0 37 k) 0 38 p = ν2
  have r2 : ∀ q, ν2 0 q = upd (upd (ν 0) 37 k) 38 p q := fun q => by rw [← hν2]; rfl
  have c2 : ∀ j, j ≠ 0 → ν2 j = μ j := fun j hj => by rw [← hν2, wr_ne hj, wr_ne hj, c j hj]
  have R2 : RI (rew u (ν2 0)) (ν2 0) := RI_rew h (fun q hq => by rw [r2, pk_un (by omega), pk_un (by omega), b q (by omega)])
  have av : f6_available ν2 = f1_available u := (e_avail R2).trans (av_rows h.iQ R2.iQ rfl rfl)
  rw [av]
  have s6 : (wr ν2 0 39 (f1_available u)) 0 6 = u 13 3 := by
    show upd (ν2 0) 39 (f1_available u) 6 = _
    rw [pk_un (by decide), r2, pk_un (by decide), pk_un (by decide), b 6 (by omega)]; exact h.S.2.2.2
  obtain ⟨n, hn, en⟩ := vp_in_of h.iK.1 (by decide)
  obtain ⟨k1, k2⟩ := kept_min n hn
  rw [s6, en]
  have fin : (if (10 : Int32) ≤ nI n then wr (wr ν2 0 39 (f1_available u)) 0 6 (nI n + 0) else wr (wr ν2 0 39 (f1_available u)) 0 6 (nI n + 1)) = wr (wr ν2 0 39 (f1_available u)) 0 6 (if (10 : Int32) < nI n + 1 then (10 : Int32) else nI n + 1) := by
    rw [k1]
    split <;> rfl
  rw [fin]
  have r3 : ∀ q, (wr (wr ν2 0 39 (f1_available u)) 0 6 (if (10 : Int32) < nI n + 1 then (10 : Int32) else nI n + 1)) 0 q = upd (upd (upd (upd (ν 0) 37 k) 38 p) 39 (f1_available u)) 6 (if (10 : Int32) < nI n + 1 then (10 : Int32) else nI n + 1) q := fun q => by rw [← hν2]; rfl
  refine ⟨?_, fun j hj => ?_⟩
  · have u13 : (f4_add u k p (f1_available u)) 13 3 = (if (10 : Int32) < nI n + 1 then (10 : Int32) else nI n + 1) := by rw [← en]; rfl
    have uo : ∀ j, j ≠ 10 → j ≠ 11 → j ≠ 12 → j ≠ 13 → (f4_add u k p (f1_available u)) j = u j := fun j h1 h2 h3 h4 => by
      unfold f4_add; dsimp only [sq]
      rw [wr_ne h4, wr_ne h3, wr_ne h2, wr_ne h1, setA_ne h3, setA_ne h2, setA_ne h1]
    have u13o : ∀ i, i < 3 → (f4_add u k p (f1_available u)) 13 i = u 13 i := fun i hi => by
      rcases (show i = 0 ∨ i = 1 ∨ i = 2 by omega) with rfl | rfl | rfl <;> rfl
    have w10 : ∀ i, (f4_add u k p (f1_available u)) 10 i = upd (va_cpy (u 10) (u 10) 0 1 9) 0 k i := fun _ => rfl
    have w11 : ∀ i, (f4_add u k p (f1_available u)) 11 i = upd (va_cpy (u 11) (u 11) 0 1 9) 0 p i := fun _ => rfl
    have w12 : ∀ i, (f4_add u k p (f1_available u)) 12 i = upd (va_cpy (u 12) (u 12) 0 1 9) 0 (f1_available u) i := fun _ => rfl
    generalize hU : f4_add u k p (f1_available u) = U at u13 uo u13o w10 w11 w12 ⊢
    have same : ∀ j, j < 10 → U j = u j := fun j hj => uo j (by omega) (by omega) (by omega) (by omega)
    have base : ∀ q, q ≠ 6 → (q < 37 ∨ 67 ≤ q) → (wr (wr ν2 0 39 (f1_available u)) 0 6 (if (10 : Int32) < nI n + 1 then (10 : Int32) else nI n + 1)) 0 q = μ 0 q := fun q q1 q2 => by
      rw [r3, pk_un q1, pk_un (by omega), pk_un (by omega), pk_un (by omega), b q (by omega)]
    have shf : ∀ q, 40 ≤ q → q < 67 → (wr (wr ν2 0 39 (f1_available u)) 0 6 (if (10 : Int32) < nI n + 1 then (10 : Int32) else nI n + 1)) 0 q = μ 0 (q - 3) := fun q q1 q2 => by
      rw [r3, pk_un (by omega), pk_un (by omega), pk_un (by omega), pk_un (by omega), a q q1 q2]
    have e0 : U 0 = u 0 := same 0 (by decide)
    have e1 : U 1 = u 1 := same 1 (by decide)
    have e2 : U 2 = u 2 := same 2 (by decide)
    have e3 : U 3 = u 3 := same 3 (by decide)
    have e4 : U 4 = u 4 := same 4 (by decide)
    have e5 : U 5 = u 5 := same 5 (by decide)
    have e6 : U 6 = u 6 := same 6 (by decide)
    have e7 : U 7 = u 7 := same 7 (by decide)
    have e8 : U 8 = u 8 := same 8 (by decide)
    have e9 : U 9 = u 9 := same 9 (by decide)
    refine ⟨⟨fun w hw => ?_, fun w hw hl => ?_, fun w k hw hk hl => ?_, fun p hp => ?_, fun i hi => ?_, ⟨?_, ?_, ?_, ?_⟩, fun i hi => ⟨?_, ?_, ?_⟩, fun x hx => ?_, fun x k hx hk => ?_⟩, ?_, ?_, ?_, ?_, ?_, ?_, ?_, ?_, ?_⟩
    · rw [base _ (by omega) (by omega), e0]; exact h.L w hw
    · rw [e0] at hl
      rw [base _ (by omega) (by omega), base _ (by omega) (by omega), base _ (by omega) (by omega), base _ (by omega) (by omega), base _ (by omega) (by omega), base _ (by omega) (by omega), e0, e1, e2, e3, e4, e5]; exact h.V w hw hl
    · rw [e0] at hl
      rw [base _ (by omega) (by omega), e6]; exact h.P w k hw hk hl
    · rw [base _ (by omega) (by omega), e7]; exact h.D p hp
    · rw [base _ (by omega) (by omega), e9]; exact h.E i hi
    · rw [base _ (by omega) (by omega), u13o 0 (by decide)]; exact h.S.1
    · rw [base _ (by omega) (by omega), u13o 1 (by decide)]; exact h.S.2.1
    · rw [base _ (by omega) (by omega), u13o 2 (by decide)]; exact h.S.2.2.1
    · rw [r3, pk_us, u13]
    · rw [w10]
      by_cases e : i = 0
      · subst e; rw [r3, pk_us, pk_un (by decide), pk_un (by decide), pk_un (by decide), pk_us]
      · rw [shf _ (by omega) (by omega), pk_un e, pk_cpy_in (by omega) (by omega), show 37 + 3 * i - 3 = 37 + 3 * (0 + (i - 1)) by omega]
        exact (h.W (0 + (i - 1)) (by omega)).1
    · rw [w11]
      by_cases e : i = 0
      · subst e; rw [r3, pk_us, pk_un (by decide), pk_un (by decide), pk_us]
      · rw [shf _ (by omega) (by omega), pk_un e, pk_cpy_in (by omega) (by omega), show 38 + 3 * i - 3 = 38 + 3 * (0 + (i - 1)) by omega]
        exact (h.W (0 + (i - 1)) (by omega)).2.1
    · rw [w12]
      by_cases e : i = 0
      · subst e; rw [r3, pk_us, pk_un (by decide), pk_us]
      · rw [shf _ (by omega) (by omega), pk_un e, pk_cpy_in (by omega) (by omega), show 39 + 3 * i - 3 = 39 + 3 * (0 + (i - 1)) by omega]
        exact (h.W (0 + (i - 1)) (by omega)).2.2
    · rw [base _ (by omega) (by omega)]; exact h.M.1 x hx
    · rw [base _ (by omega) (by omega)]; exact h.M.2 x k hx hk
    · intro w hw; rw [e0]; exact h.iS w hw
    · intro w k hw hk; rw [e0, e6]; exact h.iP w k hw hk
    · intro w hw; rw [e1]; exact h.iM w hw
    · intro w hw; rw [e0, e2]; exact h.iQ w hw
    · intro w hw; rw [e0, e3]; exact h.iA w hw
    · obtain ⟨rk, hr⟩ := h.iT
      exact ⟨rk, fun x y hx hy e => hr x y hx hy (by rw [← e3]; exact e)⟩
    · intro q hq
      have : own U (nI q) = own u (nI q) := by unfold own; rw [e6]
      rw [e8, this]; exact h.iO q hq
    · show prs U ≤ fre U
      unfold prs fre
      rw [e2, e8]; exact h.iF
    · refine ⟨?_, fun j hj => ?_⟩
      · rw [u13]; exact k2
      · rw [e9]; exact h.iK.2 j hj
  · rw [wr_ne hj, wr_ne hj, c2 j hj]
theorem e_ends {u μ : PS} (h : RI u (μ 0)) (l : Int32) : RI (f1_warnIfLevelRose u l) ((f6_ends μ l) 0) ∧ ∀ j, j ≠ 0 → (f6_ends μ l) j = μ j := by
  unfold f1_warnIfLevelRose f6_ends
  rw [e_avail h, e_levelBy h.E]
  by_cases q : f1_levelWith u (f1_available u) ≤ l
  · rw [if_pos q, if_pos q]; exact ⟨h, fun _ _ => rfl⟩
  · rw [if_neg q, if_neg q]
    exact e_warns h 0 (-1)
