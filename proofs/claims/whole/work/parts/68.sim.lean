/-! History, texts: class and model side by side. -/
/-- a call that changes the pool, as the class does them all -/
def f5_gen (g : PS → Int32 × PS) (Z : ST) : Int32 × ST := (sq (f0_prepare Z) (fun (u1 : ST) => (sq2 (g (u1 0)) (fun (r4 : Int32) (u3 : PS) => (sq2 (f5_settle (mkZ u3 (u1 1) (u1 2) (u1 3) (u1 4) (u1 5) (Z 6) (Z 7) (u1 8) (Z 9)) r4) (fun (r7 : Int32) (u6 : ST) => (r7, mkZ u3 (u6 1) (u6 2) (u6 3) (u6 4) (u6 5) (Z 6) (Z 7) (u6 8) (Z 9))))))))
/-- the states behind a noted state -/
def noted (Z U : ST) (k : Nat) : Prop := U 0 = Z 0 ∧ U 8 = Z 8 ∧ (∀ j, j < k → U (j + 1) = Z (j + 1)) ∧ U (k + 1) = f1_copyFrom (Z (k + 1)) (Z 0)
theorem prep_ok {Z : ST} {k : Nat} (hk : k ≤ 4) (h : Z 8 0 0 = nI k) : noted Z (f0_prepare Z) k := by
  unfold f0_prepare
  rcases (show k = 0 ∨ k = 1 ∨ k = 2 ∨ k = 3 ∨ k = 4 by omega) with rfl | rfl | rfl | rfl | rfl
  · rw [if_pos (show Z 8 0 0 = 0 from h)]
    exact ⟨rfl, rfl, fun j hj => absurd hj (Nat.not_lt_zero j), rfl⟩
  · rw [h, if_neg (show ¬ nI 1 = 0 by decide), if_pos (show nI 1 = 1 from rfl)]
    refine ⟨rfl, rfl, fun j hj => ?_, rfl⟩
    rcases (show j = 0 by omega) with rfl; rfl
  · rw [h, if_neg (show ¬ nI 2 = 0 by decide), if_neg (show ¬ nI 2 = 1 by decide), if_pos (show nI 2 = 2 from rfl)]
    refine ⟨rfl, rfl, fun j hj => ?_, rfl⟩
    rcases (show j = 0 ∨ j = 1 by omega) with rfl | rfl <;> rfl
  · rw [h, if_neg (show ¬ nI 3 = 0 by decide), if_neg (show ¬ nI 3 = 1 by decide), if_neg (show ¬ nI 3 = 2 by decide), if_pos (show nI 3 = 3 from rfl)]
    refine ⟨rfl, rfl, fun j hj => ?_, rfl⟩
    rcases (show j = 0 ∨ j = 1 ∨ j = 2 by omega) with rfl | rfl | rfl <;> rfl
  · rw [h, if_neg (show ¬ nI 4 = 0 by decide), if_neg (show ¬ nI 4 = 1 by decide), if_neg (show ¬ nI 4 = 2 by decide), if_neg (show ¬ nI 4 = 3 by decide)]
    refine ⟨rfl, rfl, fun j hj => ?_, rfl⟩
    rcases (show j = 0 ∨ j = 1 ∨ j = 2 ∨ j = 3 by omega) with rfl | rfl | rfl | rfl <;> rfl
theorem settle_err {Z : ST} {r : Int32} (h : f5_isError r = 1) : f5_settle Z r = (r, Z) := by
  unfold f5_settle
  rw [h, if_neg ne10]
theorem keep_lt {a0 a1 a2 a3 a4 a5 a6 a7 a8 a9 : PS} {k : Nat} (hk : k < 4) (h : a8 0 0 = nI k) {r : Int32} (hr : f5_isError r = 0) : f5_settle (mkZ a0 a1 a2 a3 a4 a5 a6 a7 a8 a9) r = (r, mkZ a0 a1 a2 a3 a4 a5 a6 a7 (wr a8 0 0 (nI (k + 1))) a9) := by
  unfold f5_settle f0_keepPrepared
  rw [hr, if_pos rfl]
  dsimp only [sq]
  have e8 : (mkZ a0 a1 a2 a3 a4 a5 a6 a7 a8 a9) 8 = a8 := rfl
  rw [e8, h, show nI k + 1 = nI (k + 1) from nI_1 k]
  have e0 : (wr a8 0 0 (nI (k + 1))) 0 0 = nI (k + 1) := rfl
  rw [e0, if_pos (show nI (k + 1) ≤ 4 from nI_le (b := 4) (by omega) (by decide))]
  rfl
theorem keep_4 {a0 a1 a2 a3 a4 a5 a6 a7 a8 a9 : PS} (h : a8 0 0 = nI 4) {r : Int32} (hr : f5_isError r = 0) : ∃ w, w 0 0 = nI 4 ∧ f5_settle (mkZ a0 a1 a2 a3 a4 a5 a6 a7 a8 a9) r = (r, mkZ a0 (f1_copyFrom a1 a2) (f1_copyFrom a2 a3) (f1_copyFrom a3 a4) (f1_copyFrom a4 a5) a5 a6 a7 w a9) := by
  unfold f5_settle f0_keepPrepared
  rw [hr, if_pos rfl]
  dsimp only [sq]
  have e8 : (mkZ a0 a1 a2 a3 a4 a5 a6 a7 a8 a9) 8 = a8 := rfl
  rw [e8, h, show nI 4 + 1 = nI 5 from rfl]
  have e0 : (wr a8 0 0 (nI 5)) 0 0 = nI 5 := rfl
  rw [e0, if_neg (show ¬ nI 5 ≤ 4 by decide)]
  exact ⟨wr (wr a8 0 0 (nI 5)) 0 0 4, rfl, rfl⟩
theorem gen_ok {Z : ST} {μ : PS} (h : Sim Z μ) (g : PS → Int32 × PS) {M : Int32 × PS} (ho : opOk (Z 0) μ (g (Z 0)) M) : (f5_gen g Z).1 = M.1 ∧ Sim (f5_gen g Z).2 M.2 := by
  obtain ⟨hR, ⟨k, k1, k2, k3, k4⟩, ⟨t, t1, t2, t3, t4⟩, hr⟩ := h
  obtain ⟨p0, p8, pj, pk⟩ := prep_ok k1 k2
  unfold f5_gen
  dsimp only [sq, sq2]
  obtain ⟨U, hU⟩ : ∃ U, f0_prepare Z = U := ⟨_, rfl⟩
  rw [hU] at p0 p8 pj pk ⊢
  rw [p0]
  obtain ⟨r, hC⟩ : ∃ r, g (Z 0) = r := ⟨_, rfl⟩
  rw [hC] at ho ⊢
  rcases ho with ⟨e1, e2, e3⟩ | ⟨e1, e2, e3, e4⟩
  · rw [settle_err e1, e3, e2]
    refine ⟨rfl, hR, ⟨k, k1, ?_, k3, fun j hj => ?_⟩, ⟨t, t1, t2, t3, t4⟩, hr⟩
    · show U 8 0 0 = nI k
      rw [p8]; exact k2
    · have q := k4 j hj
      rw [← pj j hj] at q
      rcases (show j = 0 ∨ j = 1 ∨ j = 2 ∨ j = 3 by omega) with rfl | rfl | rfl | rfl <;> exact q
  · obtain ⟨ν, c0, c1, c2, c3⟩ := chg_spec k1 hr k3
    have m1 : M.2 1 = ν 1 := by rw [e4 1 (by decide), c0]
    have m4 : M.2 4 = μ 4 := by rw [e4 4 (by decide), c0, c1 4 (by decide) (by decide)]
    have m6 : ∀ i, M.2 6 i = ν 6 i := fun i => by rw [e4 6 (by decide), c0]
    have txt : ∃ t, t ≤ 60 ∧ Z 7 2 0 = nI t ∧ M.2 6 2 = nI t ∧ ∀ i, i < t → Z 7 0 i = M.2 4 i := ⟨t, t1, t2, by rw [m6, c2 2 (by decide)]; exact t3, fun i hi => by rw [m4]; exact t4 i hi⟩
    have run : M.2 6 1 = 0 := by rw [m6, c2 1 (by decide)]; exact hr
    have u8 : U 8 0 0 = nI k := by rw [p8]; exact k2
    rcases c3 with ⟨d1, d2, d3, d4⟩ | ⟨d1, d2, d3, d4⟩
    · rw [keep_lt d1 u8 e1]
      refine ⟨e2.symm, e3, ⟨k + 1, by omega, rfl, by rw [m6]; exact d2, fun j hj => ?_⟩, txt, run⟩
      have st : RI (U (j + 1)) (fun q => M.2 1 (443 * j + q)) := by
        by_cases e : j = k
        · subst e
          rw [pk]
          exact RI_s (fun q hq => by rw [m1]; exact d4 q hq) (RI_cpy hR)
        · rw [pj j (by omega)]
          exact RI_s (fun q hq => by rw [m1]; exact d3 j q (by omega) hq) (k4 j (by omega))
      rcases (show j = 0 ∨ j = 1 ∨ j = 2 ∨ j = 3 by omega) with rfl | rfl | rfl | rfl <;> exact st
    · subst d1
      obtain ⟨w, w0, hw⟩ := keep_4 (a0 := r.2) (a1 := U 1) (a2 := U 2) (a3 := U 3) (a4 := U 4) (a5 := U 5) (a6 := Z 6) (a7 := Z 7) (a8 := U 8) (a9 := Z 9) u8 e1
      rw [hw]
      refine ⟨e2.symm, e3, ⟨4, Nat.le_refl 4, w0, by rw [m6]; exact d2, fun j hj => ?_⟩, txt, run⟩
      have st : ∀ j, j < 3 → ∀ σ, RI (f1_copyFrom σ (U (j + 1 + 1))) (fun q => M.2 1 (443 * j + q)) := fun j hj σ => by
        rw [pj (j + 1) (by omega)]
        exact RI_cpy (RI_s (fun q hq => by rw [m1]; exact d3 j q hj hq) (k4 (j + 1) (by omega)))
      have s3 : ∀ σ, RI (f1_copyFrom σ (U (4 + 1))) (fun q => M.2 1 (443 * 3 + q)) := fun σ => by
        rw [pk]
        exact RI_cpy (RI_s (fun q hq => by rw [m1]; exact d4 q hq) (RI_cpy hR))
      rcases (show j = 0 ∨ j = 1 ∨ j = 2 ∨ j = 3 by omega) with rfl | rfl | rfl | rfl
      · exact st 0 (by decide) _
      · exact st 1 (by decide) _
      · exact st 2 (by decide) _
      · exact s3 _
/-! undo -/
theorem undo22 {k : Nat} (hk : k ≤ 3) : ∀ n i : Nat, ∀ u : PS, i + n = 443 → u 6 0 = nI k → (∀ q, (f6_undo_L22 n i u) 0 q = if i ≤ q ∧ q < 443 then u 1 (443 * k + q) else u 0 q) ∧ ∀ j, j ≠ 0 → (f6_undo_L22 n i u) j = u j := by
  intro n
  induction n with
  | zero => intro i u hi _; rw [f6_undo_L22]; exact ⟨fun q => by rw [if_neg (by omega)], fun _ _ => rfl⟩
  | succ n ih =>
    intro i u hi h6
    rw [f6_undo_L22]
    dsimp only [sq]
    have ix : ((443 : Int32) * (u 6 0) + nI i).toNatClampNeg = 443 * k + i := by
      rw [h6, show (443 : Int32) * nI k + nI i = nI (443 * k + i) from by rw [show (443 : Int32) = nI 443 from rfl, pk_mul, nI_add], nI_clamp (by omega)]
    rw [ix]
    obtain ⟨a, b⟩ := ih (i + 1) (wr u 0 i (u 1 (443 * k + i))) (by omega) h6
    have r0 : ∀ q, (wr u 0 i (u 1 (443 * k + i))) 0 q = upd (u 0) i (u 1 (443 * k + i)) q := fun _ => rfl
    have r1 : ∀ q, (wr u 0 i (u 1 (443 * k + i))) 1 q = u 1 q := fun _ => rfl
    refine ⟨fun q => ?_, fun j hj => by rw [b j hj, wr_ne hj]⟩
    rw [a q, r0, r1]
    by_cases e : q = i
    · subst e; rw [if_neg (by omega), if_pos (by omega), pk_us]
    · by_cases z : i + 1 ≤ q ∧ q < 443
      · rw [if_pos z, if_pos (by omega)]
      · rw [if_neg z, if_neg (by omega), pk_un e]
theorem e_undo {Z : ST} {μ : PS} (h : Sim Z μ) : (f5_undo Z).1 = (f6_undo μ).1 ∧ Sim (f5_undo Z).2 (f6_undo μ).2 := by
  obtain ⟨hR, ⟨k, k1, k2, k3, k4⟩, ⟨t, t1, t2, t3, t4⟩, hr⟩ := h
  unfold f5_undo f6_undo f0_restore
  dsimp only [sq, sq2]
  by_cases z : k = 0
  · subst z
    rw [k2, k3, if_pos (show nI 0 < 1 by decide), if_pos (show nI 0 = 0 from rfl)]
    dsimp only
    rw [if_pos (show (0 : Int32) = 0 from rfl)]
    exact ⟨rfl, hR, ⟨0, k1, k2, k3, fun j hj => absurd hj (Nat.not_lt_zero j)⟩, ⟨t, t1, t2, t3, t4⟩, hr⟩
  · obtain ⟨m, rfl⟩ : ∃ m, k = m + 1 := ⟨k - 1, by omega⟩
    have z2 : ¬ nI (m + 1) = 0 := nI_ne0 (by omega) (by omega)
    have e1 : nI (m + 1) - 1 = nI m := nI_pred m
    rw [k2, k3, if_neg z2, if_neg (show ¬ nI (m + 1) < 1 from nI_nlt (b := 1) (by omega) (by omega)), if_neg (show ¬ (4 : Int32) < nI (m + 1) from nI_nlt (a := 4) (by omega) (by decide)), e1]
    obtain ⟨a, b⟩ := undo22 (k := m) (by omega) 443 0 (wr μ 6 0 (nI m)) rfl rfl
    obtain ⟨ν, hν⟩ : ∃ ν, f6_undo_L22 443 0 (wr μ 6 0 (nI m)) = ν := ⟨_, rfl⟩
    rw [hν] at a b ⊢
    have n6 : ∀ i, ν 6 i = upd (μ 6) 0 (nI m) i := fun i => by rw [b 6 (by decide)]; rfl
    have n1 : ν 1 = μ 1 := by rw [b 1 (by decide), wr_ne (by decide)]
    have n4 : ν 4 = μ 4 := by rw [b 4 (by decide), wr_ne (by decide)]
    have n0 : ∀ q, q < 443 → ν 0 q = μ 1 (443 * m + q) := fun q hq => by
      rw [a q, if_pos ⟨Nat.zero_le q, hq⟩]
      show (wr μ 6 0 (nI m)) 1 (443 * m + q) = _
      rw [wr_ne (by decide)]
    have st : ∀ σ, RI (f1_copyFrom σ (Z (m + 1))) (ν 0) := fun σ => RI_cpy (RI_s (fun q hq => n0 q hq) (k4 m (by omega)))
    have hh : ∀ W : ST, (∀ j, j < 4 → W (j + 1) = Z (j + 1)) → ∀ j, j < m → RI (W (j + 1)) (fun q => ν 1 (443 * j + q)) := fun W hW j hj => by
      rw [hW j (by omega), n1]; exact k4 j (by omega)
    have txt : ∃ t, t ≤ 60 ∧ Z 7 2 0 = nI t ∧ ν 6 2 = nI t ∧ ∀ i, i < t → Z 7 0 i = ν 4 i := ⟨t, t1, t2, by rw [n6, pk_un (by decide)]; exact t3, fun i hi => by rw [n4]; exact t4 i hi⟩
    have run : ν 6 1 = 0 := by rw [n6, pk_un (by decide)]; exact hr
    have n60 : ν 6 0 = nI m := by rw [n6, pk_us]
    have fin : ∀ σ, RI σ (ν 0) → Sim (mkZ σ (Z 1) (Z 2) (Z 3) (Z 4) (Z 5) (Z 6) (Z 7) (wr (Z 8) 0 0 (nI m)) (Z 9)) ν := fun σ hσ => ⟨hσ, ⟨m, by omega, rfl, n60, hh _ (fun j hj => by
      rcases (show j = 0 ∨ j = 1 ∨ j = 2 ∨ j = 3 by omega) with rfl | rfl | rfl | rfl <;> rfl)⟩, txt, run⟩
    rw [n60]
    rcases (show m = 0 ∨ m = 1 ∨ m = 2 ∨ m = 3 by omega) with rfl | rfl | rfl | rfl
    · rw [if_pos (show nI (0 + 1) = 1 from rfl)]
      exact ⟨rfl, fin _ (st _)⟩
    · rw [if_neg (show ¬ nI (1 + 1) = 1 by decide), if_pos (show nI (1 + 1) = 2 from rfl)]
      exact ⟨rfl, fin _ (st _)⟩
    · rw [if_neg (show ¬ nI (2 + 1) = 1 by decide), if_neg (show ¬ nI (2 + 1) = 2 by decide), if_pos (show nI (2 + 1) = 3 from rfl)]
      exact ⟨rfl, fin _ (st _)⟩
    · rw [if_neg (show ¬ nI (3 + 1) = 1 by decide), if_neg (show ¬ nI (3 + 1) = 2 by decide), if_neg (show ¬ nI (3 + 1) = 3 by decide)]
      exact ⟨rfl, fin _ (st _)⟩
/-! texts -/
theorem e_type {Z : ST} {μ : PS} (h : Sim Z μ) (p1 : Int32) : (f5_type Z p1).1 = (f6_type μ p1).1 ∧ Sim (f5_type Z p1).2 (f6_type μ p1).2 := by
  have h0 := h
  obtain ⟨hR, ⟨k, k1, k2, k3, k4⟩, ⟨t, t1, t2, t3, t4⟩, hr⟩ := h
  have slot : ∀ (u : PS) (ν : PS), ν 1 = μ 1 → ∀ j, j < k → RI ((mkZ (Z 0) (Z 1) (Z 2) (Z 3) (Z 4) (Z 5) (Z 6) u (Z 8) (Z 9)) (j + 1)) (fun q => ν 1 (443 * j + q)) := fun u ν e j hj => by
    have q := k4 j hj
    rw [← e] at q
    rcases (show j = 0 ∨ j = 1 ∨ j = 2 ∨ j = 3 by omega) with rfl | rfl | rfl | rfl <;> exact q
  unfold f5_type f6_type f3_append
  rw [e_rng]
  dsimp only [sq, sq2]
  by_cases q1 : p1 < 32
  · rw [if_pos q1, if_pos q1]; exact ⟨rfl, h0⟩
  · rw [if_neg q1, if_neg q1]
    by_cases q2 : p1 ≤ 126
    · rw [if_pos q2, if_pos q2, t2, t3, if_neg (nI_pos (by omega)), nI_clamp (by omega)]
      by_cases z : t = 60
      · subst z
        rw [if_neg (show ¬ nI 60 < 60 by decide), if_pos (show nI 60 = 60 from rfl)]
        dsimp only
        rw [if_pos (show (0 : Int32) = 0 from rfl)]
        exact ⟨rfl, hR, ⟨k, k1, k2, k3, slot _ μ rfl⟩, ⟨60, t1, t2, t3, t4⟩, hr⟩
      · rw [if_pos (show nI t < 60 from nI_lt (b := 60) (by omega) (by decide)), if_neg (show ¬ nI t = 60 from fun q => z (e_inj (b := 60) (by omega) (by decide) q))]
        dsimp only
        rw [if_neg ne10]
        have a1 : (wr (Z 7) 0 t p1) 2 0 + 1 = nI (t + 1) := by rw [wr_ne (by decide), t2]; exact nI_1 t
        have a2 : (wr μ 4 t p1) 6 2 + 1 = nI (t + 1) := by rw [wr_ne (by decide), t3]; exact nI_1 t
        rw [a1, a2]
        refine ⟨rfl, hR, ⟨k, k1, k2, k3, slot _ (wr (wr μ 4 t p1) 6 2 (nI (t + 1))) (by rw [wr_ne (by decide), wr_ne (by decide)])⟩, ⟨t + 1, by omega, rfl, rfl, fun i hi => ?_⟩, hr⟩
        show upd (Z 7 0) t p1 i = upd (μ 4) t p1 i
        by_cases e : i = t
        · rw [e, pk_us, pk_us]
        · rw [pk_un e, pk_un e]; exact t4 i (by omega)
    · rw [if_neg q2, if_neg q2]; exact ⟨rfl, h0⟩
theorem e_clear {Z : ST} {μ : PS} (h : Sim Z μ) : (f5_clearText Z).1 = (f6_clearText μ).1 ∧ Sim (f5_clearText Z).2 (f6_clearText μ).2 := by
  obtain ⟨hR, ⟨k, k1, k2, k3, k4⟩, ⟨t, t1, t2, t3, t4⟩, hr⟩ := h
  unfold f5_clearText f6_clearText
  dsimp only [sq]
  refine ⟨t2.trans t3.symm, hR, ⟨k, k1, k2, k3, fun j hj => ?_⟩, ⟨0, by omega, rfl, rfl, fun i hi => absurd hi (Nat.not_lt_zero i)⟩, hr⟩
  have q := k4 j hj
  rcases (show j = 0 ∨ j = 1 ∨ j = 2 ∨ j = 3 by omega) with rfl | rfl | rfl | rfl <;> exact q
