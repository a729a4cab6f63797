/-! A text is done: class and model side by side. -/
theorem L22_stop (n : Nat) (x : Int32) (u : PS) (h : u 6 4 ≠ 0) : f6_plays_L22 n x u = (x, u) := by
  cases n with
  | zero => rw [f6_plays_L22]
  | succ n =>
    rw [f6_plays_L22]
    by_cases z : u 6 2 ≤ u 6 3
    · rw [if_pos z]
    · rw [if_neg z, if_neg h]
theorem T_stop (n : Nat) {u : PS} (h : u 6 4 ≠ 0) : f6_plays_T (n + 1) u := by
  rw [f6_plays_T]; exact fun _ q => absurd q h
theorem T_end (n : Nat) {u : PS} (h : u 6 2 ≤ u 6 3) : f6_plays_T (n + 1) u := by
  rw [f6_plays_T]; exact fun q => absurd h q
def keepP (τ τ2 : PS) : Prop := (∀ j, j ≠ 0 → j ≠ 5 → j ≠ 6 → τ2 j = τ j) ∧ ∀ i, i ≠ 3 → i ≠ 4 → i ≠ 5 → τ2 6 i = τ 6 i
theorem keepP.rf (τ : PS) : keepP τ τ := ⟨fun _ _ _ _ => rfl, fun _ _ _ _ => rfl⟩
theorem keepP.tr {a b c : PS} (h : keepP a b) (h2 : keepP b c) : keepP a c := ⟨fun j x y z => (h2.1 j x y z).trans (h.1 j x y z), fun i x y z => (h2.2 i x y z).trans (h.2 i x y z)⟩
def keepZ (u V : ST) : Prop := V 0 = u 0 ∧ V 7 0 = u 7 0 ∧ V 7 2 0 = u 7 2 0
def ended (u V : ST) (τ τ2 : PS) (y : Int32) (n : Nat) : Prop := V 9 0 1 = τ2 6 4 ∧ ((τ2 6 4 = 0 ∧ RI (V 6) (τ2 0) ∧ τ2 6 5 - V 6 13 0 = τ 6 5 - u 6 13 0 ∧ ∃ b, b ≤ n ∧ τ2 6 5 = τ 6 5 + nI b) ∨ (τ2 6 4 ≠ 0 ∧ ∃ k, k < 61 ∧ y = nI k ∧ V 9 0 0 = nI k))
theorem e_loop {t : Nat} {sg : Nat → Int32} : ∀ n i k : Nat, ∀ (x : Int32) (u : ST) (τ : PS), 60 ≤ i + n → i ≤ t → RI (u 6) (τ 0) → txR (u 7) t sg → mxR τ t sg → u 9 0 0 = nI i → u 9 0 1 = 0 → τ 6 3 = nI i → τ 6 4 = 0 → τ 6 1 = 1 → vp_in (τ 6 0) 5 → ∃ (V : ST) (y : Int32) (τ2 : PS), f2_perform_L20 n k u = V ∧ f6_plays_L22 (n + 1) x τ = (y, τ2) ∧ f6_plays_T (n + 1) τ ∧ keepZ u V ∧ keepP τ τ2 ∧ ended u V τ τ2 y n := by
  intro n
  induction n with
  | zero =>
    intro i k x u τ hn hi hR hT hM p0 p1 m3 m4 m1 hH
    have t60 := hT.2.1
    have le : τ 6 2 ≤ τ 6 3 := by rw [hM.1, m3]; exact nI_le (by omega) (by omega)
    rw [f2_perform_L20, f6_plays_L22, if_pos le]
    exact ⟨u, x, τ, rfl, rfl, T_end 0 le, ⟨rfl, rfl, rfl⟩, keepP.rf τ, p1.trans m4.symm, Or.inl ⟨m4, hR, rfl, 0, Nat.le_refl 0, (e_add0 _).symm⟩⟩
  | succ n ih =>
    intro i k x u τ hn hi hR hT hM p0 p1 m3 m4 m1 hH
    have t60 := hT.2.1
    by_cases z : i < t
    · have gt : ¬ (u 7) 2 0 ≤ (u 9) 0 0 := by rw [hT.1, p0]; exact nI_ge z (by omega)
      have gt2 : ¬ τ 6 2 ≤ τ 6 3 := by rw [hM.1, m3]; exact nI_ge z (by omega)
      obtain ⟨rd, T2, r, τ2, f1, f2, f3, f4, f5, ⟨b, b1, b2⟩, f6⟩ := e_does hR hT hM z m3 m1
      have l22 : f6_plays_L22 (n + 1 + 1) x τ = f6_plays_L22 (n + 1) (nI i) (wr τ2 6 4 r) := by
        rw [f6_plays_L22, if_neg gt2, if_pos m4]
        dsimp only [sq, sq2]
        rw [f4, m3]
      have kp : keepP τ (wr τ2 6 4 r) := ⟨fun j h0 h5 h6 => (wr_ne h6).trans (f5.1 j h0 h5 h6), fun q h3 h4 h5 => (pk_un (f := τ2 6) (k := 4) (x := r) h4).trans (f5.2 q h3 h5)⟩
      have c64 : (wr τ2 6 4 r) 6 4 = r := pk_us (f := τ2 6) (k := 4) (x := r)
      have c65 : (wr τ2 6 4 r) 6 5 = τ2 6 5 := pk_un (f := τ2 6) (k := 4) (x := r) (show (5 : Nat) ≠ 4 by decide)
      have c63 : (wr τ2 6 4 r) 6 3 = τ2 6 3 := pk_un (f := τ2 6) (k := 4) (x := r) (show (3 : Nat) ≠ 4 by decide)
      have okd : okD τ := ⟨hH, hR.M.1, hR.M.2, (show vp_in (τ 6 2) 61 by rw [hM.1]; exact vp_in_nI (by omega) (by decide)), (show vp_in (τ 6 3) 61 by rw [m3]; exact vp_in_nI (by omega) (by decide))⟩
      have tT : f6_plays_T (n + 1) (wr τ2 6 4 r) → f6_plays_T (n + 1 + 1) τ := fun h => by
        rw [f6_plays_T]
        exact fun _ _ => ⟨okd, fun r' u' e' => by rw [f4] at e'; cases e'; exact h⟩
      rw [l22]
      have hT2 : txR T2 t sg := ⟨f3.trans hT.1, hT.2.1, fun q => by rw [f2]; exact hT.2.2 q⟩
      have hM2 : mxR (wr τ2 6 4 r) t sg := ⟨(kp.2 2 (by decide) (by decide) (by decide)).trans hM.1, hM.2.1, fun q => by rw [kp.1 4 (by decide) (by decide) (by decide)]; exact hM.2.2 q⟩
      rcases f6 with ⟨a1, a2⟩ | ⟨a1, C, k1, k2, k3⟩
      · subst a1
        subst a2
        have step : f2_perform_L20 (n + 1) k u = mkZ (u 0) (u 1) (u 2) (u 3) (u 4) (u 5) (u 6) T2 (u 8) (wr (u 9) 0 1 1) := by
          rw [f2_perform_L20, if_neg gt, p0]
          dsimp only [sq, sq2]
          rw [f1]
          dsimp only
          have w1 : (wr (u 9) 0 1 1) 0 1 = 1 := rfl
          rw [if_pos (show (0 : Int32) = 0 from rfl), w1, if_neg ne10]
        have c40 : (wr τ2 6 4 1) 6 4 ≠ 0 := by rw [c64]; exact ne10
        rw [step, L22_stop _ _ _ c40]
        exact ⟨_, _, _, rfl, rfl, tT (T_stop n c40), ⟨rfl, f2, f3⟩, kp, c64.symm, Or.inr ⟨c40, i, by omega, rfl, p0⟩⟩
      · subst a1
        have k1' : f2_obey (mkZ (u 0) (u 1) (u 2) (u 3) (u 4) (u 5) (u 6) T2 (u 8) (u 9)) = (C.1, mkZ (u 0) (u 1) (u 2) (u 3) (u 4) (u 5) C.2 T2 (u 8) (u 9)) := k1 (mkZ (u 0) (u 1) (u 2) (u 3) (u 4) (u 5) (u 6) T2 (u 8) (u 9)) rfl rfl
        have step : f2_perform_L20 (n + 1) k u = (if rsn C.1 = 0 then f2_perform_L20 n (k + 1) (mkZ (u 0) (u 1) (u 2) (u 3) (u 4) (u 5) C.2 T2 (u 8) (wr (wr (u 9) 0 1 (rsn C.1)) 0 0 (T2 2 2))) else mkZ (u 0) (u 1) (u 2) (u 3) (u 4) (u 5) C.2 T2 (u 8) (wr (u 9) 0 1 (rsn C.1))) := by
          rw [f2_perform_L20, if_neg gt, p0]
          dsimp only [sq, sq2]
          rw [f1]
          dsimp only
          rw [if_neg ne10, k1']
          rfl
        rw [k2] at step
        rw [step]
        by_cases rz : r = 0
        · subst rz
          obtain ⟨q1, q2, j, j1, j2, j3, j4⟩ := k3 rfl
          rw [if_pos rfl, j4]
          obtain ⟨V, y, τ3, v1, v2, v3, v4, v5, v6⟩ := ih j (k + 1) (nI i) (mkZ (u 0) (u 1) (u 2) (u 3) (u 4) (u 5) C.2 T2 (u 8) (wr (wr (u 9) 0 1 0) 0 0 (nI j))) (wr τ2 6 4 0) (by omega) j2 (by rw [wr_ne (by decide)]; exact q1) hT2 hM2 rfl rfl (c63.trans j3) c64 ((kp.2 1 (by decide) (by decide) (by decide)).trans m1) (by rw [kp.2 0 (by decide) (by decide) (by decide)]; exact hH)
          obtain ⟨w1, w2⟩ := v6
          refine ⟨V, y, τ3, v1, v2, tT v3, ⟨v4.1, v4.2.1.trans f2, v4.2.2.trans f3⟩, kp.tr v5, w1, ?_⟩
          rcases w2 with ⟨a, b', c, ⟨d, d1, d2⟩⟩ | w2
          · left
            refine ⟨a, b', ?_, b + d, by omega, ?_⟩
            · have c' : τ3 6 5 - V 6 13 0 = (wr τ2 6 4 0) 6 5 - C.2 13 0 := c
              rw [c', c65]; exact q2
            · rw [d2, c65, b2, Int32.add_assoc, nI_add]
          · exact Or.inr w2
        · rw [if_neg rz]
          have c40 : (wr τ2 6 4 r) 6 4 ≠ 0 := by rw [c64]; exact rz
          rw [L22_stop _ _ _ c40]
          exact ⟨_, _, _, rfl, rfl, tT (T_stop n c40), ⟨rfl, f2, f3⟩, kp, c64.symm, Or.inr ⟨c40, i, by omega, rfl, p0⟩⟩
    · have le : (u 7) 2 0 ≤ (u 9) 0 0 := by rw [hT.1, p0]; exact nI_le (by omega) (by omega)
      have le2 : τ 6 2 ≤ τ 6 3 := by rw [hM.1, m3]; exact nI_le (by omega) (by omega)
      rw [f2_perform_L20, if_pos le, f6_plays_L22, if_pos le2]
      exact ⟨u, x, τ, rfl, rfl, T_end (n + 1) le2, ⟨rfl, rfl, rfl⟩, keepP.rf τ, p1.trans m4.symm, Or.inl ⟨m4, hR, rfl, 0, Nat.zero_le _, (e_add0 _).symm⟩⟩
theorem nI_no {k : Nat} {c : Int32} (h : k < 2 ^ 31) (hc : c < 0) : nI k ≠ c := fun q => by
  rw [← q] at hc; exact nI_pos h hc
theorem sub_flip {x y z : Int32} (h : x - y = 0 - z) : x = y - z := by
  rw [← Int32.sub_add_cancel x y, h, Int32.zero_sub, Int32.add_comm, ← Int32.sub_eq_add_neg]
theorem e_plays {Z : ST} {σ : PS} (a : RI (Z 0) (σ 0)) (hH : vp_in (σ 6 0) 5) {t : Nat} (t1 : t ≤ 60) (t2 : Z 7 2 0 = nI t) (t3 : σ 6 2 = nI t) (t4 : ∀ i, i < t → Z 7 0 i = σ 4 i) : ∃ (V : ST) (y : Int32) (σ2 : PS), f2_perform Z = V ∧ f6_plays σ = (y, σ2) ∧ f6_plays_T 61 (playsInit σ) ∧ keepZ Z V ∧ (∀ j, j ≠ 0 → j ≠ 5 → j ≠ 6 → σ2 j = σ j) ∧ (∀ i, i ≠ 1 → i ≠ 3 → i ≠ 4 → i ≠ 5 → σ2 6 i = σ 6 i) ∧ σ2 6 1 = 0 ∧ V 9 0 1 = σ2 6 4 ∧ ((σ2 6 4 = 0 ∧ y = -1000004 ∧ RI (V 6) (σ2 0) ∧ σ2 6 5 = V 6 13 0 - Z 0 13 0 ∧ ∃ b, b ≤ 60 ∧ σ2 6 5 = nI b) ∨ (σ2 6 4 ≠ 0 ∧ V 9 0 0 = y ∧ y ≠ -1000004)) := by
  obtain ⟨sg, hsg⟩ : ∃ sg : Nat → Int32, ∀ i, sg i = if i < t then σ 4 i else -1 := ⟨fun i => if i < t then σ 4 i else -1, fun _ => rfl⟩
  have hT : txR (Z 7) t sg := ⟨t2, t1, fun i => by
    rw [hsg]
    by_cases z : i < t
    · rw [if_pos z, if_pos z, t4 i z]
    · rw [if_neg z, if_neg z]⟩
  have i4 : ∀ j, j ≠ 6 → (wr (wr (wr (wr σ 6 1 1) 6 3 0) 6 4 0) 6 5 0) j = σ j := fun j hj => by rw [wr_ne hj, wr_ne hj, wr_ne hj, wr_ne hj]
  have i6 : ∀ i, i ≠ 1 → i ≠ 3 → i ≠ 4 → i ≠ 5 → (wr (wr (wr (wr σ 6 1 1) 6 3 0) 6 4 0) 6 5 0) 6 i = σ 6 i := fun i h1 h3 h4 h5 => by
    show upd (upd (upd (upd (σ 6) 1 1) 3 0) 4 0) 5 0 i = σ 6 i
    rw [pk_un h5, pk_un h4, pk_un h3, pk_un h1]
  have i65 : (wr (wr (wr (wr σ 6 1 1) 6 3 0) 6 4 0) 6 5 0) 6 5 = 0 := rfl
  have hM : mxR (wr (wr (wr (wr σ 6 1 1) 6 3 0) 6 4 0) 6 5 0) t sg := ⟨(i6 2 (by decide) (by decide) (by decide) (by decide)).trans t3, t1, fun i => by rw [i4 4 (by decide)]; exact hsg i⟩
  have hR : RI (f1_copyFrom (Z 6) (Z 0)) ((wr (wr (wr (wr σ 6 1 1) 6 3 0) 6 4 0) 6 5 0) 0) := by rw [i4 0 (by decide)]; exact RI_cpy a
  have c13 : (f1_copyFrom (Z 6) (Z 0)) 13 0 = Z 0 13 0 := (cpy_agr (Z 6) (Z 0)).2.2.2.2.2.2 0 (by decide)
  obtain ⟨V, y, τ2, v1, v2, v3, v4, v5, v6⟩ := e_loop (sg := sg) 60 0 0 0 (mkZ (Z 0) (Z 1) (Z 2) (Z 3) (Z 4) (Z 5) (f1_copyFrom (Z 6) (Z 0)) (Z 7) (Z 8) (wr (wr (Z 9) 0 0 0) 0 1 0)) (wr (wr (wr (wr σ 6 1 1) 6 3 0) 6 4 0) 6 5 0) (by decide) (Nat.zero_le t) hR hT hM rfl rfl rfl rfl rfl (by rw [i6 0 (by decide) (by decide) (by decide) (by decide)]; exact hH)
  have pf : f2_perform Z = V := by
    unfold f2_perform
    dsimp only [sq]
    exact v1
  have v2' : f6_plays_L22 61 0 (wr (wr (wr (wr σ 6 1 1) 6 3 0) 6 4 0) 6 5 0) = (y, τ2) := v2
  have c4 : (wr τ2 6 1 0) 6 4 = τ2 6 4 := pk_un (f := τ2 6) (k := 1) (x := 0) (show (4 : Nat) ≠ 1 by decide)
  have c5 : (wr τ2 6 1 0) 6 5 = τ2 6 5 := pk_un (f := τ2 6) (k := 1) (x := 0) (show (5 : Nat) ≠ 1 by decide)
  have c1 : (wr τ2 6 1 0) 6 1 = 0 := pk_us (f := τ2 6) (k := 1) (x := 0)
  have pl : f6_plays σ = (if τ2 6 4 = 0 then ((-1000004 : Int32), wr τ2 6 1 0) else (y, wr τ2 6 1 0)) := by
    unfold f6_plays
    dsimp only [sq, sq2]
    rw [v2']
    dsimp only
    rw [c4]
  have kr : ∀ j, j ≠ 0 → j ≠ 5 → j ≠ 6 → (wr τ2 6 1 0) j = σ j := fun j h0 h5 h6 => (wr_ne h6).trans ((v5.1 j h0 h5 h6).trans (i4 j h6))
  have k6 : ∀ i, i ≠ 1 → i ≠ 3 → i ≠ 4 → i ≠ 5 → (wr τ2 6 1 0) 6 i = σ 6 i := fun i h1 h3 h4 h5 => (pk_un (f := τ2 6) (k := 1) (x := 0) h1).trans ((v5.2 i h3 h4 h5).trans (i6 i h1 h3 h4 h5))
  obtain ⟨w1, w2⟩ := v6
  rcases w2 with ⟨a1, a2, a3, b, b1, b2⟩ | ⟨a1, k, k1, k2, k3⟩
  · rw [if_pos a1] at pl
    refine ⟨V, -1000004, wr τ2 6 1 0, pf, pl, v3, v4, kr, k6, c1, w1.trans c4.symm, Or.inl ⟨c4.trans a1, rfl, ?_, ?_, b, b1, ?_⟩⟩
    · rw [wr_ne (by decide)]; exact a2
    · rw [c5]
      have a3 : τ2 6 5 - V 6 13 0 = 0 - (f1_copyFrom (Z 6) (Z 0)) 13 0 := a3
      rw [c13] at a3
      exact sub_flip a3
    · rw [c5, b2, i65]; exact Int32.zero_add _
  · rw [if_neg a1] at pl
    exact ⟨V, y, wr τ2 6 1 0, pf, pl, v3, v4, kr, k6, c1, w1.trans c4.symm, Or.inr ⟨by rw [c4]; exact a1, k3.trans k2.symm, by rw [k2]; exact nI_no (by omega) (by decide)⟩⟩
theorem Sim_rows {Z : ST} {μ ν : PS} (h : Sim Z μ) (e0 : ∀ k, k < 443 → ν 0 k = μ 0 k) (e1 : ν 1 = μ 1) (e4 : ν 4 = μ 4) (e60 : ν 6 0 = μ 6 0) (e62 : ν 6 2 = μ 6 2) (e61 : ν 6 1 = 0) : Sim Z ν := by
  obtain ⟨a, ⟨k, k1, k2, k3, k4⟩, ⟨t, t1, t2, t3, t4⟩, d⟩ := h
  exact ⟨RI_s e0 a, ⟨k, k1, k2, e60.trans k3, fun j hj => by rw [e1]; exact k4 j hj⟩, ⟨t, t1, t2, e62.trans t3, fun i hi => by rw [e4]; exact t4 i hi⟩, e61⟩
theorem Sim_class {Z V : ST} {μ : PS} (h : Sim Z μ) (v : keepZ Z V) : Sim (mkZ (V 0) (Z 1) (Z 2) (Z 3) (Z 4) (Z 5) (V 6) (V 7) (Z 8) (V 9)) μ := by
  obtain ⟨a, ⟨k, k1, k2, k3, k4⟩, ⟨t, t1, t2, t3, t4⟩, d⟩ := h
  obtain ⟨v0, v7, v72⟩ := v
  refine ⟨?_, ⟨k, k1, k2, k3, fun j hj => ?_⟩, ⟨t, t1, v72.trans t2, t3, fun i hi => ?_⟩, d⟩
  · show RI (V 0) (μ 0)
    rw [v0]; exact a
  · have := k4 j hj
    rcases (show j = 0 ∨ j = 1 ∨ j = 2 ∨ j = 3 by omega) with rfl | rfl | rfl | rfl <;> exact this
  · show V 7 0 i = μ 4 i
    rw [v7]; exact t4 i hi
theorem Sim_H {Z : ST} {μ : PS} (h : Sim Z μ) : vp_in (μ 6 0) 5 := by
  obtain ⟨_, ⟨k, k1, _, k3, _⟩, _⟩ := h
  rw [k3]; exact vp_in_nI (by omega) (by decide)
/-- the text on the pool as it stands, and the model put back behind it -/
theorem e_try {Z : ST} {μ : PS} (h : Sim Z μ) : ∃ (V : ST) (y : Int32) (σ2 : PS), f2_perform Z = V ∧ f6_plays (cpyR μ 0 2) = (y, σ2) ∧ f6_plays_T 61 (playsInit (cpyR μ 0 2)) ∧ keepZ Z V ∧ Sim Z (cpyR σ2 2 0) ∧ V 9 0 1 = (cpyR σ2 2 0) 6 4 ∧ ((V 9 0 1 = 0 ∧ y = -1000004) ∨ (V 9 0 1 ≠ 0 ∧ V 9 0 0 = y ∧ y ≠ -1000004)) := by
  have h0 := h
  have hH := Sim_H h
  obtain ⟨a, _, ⟨t, t1, t2, t3, t4⟩, d⟩ := h
  have c0 : (cpyR μ 0 2) 0 = μ 0 := cpyR_ne μ (by decide)
  have c4 : (cpyR μ 0 2) 4 = μ 4 := cpyR_ne μ (by decide)
  have c6 : (cpyR μ 0 2) 6 = μ 6 := cpyR_ne μ (by decide)
  have c1 : (cpyR μ 0 2) 1 = μ 1 := cpyR_ne μ (by decide)
  obtain ⟨V, y, σ2, pf, pl, pT, kz, r, r6, r61, w, e⟩ := e_plays (Z := Z) (σ := cpyR μ 0 2) (by rw [c0]; exact a) (by rw [c6]; exact hH) t1 t2 (by rw [c6]; exact t3) (fun i hi => by rw [c4]; exact t4 i hi)
  have b6 : (cpyR σ2 2 0) 6 = σ2 6 := cpyR_ne σ2 (by decide)
  refine ⟨V, y, σ2, pf, pl, pT, kz, ?_, w.trans (by rw [b6]), ?_⟩
  · refine Sim_rows h0 (fun k hk => ?_) ?_ ?_ ?_ ?_ ?_
    · rw [cpyR_at _ hk, r 2 (by decide) (by decide) (by decide), cpyR_at _ hk]
    · rw [cpyR_ne _ (by decide), r 1 (by decide) (by decide) (by decide), c1]
    · rw [cpyR_ne _ (by decide), r 4 (by decide) (by decide) (by decide), c4]
    · rw [b6, r6 0 (by decide) (by decide) (by decide) (by decide), c6]
    · rw [b6, r6 2 (by decide) (by decide) (by decide) (by decide), c6]
    · rw [b6]; exact r61
  · rw [w]
    rcases e with ⟨e1, e2, _⟩ | ⟨e1, e2, e3⟩
    · exact Or.inl ⟨e1, e2⟩
    · exact Or.inr ⟨e1, e2, e3⟩
theorem e_fault {Z : ST} {μ : PS} (h : Sim Z μ) (p1 : Int32) : (f5_fault Z p1).1 = (f6_fault μ p1).1 ∧ Sim (f5_fault Z p1).2 (f6_fault μ p1).2 := by
  unfold f5_fault f6_fault
  rw [e_rng]
  dsimp only [sq, sq2]
  by_cases q1 : p1 < 0
  · rw [if_pos q1, if_pos q1]; exact ⟨rfl, h⟩
  · rw [if_neg q1, if_neg q1]
    by_cases q2 : p1 ≤ 1
    · rw [if_pos q2, if_pos q2]
      obtain ⟨V, y, σ2, pf, pl, _, kz, hS, w, e⟩ := e_try h
      have hC := Sim_class hS kz
      rw [pf, pl]
      dsimp only
      rw [← w]
      rcases e with ⟨e1, e2⟩ | ⟨e1, e2, e3⟩
      · rw [if_pos e1, if_pos e2]
        exact ⟨e2.symm, hC⟩
      · rw [if_neg e1, if_neg e3]
        by_cases q3 : p1 = 0
        · rw [if_pos q3, if_pos q3]
          exact ⟨e2, hC⟩
        · rw [if_neg q3, if_neg q3]
          exact ⟨rfl, hC⟩
    · rw [if_neg q2, if_neg q2]; exact ⟨rfl, h⟩
/-- the text once more, behind the noted state -/
theorem e_again {Z : ST} {ν : PS} (h : Sim Z ν) : ∃ (V : ST) (y : Int32) (σ2 : PS), f2_perform Z = V ∧ f6_plays (f6_changes ν) = (y, σ2) ∧ f6_plays_T 61 (playsInit (f6_changes ν)) ∧ σ2 1 = (f6_changes ν) 1 ∧ σ2 4 = (f6_changes ν) 4 ∧ σ2 6 0 = (f6_changes ν) 6 0 ∧ σ2 6 2 = (f6_changes ν) 6 2 ∧ σ2 6 1 = 0 ∧ V 9 0 1 = σ2 6 4 ∧ (V 9 0 1 = 0 → y = -1000004 ∧ RI (V 6) (σ2 0) ∧ σ2 6 5 = V 6 13 0 - Z 0 13 0 ∧ ∃ b, b ≤ 60 ∧ σ2 6 5 = nI b) := by
  obtain ⟨a, ⟨k, k1, k2, k3, k4⟩, ⟨t, t1, t2, t3, t4⟩, d⟩ := h
  obtain ⟨ν2, c0, c1, c2, c3⟩ := chg_spec k1 d k3
  rw [c0]
  have hH : vp_in (ν2 6 0) 5 := by
    rcases c3 with ⟨d1, d2, _⟩ | ⟨d1, d2, _⟩
    · rw [d2]; exact vp_in_nI (by omega) (by decide)
    · rw [d2]; exact vp_in_nI (by omega) (by decide)
  obtain ⟨V, y, σ2, pf, pl, pT, kz, r, r6, r61, w, e⟩ := e_plays (Z := Z) (σ := ν2) (by rw [c1 0 (by decide) (by decide)]; exact a) hH t1 t2 ((c2 2 (by decide)).trans t3) (fun i hi => by rw [c1 4 (by decide) (by decide)]; exact t4 i hi)
  refine ⟨V, y, σ2, pf, pl, pT, r 1 (by decide) (by decide) (by decide), r 4 (by decide) (by decide) (by decide), r6 0 (by decide) (by decide) (by decide) (by decide), r6 2 (by decide) (by decide) (by decide) (by decide), r61, w, fun q => ?_⟩
  rcases e with ⟨e1, e2⟩ | ⟨e1, _⟩
  · exact e2
  · exact absurd (w.symm.trans q) e1
theorem e_play {Z : ST} {μ : PS} (h : Sim Z μ) : (f5_play Z).1 = (f6_play μ).1 ∧ Sim (f5_play Z).2 (f6_play μ).2 := by
  obtain ⟨V, y, σ2, pf, pl, _, kz, hS, w, e⟩ := e_try h
  have hC := Sim_class hS kz
  rcases e with ⟨e1, e2⟩ | ⟨e1, e2, e3⟩
  · obtain ⟨V2, y2, σ3, qf, ql, _, s1, s4, s60, s62, s61, _, s⟩ := e_again hS
    have hV : V2 = V := qf.symm.trans pf
    subst hV
    obtain ⟨x1, x2, x3, b, b1, b2⟩ := s e1
    have v0 : V2 0 = Z 0 := kz.1
    have rr : (V2 6) 13 0 - (V2 0) 13 0 = nI b := by rw [v0, ← x3, b2]
    have key := gen_ok hC (fun p => ((V2 6) 13 0 - (V2 0) 13 0, f1_copyFrom p (V2 6))) (M := (σ3 6 5, setA (f6_changes (cpyR σ2 2 0)) 0 (σ3 0))) (Or.inr ⟨by
      show f5_isError ((V2 6) 13 0 - (V2 0) 13 0) = 0
      rw [rr]; exact err_nI (by omega), by
      show σ3 6 5 = (V2 6) 13 0 - (V2 0) 13 0
      rw [rr, b2], by
      show RI (f1_copyFrom _ (V2 6)) ((setA (f6_changes (cpyR σ2 2 0)) 0 (σ3 0)) 0)
      rw [setA_eq]; exact RI_cpy x2, fun j hj => setA_ne hj⟩)
    have pc : f5_play Z = f5_gen (fun p => ((V2 6) 13 0 - (V2 0) 13 0, f1_copyFrom p (V2 6))) (mkZ (V2 0) (Z 1) (Z 2) (Z 3) (Z 4) (Z 5) (V2 6) (V2 7) (Z 8) (V2 9)) := by
      unfold f5_play f5_gen
      dsimp only [sq, sq2]
      rw [pf, if_pos e1]
      rfl
    have pm : f6_play μ = (σ3 6 5, σ3) := by
      unfold f6_play
      dsimp only [sq, sq2]
      rw [pl]
      dsimp only
      rw [if_pos e2, ql]
      dsimp only
      rw [if_pos x1]
    rw [pc, pm]
    refine ⟨key.1, Sim_rows key.2 (fun k _ => ?_) ?_ ?_ ?_ ?_ s61⟩
    · show σ3 0 k = (setA (f6_changes (cpyR σ2 2 0)) 0 (σ3 0)) 0 k
      rw [setA_eq]
    · show σ3 1 = (setA (f6_changes (cpyR σ2 2 0)) 0 (σ3 0)) 1
      rw [setA_ne (by decide)]; exact s1
    · show σ3 4 = (setA (f6_changes (cpyR σ2 2 0)) 0 (σ3 0)) 4
      rw [setA_ne (by decide)]; exact s4
    · show σ3 6 0 = (setA (f6_changes (cpyR σ2 2 0)) 0 (σ3 0)) 6 0
      rw [setA_ne (by decide)]; exact s60
    · show σ3 6 2 = (setA (f6_changes (cpyR σ2 2 0)) 0 (σ3 0)) 6 2
      rw [setA_ne (by decide)]; exact s62
  · unfold f5_play f6_play
    dsimp only [sq, sq2]
    rw [pf, pl]
    dsimp only
    rw [if_neg e1, if_neg e3]
    exact ⟨rfl, hC⟩
