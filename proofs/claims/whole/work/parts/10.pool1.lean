theorem ix_spot {v q : Int32} (hv : vp_in v 8) (hq : vp_in q 40) : vp_in (v * 40 + q) 320 := by
  obtain ⟨a, ha, rfl⟩ := vp_in_of hv (by decide)
  obtain ⟨b, hb, rfl⟩ := vp_in_of hq (by decide)
  have h : nI a * 40 + nI b = nI (a * 40 + b) := by
    rw [← nI_add, ← pk_mul]; rfl
  rw [h]
  exact vp_in_nI (by omega) (by decide)
def f1_lives (σ : PS) (p1 : Int32) : Int32 := (if p1 < 0 then (0 : Int32) else (if (8 : Int32) ≤ p1 then (0 : Int32) else (if (σ 0 p1.toNatClampNeg) ≤ 0 then (0 : Int32) else (1 : Int32))))
set_option maxHeartbeats 4000000 in
set_option maxRecDepth 100000 in
theorem c1_lives (l : Launch) (D : va_G) (cI cP : ClassId) (hs : Nat → Nat) (σ : PS) (p1 : Int32) : CP l yX1_lives wsX1_lives ({ frames := 0, cells := 0, slots := 0, locals := 0 } : Room) D (cty cI cP) (wPool cI hs) σ [.ref (hs 0), .int p1] (f1_lives σ p1) := by
  refine CP.of (cc := cX1_lives) (maxL := 2) (rt := .boolean) (own := RX1) (lv0 := [(0, .ref (hs 0)), (1, .int p1)]) pnX1 rfl rfl (Nat.le_of_ble_eq_true rfl) rfl (fun p e s m args below meth c A Q F hret => ?_)
  have w_1 := F.at (x := Cond.fieldLink RX1 9 "ThinVolumes$Pool" "sizes" "[I") 1 rfl
  have k_1 : ∀ w ∈ wsX10, w ∈ wsX1_lives := fun _ h => List.mem_cons_of_mem _ (List.mem_append_right _ (h))
  refine wk_iload_n F dX1_lives_0 rfl 1 rfl (pc' := 1) rfl ?_
  refine wk_if_lt (tgt := 23) F dX1_lives_1 (by decide) (pc' := 4) rfl (fun c1 => ?_) (fun c1 => ?_)
  · refine wk_iconst F dX1_lives_23 ic_0 (pc' := 24) rfl ?_
    exact hret _ _ _ dX1_lives_24 rfl (Eq.symm (by rw [f1_lives] <;> exact (st_pos c1 rfl)))
  · refine wk_iload_n F dX1_lives_4 rfl 1 rfl (pc' := 5) rfl ?_
    refine wk_bipush F dX1_lives_5 bp_8 (pc' := 7) rfl ?_
    refine wk_icmp_ge (tgt := 23) F dX1_lives_7 (by decide) (pc' := 10) rfl (fun c2 => ?_) (fun c2 => ?_)
    · refine wk_iconst F dX1_lives_23 ic_0 (pc' := 24) rfl ?_
      exact hret _ _ _ dX1_lives_24 rfl (Eq.symm (by rw [f1_lives] <;> exact (st_neg c1 (st_pos c2 rfl))))
    · refine wk_aload_n F dX1_lives_10 rfl 0 rfl (pc' := 11) rfl ?_
      refine wk_get (C := RX1) (T := TX1) (N := 14) F 0 rfl rfl k_1 0 (Nat.le_of_ble_eq_true rfl) w_1 rfl dX1_lives_11 (pc' := 14) rfl ?_
      refine wk_iload_n F dX1_lives_14 rfl 1 rfl (pc' := 15) rfl ?_
      refine wk_iald F 1 0 rfl rfl (vin c1 c2 (Nat.le_of_ble_eq_true rfl)) dX1_lives_15 (pc' := 16) rfl ?_
      refine wk_if_le (tgt := 23) F dX1_lives_16 (by decide) (pc' := 19) rfl (fun c3 => ?_) (fun c3 => ?_)
      · refine wk_iconst F dX1_lives_23 ic_0 (pc' := 24) rfl ?_
        exact hret _ _ _ dX1_lives_24 rfl (Eq.symm (by rw [f1_lives] <;> exact (st_neg c1 (st_neg c2 (st_pos c3 rfl)))))
      · refine wk_iconst F dX1_lives_19 ic_1 (pc' := 20) rfl ?_
        refine wk_goto (tgt := 24) F dX1_lives_20 (by decide) ?_
        exact hret _ _ _ dX1_lives_24 rfl (Eq.symm (by rw [f1_lives] <;> exact (st_neg c1 (st_neg c2 (st_neg c3 rfl)))))
theorem lives_in {σ : PS} {x : Int32} (h : ¬ f1_lives σ x = 0) : vp_in x 8 := by
  unfold f1_lives at h
  split at h
  · exact absurd rfl h
  · split at h
    · exact absurd rfl h
    · exact vin (by assumption) (by assumption) (by decide)
def f1_hasPlace (σ : PS) (p1 : Int32) (p2 : Int32) : Int32 := (if (f1_lives σ p1) = 0 then (0 : Int32) else (if p2 < 0 then (0 : Int32) else (if (σ 0 p1.toNatClampNeg) ≤ p2 then (0 : Int32) else (if (40 : Int32) ≤ p2 then (0 : Int32) else (1 : Int32)))))
set_option maxHeartbeats 4000000 in
set_option maxRecDepth 100000 in
theorem c1_hasPlace (l : Launch) (D : va_G) (cI cP : ClassId) (hs : Nat → Nat) (σ : PS) (p1 : Int32) (p2 : Int32) : CP l yX1_hasPlace wsX1_hasPlace ({ frames := 1, cells := 0, slots := 0, locals := 21 } : Room) D (cty cI cP) (wPool cI hs) σ [.ref (hs 0), .int p1, .int p2] (f1_hasPlace σ p1 p2) := by
  refine CP.of (cc := cX1_hasPlace) (maxL := 3) (rt := .boolean) (own := RX1) (lv0 := [(0, .ref (hs 0)), (1, .int p1), (2, .int p2)]) pnX1 rfl rfl (Nat.le_of_ble_eq_true rfl) rfl (fun p e s m args below meth c A Q F hret => ?_)
  have w_1 := F.at (x := Cond.fieldLink RX1 9 "ThinVolumes$Pool" "sizes" "[I") 1 rfl
  have k_1 : ∀ w ∈ wsX10, w ∈ wsX1_hasPlace := fun _ h => List.mem_cons_of_mem _ (List.mem_append_right _ (h))
  refine wk_aload_n F dX1_hasPlace_0 rfl 0 rfl (pc' := 1) rfl ?_
  refine wk_iload_n F dX1_hasPlace_1 rfl 1 rfl (pc' := 2) rfl ?_
  refine wk_same_p F (c1_lives l D cI cP hs σ p1) (cwV 1 F.hts gX1_hasPlace_X1_lives rfl rfl rfl hdX1_lives ⟨Nat.le_of_ble_eq_true rfl, Nat.le_of_ble_eq_true rfl⟩) 0 1 rfl rfl rfl rfl (Nat.le_of_ble_eq_true rfl) dX1_hasPlace_2 ⟨Nat.zero_le _, Nat.zero_le _⟩ (pc' := 5) rfl ?_
  refine wk_if_eq (tgt := 32) F dX1_hasPlace_5 (by decide) (pc' := 8) rfl (fun c1 => ?_) (fun c1 => ?_)
  · refine wk_iconst F dX1_hasPlace_32 ic_0 (pc' := 33) rfl ?_
    exact hret _ _ _ dX1_hasPlace_33 rfl (Eq.symm (by rw [f1_hasPlace] <;> exact (st_pos c1 rfl)))
  · refine wk_iload_n F dX1_hasPlace_8 rfl 2 rfl (pc' := 9) rfl ?_
    refine wk_if_lt (tgt := 32) F dX1_hasPlace_9 (by decide) (pc' := 12) rfl (fun c2 => ?_) (fun c2 => ?_)
    · refine wk_iconst F dX1_hasPlace_32 ic_0 (pc' := 33) rfl ?_
      exact hret _ _ _ dX1_hasPlace_33 rfl (Eq.symm (by rw [f1_hasPlace] <;> exact (st_neg c1 (st_pos c2 rfl))))
    · refine wk_iload_n F dX1_hasPlace_12 rfl 2 rfl (pc' := 13) rfl ?_
      refine wk_aload_n F dX1_hasPlace_13 rfl 0 rfl (pc' := 14) rfl ?_
      refine wk_get (C := RX1) (T := TX1) (N := 14) F 0 rfl rfl k_1 0 (Nat.le_of_ble_eq_true rfl) w_1 rfl dX1_hasPlace_14 (pc' := 17) rfl ?_
      refine wk_iload_n F dX1_hasPlace_17 rfl 1 rfl (pc' := 18) rfl ?_
      refine wk_iald F 1 0 rfl rfl (lives_in c1) dX1_hasPlace_18 (pc' := 19) rfl ?_
      refine wk_icmp_ge (tgt := 32) F dX1_hasPlace_19 (by decide) (pc' := 22) rfl (fun c3 => ?_) (fun c3 => ?_)
      · refine wk_iconst F dX1_hasPlace_32 ic_0 (pc' := 33) rfl ?_
        exact hret _ _ _ dX1_hasPlace_33 rfl (Eq.symm (by rw [f1_hasPlace] <;> exact (st_neg c1 (st_neg c2 (st_pos c3 rfl)))))
      · refine wk_iload_n F dX1_hasPlace_22 rfl 2 rfl (pc' := 23) rfl ?_
        refine wk_bipush F dX1_hasPlace_23 bp_40 (pc' := 25) rfl ?_
        refine wk_icmp_ge (tgt := 32) F dX1_hasPlace_25 (by decide) (pc' := 28) rfl (fun c4 => ?_) (fun c4 => ?_)
        · refine wk_iconst F dX1_hasPlace_32 ic_0 (pc' := 33) rfl ?_
          exact hret _ _ _ dX1_hasPlace_33 rfl (Eq.symm (by rw [f1_hasPlace] <;> exact (st_neg c1 (st_neg c2 (st_neg c3 (st_pos c4 rfl))))))
        · refine wk_iconst F dX1_hasPlace_28 ic_1 (pc' := 29) rfl ?_
          refine wk_goto (tgt := 33) F dX1_hasPlace_29 (by decide) ?_
          exact hret _ _ _ dX1_hasPlace_33 rfl (Eq.symm (by rw [f1_hasPlace] <;> exact (st_neg c1 (st_neg c2 (st_neg c3 (st_neg c4 rfl))))))
theorem hasPlace_v {σ : PS} {x y : Int32} (h : ¬ f1_hasPlace σ x y = 0) : vp_in x 8 := by
  unfold f1_hasPlace at h
  split at h
  · exact absurd rfl h
  · exact lives_in (by assumption)
theorem hasPlace_p {σ : PS} {x y : Int32} (h : ¬ f1_hasPlace σ x y = 0) : vp_in y 40 := by
  unfold f1_hasPlace at h
  split at h
  · exact absurd rfl h
  · split at h
    · exact absurd rfl h
    · split at h
      · exact absurd rfl h
      · split at h
        · exact absurd rfl h
        · exact vin (by assumption) (by assumption) (by decide)
def f1_isPiece (σ : PS) (p1 : Int32) : Int32 := (if p1 < 0 then (0 : Int32) else (if (30 : Int32) ≤ p1 then (0 : Int32) else (1 : Int32)))
set_option maxHeartbeats 4000000 in
set_option maxRecDepth 100000 in
theorem c1_isPiece (l : Launch) (D : va_G) (cI cP : ClassId) (hs : Nat → Nat) (σ : PS) (p1 : Int32) : CP l yX1_isPiece wsX1_isPiece ({ frames := 0, cells := 0, slots := 0, locals := 0 } : Room) D (cty cI cP) (wPool cI hs) σ [.ref (hs 0), .int p1] (f1_isPiece σ p1) := by
  refine CP.of (cc := cX1_isPiece) (maxL := 2) (rt := .boolean) (own := RX1) (lv0 := [(0, .ref (hs 0)), (1, .int p1)]) pnX1 rfl rfl (Nat.le_of_ble_eq_true rfl) rfl (fun p e s m args below meth c A Q F hret => ?_)
  refine wk_iload_n F dX1_isPiece_0 rfl 1 rfl (pc' := 1) rfl ?_
  refine wk_if_lt (tgt := 14) F dX1_isPiece_1 (by decide) (pc' := 4) rfl (fun c1 => ?_) (fun c1 => ?_)
  · refine wk_iconst F dX1_isPiece_14 ic_0 (pc' := 15) rfl ?_
    exact hret _ _ _ dX1_isPiece_15 rfl (Eq.symm (by rw [f1_isPiece] <;> exact (st_pos c1 rfl)))
  · refine wk_iload_n F dX1_isPiece_4 rfl 1 rfl (pc' := 5) rfl ?_
    refine wk_bipush F dX1_isPiece_5 bp_30 (pc' := 7) rfl ?_
    refine wk_icmp_ge (tgt := 14) F dX1_isPiece_7 (by decide) (pc' := 10) rfl (fun c2 => ?_) (fun c2 => ?_)
    · refine wk_iconst F dX1_isPiece_14 ic_0 (pc' := 15) rfl ?_
      exact hret _ _ _ dX1_isPiece_15 rfl (Eq.symm (by rw [f1_isPiece] <;> exact (st_neg c1 (st_pos c2 rfl))))
    · refine wk_iconst F dX1_isPiece_10 ic_1 (pc' := 11) rfl ?_
      refine wk_goto (tgt := 15) F dX1_isPiece_11 (by decide) ?_
      exact hret _ _ _ dX1_isPiece_15 rfl (Eq.symm (by rw [f1_isPiece] <;> exact (st_neg c1 (st_neg c2 rfl))))
theorem isPiece_in {σ : PS} {x : Int32} (h : ¬ f1_isPiece σ x = 0) : vp_in x 30 := by
  unfold f1_isPiece at h
  split at h
  · exact absurd rfl h
  · split at h
    · exact absurd rfl h
    · exact vin (by assumption) (by assumption) (by decide)
def f1_pieceAt (σ : PS) (p1 : Int32) (p2 : Int32) : Int32 := (if (f1_hasPlace σ p1 p2) = 0 then (-1 : Int32) else σ 6 ((p1 * (40 : Int32)) + p2).toNatClampNeg)
set_option maxHeartbeats 4000000 in
set_option maxRecDepth 100000 in
theorem c1_pieceAt (l : Launch) (D : va_G) (cI cP : ClassId) (hs : Nat → Nat) (σ : PS) (p1 : Int32) (p2 : Int32) : CP l yX1_pieceAt wsX1_pieceAt ({ frames := 2, cells := 0, slots := 0, locals := 43 } : Room) D (cty cI cP) (wPool cI hs) σ [.ref (hs 0), .int p1, .int p2] (f1_pieceAt σ p1 p2) := by
  refine CP.of (cc := cX1_pieceAt) (maxL := 3) (rt := .int) (own := RX1) (lv0 := [(0, .ref (hs 0)), (1, .int p1), (2, .int p2)]) pnX1 rfl rfl (Nat.le_of_ble_eq_true rfl) rfl (fun p e s m args below meth c A Q F hret => ?_)
  have w_1 := F.at (x := Cond.fieldLink RX1 30 "ThinVolumes$Pool" "spots" "[I") 1 rfl
  have k_1 : ∀ w ∈ wsX10, w ∈ wsX1_pieceAt := fun _ h => List.mem_cons_of_mem _ (List.mem_append_right _ (h))
  refine wk_aload_n F dX1_pieceAt_0 rfl 0 rfl (pc' := 1) rfl ?_
  refine wk_iload_n F dX1_pieceAt_1 rfl 1 rfl (pc' := 2) rfl ?_
  refine wk_iload_n F dX1_pieceAt_2 rfl 2 rfl (pc' := 3) rfl ?_
  refine wk_same_p F (c1_hasPlace l D cI cP hs σ p1 p2) (cwV 2 F.hts gX1_pieceAt_X1_hasPlace rfl rfl rfl hdX1_hasPlace ⟨Nat.le_of_ble_eq_true rfl, Nat.le_of_ble_eq_true rfl⟩) 0 1 rfl rfl rfl rfl (Nat.le_of_ble_eq_true rfl) dX1_pieceAt_3 ⟨Nat.zero_le _, Nat.zero_le _⟩ (pc' := 6) rfl ?_
  refine wk_if_eq (tgt := 23) F dX1_pieceAt_6 (by decide) (pc' := 9) rfl (fun c1 => ?_) (fun c1 => ?_)
  · refine wk_iconst F dX1_pieceAt_23 ic_m1 (pc' := 24) rfl ?_
    exact hret _ _ _ dX1_pieceAt_24 rfl (Eq.symm (by rw [f1_pieceAt] <;> exact (st_pos c1 rfl)))
  · refine wk_aload_n F dX1_pieceAt_9 rfl 0 rfl (pc' := 10) rfl ?_
    refine wk_get (C := RX1) (T := TX1) (N := 14) F 0 rfl rfl k_1 6 (Nat.le_of_ble_eq_true rfl) w_1 rfl dX1_pieceAt_10 (pc' := 13) rfl ?_
    refine wk_iload_n F dX1_pieceAt_13 rfl 1 rfl (pc' := 14) rfl ?_
    refine wk_bipush F dX1_pieceAt_14 bp_40 (pc' := 16) rfl ?_
    refine wk_imul F dX1_pieceAt_16 (pc' := 17) rfl ?_
    refine wk_iload_n F dX1_pieceAt_17 rfl 2 rfl (pc' := 18) rfl ?_
    refine wk_iadd F dX1_pieceAt_18 (pc' := 19) rfl ?_
    refine wk_iald F 7 0 rfl rfl (ix_spot (hasPlace_v c1) (hasPlace_p c1)) dX1_pieceAt_19 (pc' := 20) rfl ?_
    refine wk_goto (tgt := 24) F dX1_pieceAt_20 (by decide) ?_
    exact hret _ _ _ dX1_pieceAt_24 rfl (Eq.symm (by rw [f1_pieceAt] <;> exact (st_neg c1 rfl)))
theorem pieceAt_has {σ τ : PS} {x y : Int32} (h : ¬ f1_isPiece τ (f1_pieceAt σ x y) = 0) : ¬ f1_hasPlace σ x y = 0 := by
  intro h2
  apply h
  unfold f1_pieceAt
  rw [if_pos h2]
  rfl
def f1_valueOf (σ : PS) (p1 : Int32) : Int32 := (if (f1_isPiece σ p1) = 0 then (0 : Int32) else σ 7 p1.toNatClampNeg)
set_option maxHeartbeats 4000000 in
set_option maxRecDepth 100000 in
theorem c1_valueOf (l : Launch) (D : va_G) (cI cP : ClassId) (hs : Nat → Nat) (σ : PS) (p1 : Int32) : CP l yX1_valueOf wsX1_valueOf ({ frames := 1, cells := 0, slots := 0, locals := 21 } : Room) D (cty cI cP) (wPool cI hs) σ [.ref (hs 0), .int p1] (f1_valueOf σ p1) := by
  refine CP.of (cc := cX1_valueOf) (maxL := 2) (rt := .int) (own := RX1) (lv0 := [(0, .ref (hs 0)), (1, .int p1)]) pnX1 rfl rfl (Nat.le_of_ble_eq_true rfl) rfl (fun p e s m args below meth c A Q F hret => ?_)
  have w_1 := F.at (x := Cond.fieldLink RX1 33 "ThinVolumes$Pool" "values" "[I") 1 rfl
  have k_1 : ∀ w ∈ wsX10, w ∈ wsX1_valueOf := fun _ h => List.mem_cons_of_mem _ (List.mem_append_right _ (h))
  refine wk_aload_n F dX1_valueOf_0 rfl 0 rfl (pc' := 1) rfl ?_
  refine wk_iload_n F dX1_valueOf_1 rfl 1 rfl (pc' := 2) rfl ?_
  refine wk_same_p F (c1_isPiece l D cI cP hs σ p1) (cwV 1 F.hts gX1_valueOf_X1_isPiece rfl rfl rfl hdX1_isPiece ⟨Nat.le_of_ble_eq_true rfl, Nat.le_of_ble_eq_true rfl⟩) 0 1 rfl rfl rfl rfl (Nat.le_of_ble_eq_true rfl) dX1_valueOf_2 ⟨Nat.zero_le _, Nat.zero_le _⟩ (pc' := 5) rfl ?_
  refine wk_if_eq (tgt := 17) F dX1_valueOf_5 (by decide) (pc' := 8) rfl (fun c1 => ?_) (fun c1 => ?_)
  · refine wk_iconst F dX1_valueOf_17 ic_0 (pc' := 18) rfl ?_
    exact hret _ _ _ dX1_valueOf_18 rfl (Eq.symm (by rw [f1_valueOf] <;> exact (st_pos c1 rfl)))
  · refine wk_aload_n F dX1_valueOf_8 rfl 0 rfl (pc' := 9) rfl ?_
    refine wk_get (C := RX1) (T := TX1) (N := 14) F 0 rfl rfl k_1 7 (Nat.le_of_ble_eq_true rfl) w_1 rfl dX1_valueOf_9 (pc' := 12) rfl ?_
    refine wk_iload_n F dX1_valueOf_12 rfl 1 rfl (pc' := 13) rfl ?_
    refine wk_iald F 8 0 rfl rfl (isPiece_in c1) dX1_valueOf_13 (pc' := 14) rfl ?_
    refine wk_goto (tgt := 18) F dX1_valueOf_14 (by decide) ?_
    exact hret _ _ _ dX1_valueOf_18 rfl (Eq.symm (by rw [f1_valueOf] <;> exact (st_neg c1 rfl)))
def f1_volumesThatLive_L4 (σ : PS) : Nat → Nat → Int32 → Int32
  | 0, i, x1 => x1
  | n + 1, i, x1 => (if (f1_lives σ (nI i)) = 0 then f1_volumesThatLive_L4 σ n (i + 1) x1 else f1_volumesThatLive_L4 σ n (i + 1) (x1 + 1))
def f1_volumesThatLive (σ : PS) : Int32 := (sq (f1_volumesThatLive_L4 σ 8 0 (0 : Int32)) (fun (y3 : Int32) => y3))
set_option maxHeartbeats 4000000 in
set_option maxRecDepth 100000 in
theorem c1_volumesThatLive (l : Launch) (D : va_G) (cI cP : ClassId) (hs : Nat → Nat) (σ : PS) : CP l yX1_volumesThatLive wsX1_volumesThatLive ({ frames := 1, cells := 0, slots := 0, locals := 21 } : Room) D (cty cI cP) (wPool cI hs) σ [.ref (hs 0)] (f1_volumesThatLive σ) := by
  refine CP.of (cc := cX1_volumesThatLive) (maxL := 3) (rt := .int) (own := RX1) (lv0 := [(0, .ref (hs 0))]) pnX1 rfl rfl (Nat.le_of_ble_eq_true rfl) rfl (fun p e s m args below meth c A Q F hret => ?_)
  have L4 : ∀ (n : Nat) (i : Nat) (x1 : Int32), i + n = 8 → (∀ (y1 : Int32), f1_volumesThatLive_L4 σ n i x1 = y1 → Wk p l e ({ frames := 1, cells := 0, slots := 0, locals := 21 } : Room) s m args below meth c 3 D A 0 0 Q (wPool cI hs σ) [(1, .int y1)] 27 []) → Wk p l e ({ frames := 1, cells := 0, slots := 0, locals := 21 } : Room) s m args below meth c 3 D A 0 0 Q (wPool cI hs σ) [(0, .ref (hs 0)), (1, .int x1), (2, .int (nI i))] 4 [] := by
    intro n
    induction n with
    | zero =>
      intro i x1 hi kx
      refine wk_iload_n F dX1_volumesThatLive_4 rfl 2 rfl (pc' := 5) rfl ?_
      refine wk_bipush F dX1_volumesThatLive_5 bp_8 (pc' := 7) rfl ?_
      refine wk_icmp_ge (tgt := 27) F dX1_volumesThatLive_7 (by decide) (pc' := 10) rfl (fun _ => ?_) (fun c => absurd ((nI_leI (a := 8) (b := i) (by omega) (by omega)).mpr (by omega)) c)
      refine wk_lv [1] rfl ?_
      exact kx x1 (by rw [f1_volumesThatLive_L4] <;> exact rfl)
    | succ n ih =>
      intro i x1 hi kx
      refine wk_iload_n F dX1_volumesThatLive_4 rfl 2 rfl (pc' := 5) rfl ?_
      refine wk_bipush F dX1_volumesThatLive_5 bp_8 (pc' := 7) rfl ?_
      refine wk_icmp_ge (tgt := 27) F dX1_volumesThatLive_7 (by decide) (pc' := 10) rfl (fun c => absurd ((nI_leI (a := 8) (b := i) (by omega) (by omega)).mp c) (by omega)) (fun _ => ?_)
      refine wk_aload_n F dX1_volumesThatLive_10 rfl 0 rfl (pc' := 11) rfl ?_
      refine wk_iload_n F dX1_volumesThatLive_11 rfl 2 rfl (pc' := 12) rfl ?_
      refine wk_same_p F (c1_lives l D cI cP hs σ (nI i)) (cwV 1 F.hts gX1_volumesThatLive_X1_lives rfl rfl rfl hdX1_lives ⟨Nat.le_of_ble_eq_true rfl, Nat.le_of_ble_eq_true rfl⟩) 0 1 rfl rfl rfl rfl (Nat.le_of_ble_eq_true rfl) dX1_volumesThatLive_12 ⟨Nat.zero_le _, Nat.zero_le _⟩ (pc' := 15) rfl ?_
      refine wk_if_eq (tgt := 21) F dX1_volumesThatLive_15 (by decide) (pc' := 18) rfl (fun c1 => ?_) (fun c1 => ?_)
      · refine wk_iinc (k := 2) (v := nI (i + 1)) (lv' := [(2, .int (nI (i + 1))), (0, .ref (hs 0)), (1, .int x1)]) F dX1_volumesThatLive_21 rfl (nI_inc i) (Nat.le_of_ble_eq_true rfl) rfl (pc' := 24) rfl ?_
        refine wk_goto (tgt := 4) F dX1_volumesThatLive_24 (by decide) ?_
        refine wk_lv [1, 2, 0] rfl ?_
        exact ih (i + 1) x1 (by omega) (fun y1_ h_ => kx y1_ (Eq.trans (by rw [f1_volumesThatLive_L4] <;> exact (st_pos c1 rfl)) h_))
      · refine wk_iinc (k := 1) (v := x1 + 1) (lv' := [(1, .int (x1 + 1)), (0, .ref (hs 0)), (2, .int (nI i))]) F dX1_volumesThatLive_18 rfl rfl (Nat.le_of_ble_eq_true rfl) rfl (pc' := 21) rfl ?_
        refine wk_iinc (k := 2) (v := nI (i + 1)) (lv' := [(2, .int (nI (i + 1))), (1, .int (x1 + 1)), (0, .ref (hs 0))]) F dX1_volumesThatLive_21 rfl (nI_inc i) (Nat.le_of_ble_eq_true rfl) rfl (pc' := 24) rfl ?_
        refine wk_goto (tgt := 4) F dX1_volumesThatLive_24 (by decide) ?_
        refine wk_lv [2, 1, 0] rfl ?_
        exact ih (i + 1) (x1 + 1) (by omega) (fun y1_ h_ => kx y1_ (Eq.trans (by rw [f1_volumesThatLive_L4] <;> exact (st_neg c1 rfl)) h_))
  refine wk_iconst F dX1_volumesThatLive_0 ic_0 (pc' := 1) rfl ?_
  refine wk_istore_n (lv' := [(1, .int (0 : Int32)), (0, .ref (hs 0))]) F dX1_volumesThatLive_1 rfl (Nat.le_of_ble_eq_true rfl) rfl (pc' := 2) rfl ?_
  refine wk_iconst F dX1_volumesThatLive_2 ic_0 (pc' := 3) rfl ?_
  refine wk_istore_n (lv' := [(2, .int (0 : Int32)), (1, .int (0 : Int32)), (0, .ref (hs 0))]) F dX1_volumesThatLive_3 rfl (Nat.le_of_ble_eq_true rfl) rfl (pc' := 4) rfl ?_
  refine wk_lv [2, 1, 0] rfl ?_
  refine L4 8 0 (0 : Int32) (by omega) (fun y3 h2 => ?_)
  refine wk_iload_n F dX1_volumesThatLive_27 rfl 0 rfl (pc' := 28) rfl ?_
  exact hret _ _ _ dX1_volumesThatLive_28 rfl (Eq.symm (by rw [f1_volumesThatLive] <;> exact (st_let h2 rfl)))
def f1_allSizes_L4 (σ : PS) : Nat → Nat → Int32 → Int32
  | 0, i, x1 => x1
  | n + 1, i, x1 => f1_allSizes_L4 σ n (i + 1) (x1 + (σ 0 i))
def f1_allSizes (σ : PS) : Int32 := (sq (f1_allSizes_L4 σ 8 0 (0 : Int32)) (fun (y2 : Int32) => y2))
set_option maxHeartbeats 4000000 in
set_option maxRecDepth 100000 in
theorem c1_allSizes (l : Launch) (D : va_G) (cI cP : ClassId) (hs : Nat → Nat) (σ : PS) : CP l yX1_allSizes wsX1_allSizes ({ frames := 0, cells := 0, slots := 0, locals := 0 } : Room) D (cty cI cP) (wPool cI hs) σ [.ref (hs 0)] (f1_allSizes σ) := by
  refine CP.of (cc := cX1_allSizes) (maxL := 3) (rt := .int) (own := RX1) (lv0 := [(0, .ref (hs 0))]) pnX1 rfl rfl (Nat.le_of_ble_eq_true rfl) rfl (fun p e s m args below meth c A Q F hret => ?_)
  have w_1 := F.at (x := Cond.fieldLink RX1 9 "ThinVolumes$Pool" "sizes" "[I") 1 rfl
  have k_1 : ∀ w ∈ wsX10, w ∈ wsX1_allSizes := fun _ h => List.mem_cons_of_mem _ (List.mem_append_right _ (h))
  have L4 : ∀ (n : Nat) (i : Nat) (x1 : Int32), i + n = 8 → (∀ (y1 : Int32), f1_allSizes_L4 σ n i x1 = y1 → Wk p l e ({ frames := 0, cells := 0, slots := 0, locals := 0 } : Room) s m args below meth c 3 D A 0 0 Q (wPool cI hs σ) [(1, .int y1)] 25 []) → Wk p l e ({ frames := 0, cells := 0, slots := 0, locals := 0 } : Room) s m args below meth c 3 D A 0 0 Q (wPool cI hs σ) [(0, .ref (hs 0)), (1, .int x1), (2, .int (nI i))] 4 [] := by
    intro n
    induction n with
    | zero =>
      intro i x1 hi kx
      refine wk_iload_n F dX1_allSizes_4 rfl 2 rfl (pc' := 5) rfl ?_
      refine wk_bipush F dX1_allSizes_5 bp_8 (pc' := 7) rfl ?_
      refine wk_icmp_ge (tgt := 25) F dX1_allSizes_7 (by decide) (pc' := 10) rfl (fun _ => ?_) (fun c => absurd ((nI_leI (a := 8) (b := i) (by omega) (by omega)).mpr (by omega)) c)
      refine wk_lv [1] rfl ?_
      exact kx x1 (by rw [f1_allSizes_L4] <;> exact rfl)
    | succ n ih =>
      intro i x1 hi kx
      refine wk_iload_n F dX1_allSizes_4 rfl 2 rfl (pc' := 5) rfl ?_
      refine wk_bipush F dX1_allSizes_5 bp_8 (pc' := 7) rfl ?_
      refine wk_icmp_ge (tgt := 25) F dX1_allSizes_7 (by decide) (pc' := 10) rfl (fun c => absurd ((nI_leI (a := 8) (b := i) (by omega) (by omega)).mp c) (by omega)) (fun _ => ?_)
      refine wk_iload_n F dX1_allSizes_10 rfl 1 rfl (pc' := 11) rfl ?_
      refine wk_aload_n F dX1_allSizes_11 rfl 0 rfl (pc' := 12) rfl ?_
      refine wk_get (C := RX1) (T := TX1) (N := 14) F 0 rfl rfl k_1 0 (Nat.le_of_ble_eq_true rfl) w_1 rfl dX1_allSizes_12 (pc' := 15) rfl ?_
      refine wk_iload_n F dX1_allSizes_15 rfl 2 rfl (pc' := 16) rfl ?_
      refine wk_iald_n (i := i) F 1 0 rfl rfl (by omega) (Nat.le_of_ble_eq_true rfl) dX1_allSizes_16 (pc' := 17) rfl ?_
      refine wk_iadd F dX1_allSizes_17 (pc' := 18) rfl ?_
      refine wk_istore_n (lv' := [(1, .int (x1 + (σ 0 i))), (0, .ref (hs 0)), (2, .int (nI i))]) F dX1_allSizes_18 rfl (Nat.le_of_ble_eq_true rfl) rfl (pc' := 19) rfl ?_
      refine wk_iinc (k := 2) (v := nI (i + 1)) (lv' := [(2, .int (nI (i + 1))), (1, .int (x1 + (σ 0 i))), (0, .ref (hs 0))]) F dX1_allSizes_19 rfl (nI_inc i) (Nat.le_of_ble_eq_true rfl) rfl (pc' := 22) rfl ?_
      refine wk_goto (tgt := 4) F dX1_allSizes_22 (by decide) ?_
      refine wk_lv [2, 1, 0] rfl ?_
      exact ih (i + 1) (x1 + (σ 0 i)) (by omega) (fun y1_ h_ => kx y1_ (Eq.trans (by rw [f1_allSizes_L4] <;> exact rfl) h_))
  refine wk_iconst F dX1_allSizes_0 ic_0 (pc' := 1) rfl ?_
  refine wk_istore_n (lv' := [(1, .int (0 : Int32)), (0, .ref (hs 0))]) F dX1_allSizes_1 rfl (Nat.le_of_ble_eq_true rfl) rfl (pc' := 2) rfl ?_
  refine wk_iconst F dX1_allSizes_2 ic_0 (pc' := 3) rfl ?_
  refine wk_istore_n (lv' := [(2, .int (0 : Int32)), (1, .int (0 : Int32)), (0, .ref (hs 0))]) F dX1_allSizes_3 rfl (Nat.le_of_ble_eq_true rfl) rfl (pc' := 4) rfl ?_
  refine wk_lv [2, 1, 0] rfl ?_
  refine L4 8 0 (0 : Int32) (by omega) (fun y2 h1 => ?_)
  refine wk_iload_n F dX1_allSizes_25 rfl 0 rfl (pc' := 26) rfl ?_
  exact hret _ _ _ dX1_allSizes_26 rfl (Eq.symm (by rw [f1_allSizes] <;> exact (st_let h1 rfl)))
def f1_allPromises_L4 (σ : PS) : Nat → Nat → Int32 → Int32
  | 0, i, x1 => x1
  | n + 1, i, x1 => f1_allPromises_L4 σ n (i + 1) (x1 + (σ 2 i))
def f1_allPromises (σ : PS) : Int32 := (sq (f1_allPromises_L4 σ 8 0 (0 : Int32)) (fun (y2 : Int32) => y2))
set_option maxHeartbeats 4000000 in
set_option maxRecDepth 100000 in
theorem c1_allPromises (l : Launch) (D : va_G) (cI cP : ClassId) (hs : Nat → Nat) (σ : PS) : CP l yX1_allPromises wsX1_allPromises ({ frames := 0, cells := 0, slots := 0, locals := 0 } : Room) D (cty cI cP) (wPool cI hs) σ [.ref (hs 0)] (f1_allPromises σ) := by
  refine CP.of (cc := cX1_allPromises) (maxL := 3) (rt := .int) (own := RX1) (lv0 := [(0, .ref (hs 0))]) pnX1 rfl rfl (Nat.le_of_ble_eq_true rfl) rfl (fun p e s m args below meth c A Q F hret => ?_)
  have w_1 := F.at (x := Cond.fieldLink RX1 18 "ThinVolumes$Pool" "promises" "[I") 1 rfl
  have k_1 : ∀ w ∈ wsX10, w ∈ wsX1_allPromises := fun _ h => List.mem_cons_of_mem _ (List.mem_append_right _ (h))
  have L4 : ∀ (n : Nat) (i : Nat) (x1 : Int32), i + n = 8 → (∀ (y1 : Int32), f1_allPromises_L4 σ n i x1 = y1 → Wk p l e ({ frames := 0, cells := 0, slots := 0, locals := 0 } : Room) s m args below meth c 3 D A 0 0 Q (wPool cI hs σ) [(1, .int y1)] 25 []) → Wk p l e ({ frames := 0, cells := 0, slots := 0, locals := 0 } : Room) s m args below meth c 3 D A 0 0 Q (wPool cI hs σ) [(0, .ref (hs 0)), (1, .int x1), (2, .int (nI i))] 4 [] := by
    intro n
    induction n with
    | zero =>
      intro i x1 hi kx
      refine wk_iload_n F dX1_allPromises_4 rfl 2 rfl (pc' := 5) rfl ?_
      refine wk_bipush F dX1_allPromises_5 bp_8 (pc' := 7) rfl ?_
      refine wk_icmp_ge (tgt := 25) F dX1_allPromises_7 (by decide) (pc' := 10) rfl (fun _ => ?_) (fun c => absurd ((nI_leI (a := 8) (b := i) (by omega) (by omega)).mpr (by omega)) c)
      refine wk_lv [1] rfl ?_
      exact kx x1 (by rw [f1_allPromises_L4] <;> exact rfl)
    | succ n ih =>
      intro i x1 hi kx
      refine wk_iload_n F dX1_allPromises_4 rfl 2 rfl (pc' := 5) rfl ?_
      refine wk_bipush F dX1_allPromises_5 bp_8 (pc' := 7) rfl ?_
      refine wk_icmp_ge (tgt := 25) F dX1_allPromises_7 (by decide) (pc' := 10) rfl (fun c => absurd ((nI_leI (a := 8) (b := i) (by omega) (by omega)).mp c) (by omega)) (fun _ => ?_)
      refine wk_iload_n F dX1_allPromises_10 rfl 1 rfl (pc' := 11) rfl ?_
      refine wk_aload_n F dX1_allPromises_11 rfl 0 rfl (pc' := 12) rfl ?_
      refine wk_get (C := RX1) (T := TX1) (N := 14) F 0 rfl rfl k_1 2 (Nat.le_of_ble_eq_true rfl) w_1 rfl dX1_allPromises_12 (pc' := 15) rfl ?_
      refine wk_iload_n F dX1_allPromises_15 rfl 2 rfl (pc' := 16) rfl ?_
      refine wk_iald_n (i := i) F 3 0 rfl rfl (by omega) (Nat.le_of_ble_eq_true rfl) dX1_allPromises_16 (pc' := 17) rfl ?_
      refine wk_iadd F dX1_allPromises_17 (pc' := 18) rfl ?_
      refine wk_istore_n (lv' := [(1, .int (x1 + (σ 2 i))), (0, .ref (hs 0)), (2, .int (nI i))]) F dX1_allPromises_18 rfl (Nat.le_of_ble_eq_true rfl) rfl (pc' := 19) rfl ?_
      refine wk_iinc (k := 2) (v := nI (i + 1)) (lv' := [(2, .int (nI (i + 1))), (1, .int (x1 + (σ 2 i))), (0, .ref (hs 0))]) F dX1_allPromises_19 rfl (nI_inc i) (Nat.le_of_ble_eq_true rfl) rfl (pc' := 22) rfl ?_
      refine wk_goto (tgt := 4) F dX1_allPromises_22 (by decide) ?_
      refine wk_lv [2, 1, 0] rfl ?_
      exact ih (i + 1) (x1 + (σ 2 i)) (by omega) (fun y1_ h_ => kx y1_ (Eq.trans (by rw [f1_allPromises_L4] <;> exact rfl) h_))
  refine wk_iconst F dX1_allPromises_0 ic_0 (pc' := 1) rfl ?_
  refine wk_istore_n (lv' := [(1, .int (0 : Int32)), (0, .ref (hs 0))]) F dX1_allPromises_1 rfl (Nat.le_of_ble_eq_true rfl) rfl (pc' := 2) rfl ?_
  refine wk_iconst F dX1_allPromises_2 ic_0 (pc' := 3) rfl ?_
  refine wk_istore_n (lv' := [(2, .int (0 : Int32)), (1, .int (0 : Int32)), (0, .ref (hs 0))]) F dX1_allPromises_3 rfl (Nat.le_of_ble_eq_true rfl) rfl (pc' := 4) rfl ?_
  refine wk_lv [2, 1, 0] rfl ?_
  refine L4 8 0 (0 : Int32) (by omega) (fun y2 h1 => ?_)
  refine wk_iload_n F dX1_allPromises_25 rfl 0 rfl (pc' := 26) rfl ?_
  exact hret _ _ _ dX1_allPromises_26 rfl (Eq.symm (by rw [f1_allPromises] <;> exact (st_let h1 rfl)))
def f1_allOwners_L4 (σ : PS) : Nat → Nat → Int32 → Int32
  | 0, i, x1 => x1
  | n + 1, i, x1 => f1_allOwners_L4 σ n (i + 1) (x1 + (σ 8 i))
def f1_allOwners (σ : PS) : Int32 := (sq (f1_allOwners_L4 σ 30 0 (0 : Int32)) (fun (y2 : Int32) => y2))
set_option maxHeartbeats 4000000 in
set_option maxRecDepth 100000 in
theorem c1_allOwners (l : Launch) (D : va_G) (cI cP : ClassId) (hs : Nat → Nat) (σ : PS) : CP l yX1_allOwners wsX1_allOwners ({ frames := 0, cells := 0, slots := 0, locals := 0 } : Room) D (cty cI cP) (wPool cI hs) σ [.ref (hs 0)] (f1_allOwners σ) := by
  refine CP.of (cc := cX1_allOwners) (maxL := 3) (rt := .int) (own := RX1) (lv0 := [(0, .ref (hs 0))]) pnX1 rfl rfl (Nat.le_of_ble_eq_true rfl) rfl (fun p e s m args below meth c A Q F hret => ?_)
  have w_1 := F.at (x := Cond.fieldLink RX1 36 "ThinVolumes$Pool" "owners" "[I") 1 rfl
  have k_1 : ∀ w ∈ wsX10, w ∈ wsX1_allOwners := fun _ h => List.mem_cons_of_mem _ (List.mem_append_right _ (h))
  have L4 : ∀ (n : Nat) (i : Nat) (x1 : Int32), i + n = 30 → (∀ (y1 : Int32), f1_allOwners_L4 σ n i x1 = y1 → Wk p l e ({ frames := 0, cells := 0, slots := 0, locals := 0 } : Room) s m args below meth c 3 D A 0 0 Q (wPool cI hs σ) [(1, .int y1)] 25 []) → Wk p l e ({ frames := 0, cells := 0, slots := 0, locals := 0 } : Room) s m args below meth c 3 D A 0 0 Q (wPool cI hs σ) [(0, .ref (hs 0)), (1, .int x1), (2, .int (nI i))] 4 [] := by
    intro n
    induction n with
    | zero =>
      intro i x1 hi kx
      refine wk_iload_n F dX1_allOwners_4 rfl 2 rfl (pc' := 5) rfl ?_
      refine wk_bipush F dX1_allOwners_5 bp_30 (pc' := 7) rfl ?_
      refine wk_icmp_ge (tgt := 25) F dX1_allOwners_7 (by decide) (pc' := 10) rfl (fun _ => ?_) (fun c => absurd ((nI_leI (a := 30) (b := i) (by omega) (by omega)).mpr (by omega)) c)
      refine wk_lv [1] rfl ?_
      exact kx x1 (by rw [f1_allOwners_L4] <;> exact rfl)
    | succ n ih =>
      intro i x1 hi kx
      refine wk_iload_n F dX1_allOwners_4 rfl 2 rfl (pc' := 5) rfl ?_
      refine wk_bipush F dX1_allOwners_5 bp_30 (pc' := 7) rfl ?_
      refine wk_icmp_ge (tgt := 25) F dX1_allOwners_7 (by decide) (pc' := 10) rfl (fun c => absurd ((nI_leI (a := 30) (b := i) (by omega) (by omega)).mp c) (by omega)) (fun _ => ?_)
      refine wk_iload_n F dX1_allOwners_10 rfl 1 rfl (pc' := 11) rfl ?_
      refine wk_aload_n F dX1_allOwners_11 rfl 0 rfl (pc' := 12) rfl ?_
      refine wk_get (C := RX1) (T := TX1) (N := 14) F 0 rfl rfl k_1 8 (Nat.le_of_ble_eq_true rfl) w_1 rfl dX1_allOwners_12 (pc' := 15) rfl ?_
      refine wk_iload_n F dX1_allOwners_15 rfl 2 rfl (pc' := 16) rfl ?_
      refine wk_iald_n (i := i) F 9 0 rfl rfl (by omega) (Nat.le_of_ble_eq_true rfl) dX1_allOwners_16 (pc' := 17) rfl ?_
      refine wk_iadd F dX1_allOwners_17 (pc' := 18) rfl ?_
      refine wk_istore_n (lv' := [(1, .int (x1 + (σ 8 i))), (0, .ref (hs 0)), (2, .int (nI i))]) F dX1_allOwners_18 rfl (Nat.le_of_ble_eq_true rfl) rfl (pc' := 19) rfl ?_
      refine wk_iinc (k := 2) (v := nI (i + 1)) (lv' := [(2, .int (nI (i + 1))), (1, .int (x1 + (σ 8 i))), (0, .ref (hs 0))]) F dX1_allOwners_19 rfl (nI_inc i) (Nat.le_of_ble_eq_true rfl) rfl (pc' := 22) rfl ?_
      refine wk_goto (tgt := 4) F dX1_allOwners_22 (by decide) ?_
      refine wk_lv [2, 1, 0] rfl ?_
      exact ih (i + 1) (x1 + (σ 8 i)) (by omega) (fun y1_ h_ => kx y1_ (Eq.trans (by rw [f1_allOwners_L4] <;> exact rfl) h_))
  refine wk_iconst F dX1_allOwners_0 ic_0 (pc' := 1) rfl ?_
  refine wk_istore_n (lv' := [(1, .int (0 : Int32)), (0, .ref (hs 0))]) F dX1_allOwners_1 rfl (Nat.le_of_ble_eq_true rfl) rfl (pc' := 2) rfl ?_
  refine wk_iconst F dX1_allOwners_2 ic_0 (pc' := 3) rfl ?_
  refine wk_istore_n (lv' := [(2, .int (0 : Int32)), (1, .int (0 : Int32)), (0, .ref (hs 0))]) F dX1_allOwners_3 rfl (Nat.le_of_ble_eq_true rfl) rfl (pc' := 4) rfl ?_
  refine wk_lv [2, 1, 0] rfl ?_
  refine L4 30 0 (0 : Int32) (by omega) (fun y2 h1 => ?_)
  refine wk_iload_n F dX1_allOwners_25 rfl 0 rfl (pc' := 26) rfl ?_
  exact hret _ _ _ dX1_allOwners_26 rfl (Eq.symm (by rw [f1_allOwners] <;> exact (st_let h1 rfl)))
def f1_freePieces_L4 (σ : PS) : Nat → Nat → Int32 → Int32
  | 0, i, x1 => x1
  | n + 1, i, x1 => (if (σ 8 i) = 0 then f1_freePieces_L4 σ n (i + 1) (x1 + 1) else f1_freePieces_L4 σ n (i + 1) x1)
def f1_freePieces (σ : PS) : Int32 := (sq (f1_freePieces_L4 σ 30 0 (0 : Int32)) (fun (y3 : Int32) => y3))
set_option maxHeartbeats 4000000 in
set_option maxRecDepth 100000 in
theorem c1_freePieces (l : Launch) (D : va_G) (cI cP : ClassId) (hs : Nat → Nat) (σ : PS) : CP l yX1_freePieces wsX1_freePieces ({ frames := 0, cells := 0, slots := 0, locals := 0 } : Room) D (cty cI cP) (wPool cI hs) σ [.ref (hs 0)] (f1_freePieces σ) := by
  refine CP.of (cc := cX1_freePieces) (maxL := 3) (rt := .int) (own := RX1) (lv0 := [(0, .ref (hs 0))]) pnX1 rfl rfl (Nat.le_of_ble_eq_true rfl) rfl (fun p e s m args below meth c A Q F hret => ?_)
  have w_1 := F.at (x := Cond.fieldLink RX1 36 "ThinVolumes$Pool" "owners" "[I") 1 rfl
  have k_1 : ∀ w ∈ wsX10, w ∈ wsX1_freePieces := fun _ h => List.mem_cons_of_mem _ (List.mem_append_right _ (h))
  have L4 : ∀ (n : Nat) (i : Nat) (x1 : Int32), i + n = 30 → (∀ (y1 : Int32), f1_freePieces_L4 σ n i x1 = y1 → Wk p l e ({ frames := 0, cells := 0, slots := 0, locals := 0 } : Room) s m args below meth c 3 D A 0 0 Q (wPool cI hs σ) [(1, .int y1)] 28 []) → Wk p l e ({ frames := 0, cells := 0, slots := 0, locals := 0 } : Room) s m args below meth c 3 D A 0 0 Q (wPool cI hs σ) [(0, .ref (hs 0)), (1, .int x1), (2, .int (nI i))] 4 [] := by
    intro n
    induction n with
    | zero =>
      intro i x1 hi kx
      refine wk_iload_n F dX1_freePieces_4 rfl 2 rfl (pc' := 5) rfl ?_
      refine wk_bipush F dX1_freePieces_5 bp_30 (pc' := 7) rfl ?_
      refine wk_icmp_ge (tgt := 28) F dX1_freePieces_7 (by decide) (pc' := 10) rfl (fun _ => ?_) (fun c => absurd ((nI_leI (a := 30) (b := i) (by omega) (by omega)).mpr (by omega)) c)
      refine wk_lv [1] rfl ?_
      exact kx x1 (by rw [f1_freePieces_L4] <;> exact rfl)
    | succ n ih =>
      intro i x1 hi kx
      refine wk_iload_n F dX1_freePieces_4 rfl 2 rfl (pc' := 5) rfl ?_
      refine wk_bipush F dX1_freePieces_5 bp_30 (pc' := 7) rfl ?_
      refine wk_icmp_ge (tgt := 28) F dX1_freePieces_7 (by decide) (pc' := 10) rfl (fun c => absurd ((nI_leI (a := 30) (b := i) (by omega) (by omega)).mp c) (by omega)) (fun _ => ?_)
      refine wk_aload_n F dX1_freePieces_10 rfl 0 rfl (pc' := 11) rfl ?_
      refine wk_get (C := RX1) (T := TX1) (N := 14) F 0 rfl rfl k_1 8 (Nat.le_of_ble_eq_true rfl) w_1 rfl dX1_freePieces_11 (pc' := 14) rfl ?_
      refine wk_iload_n F dX1_freePieces_14 rfl 2 rfl (pc' := 15) rfl ?_
      refine wk_iald_n (i := i) F 9 0 rfl rfl (by omega) (Nat.le_of_ble_eq_true rfl) dX1_freePieces_15 (pc' := 16) rfl ?_
      refine wk_if_ne (tgt := 22) F dX1_freePieces_16 (by decide) (pc' := 19) rfl (fun c1 => ?_) (fun c1 => ?_)
      · refine wk_iinc (k := 2) (v := nI (i + 1)) (lv' := [(2, .int (nI (i + 1))), (0, .ref (hs 0)), (1, .int x1)]) F dX1_freePieces_22 rfl (nI_inc i) (Nat.le_of_ble_eq_true rfl) rfl (pc' := 25) rfl ?_
        refine wk_goto (tgt := 4) F dX1_freePieces_25 (by decide) ?_
        refine wk_lv [1, 2, 0] rfl ?_
        exact ih (i + 1) x1 (by omega) (fun y1_ h_ => kx y1_ (Eq.trans (by rw [f1_freePieces_L4] <;> exact (st_neg c1 rfl)) h_))
      · refine wk_iinc (k := 1) (v := x1 + 1) (lv' := [(1, .int (x1 + 1)), (0, .ref (hs 0)), (2, .int (nI i))]) F dX1_freePieces_19 rfl rfl (Nat.le_of_ble_eq_true rfl) rfl (pc' := 22) rfl ?_
        refine wk_iinc (k := 2) (v := nI (i + 1)) (lv' := [(2, .int (nI (i + 1))), (1, .int (x1 + 1)), (0, .ref (hs 0))]) F dX1_freePieces_22 rfl (nI_inc i) (Nat.le_of_ble_eq_true rfl) rfl (pc' := 25) rfl ?_
        refine wk_goto (tgt := 4) F dX1_freePieces_25 (by decide) ?_
        refine wk_lv [2, 1, 0] rfl ?_
        exact ih (i + 1) (x1 + 1) (by omega) (fun y1_ h_ => kx y1_ (Eq.trans (by rw [f1_freePieces_L4] <;> exact (st_pos c1 rfl)) h_))
  refine wk_iconst F dX1_freePieces_0 ic_0 (pc' := 1) rfl ?_
  refine wk_istore_n (lv' := [(1, .int (0 : Int32)), (0, .ref (hs 0))]) F dX1_freePieces_1 rfl (Nat.le_of_ble_eq_true rfl) rfl (pc' := 2) rfl ?_
  refine wk_iconst F dX1_freePieces_2 ic_0 (pc' := 3) rfl ?_
  refine wk_istore_n (lv' := [(2, .int (0 : Int32)), (1, .int (0 : Int32)), (0, .ref (hs 0))]) F dX1_freePieces_3 rfl (Nat.le_of_ble_eq_true rfl) rfl (pc' := 4) rfl ?_
  refine wk_lv [2, 1, 0] rfl ?_
  refine L4 30 0 (0 : Int32) (by omega) (fun y3 h2 => ?_)
  refine wk_iload_n F dX1_freePieces_28 rfl 0 rfl (pc' := 29) rfl ?_
  exact hret _ _ _ dX1_freePieces_29 rfl (Eq.symm (by rw [f1_freePieces] <;> exact (st_let h2 rfl)))
def f1_sharedPieces_L4 (σ : PS) : Nat → Nat → Int32 → Int32
  | 0, i, x1 => x1
  | n + 1, i, x1 => (if (σ 8 i) ≤ (1 : Int32) then f1_sharedPieces_L4 σ n (i + 1) x1 else f1_sharedPieces_L4 σ n (i + 1) (x1 + 1))
def f1_sharedPieces (σ : PS) : Int32 := (sq (f1_sharedPieces_L4 σ 30 0 (0 : Int32)) (fun (y3 : Int32) => y3))
set_option maxHeartbeats 4000000 in
set_option maxRecDepth 100000 in
theorem c1_sharedPieces (l : Launch) (D : va_G) (cI cP : ClassId) (hs : Nat → Nat) (σ : PS) : CP l yX1_sharedPieces wsX1_sharedPieces ({ frames := 0, cells := 0, slots := 0, locals := 0 } : Room) D (cty cI cP) (wPool cI hs) σ [.ref (hs 0)] (f1_sharedPieces σ) := by
  refine CP.of (cc := cX1_sharedPieces) (maxL := 3) (rt := .int) (own := RX1) (lv0 := [(0, .ref (hs 0))]) pnX1 rfl rfl (Nat.le_of_ble_eq_true rfl) rfl (fun p e s m args below meth c A Q F hret => ?_)
  have w_1 := F.at (x := Cond.fieldLink RX1 36 "ThinVolumes$Pool" "owners" "[I") 1 rfl
  have k_1 : ∀ w ∈ wsX10, w ∈ wsX1_sharedPieces := fun _ h => List.mem_cons_of_mem _ (List.mem_append_right _ (h))
  have L4 : ∀ (n : Nat) (i : Nat) (x1 : Int32), i + n = 30 → (∀ (y1 : Int32), f1_sharedPieces_L4 σ n i x1 = y1 → Wk p l e ({ frames := 0, cells := 0, slots := 0, locals := 0 } : Room) s m args below meth c 3 D A 0 0 Q (wPool cI hs σ) [(1, .int y1)] 29 []) → Wk p l e ({ frames := 0, cells := 0, slots := 0, locals := 0 } : Room) s m args below meth c 3 D A 0 0 Q (wPool cI hs σ) [(0, .ref (hs 0)), (1, .int x1), (2, .int (nI i))] 4 [] := by
    intro n
    induction n with
    | zero =>
      intro i x1 hi kx
      refine wk_iload_n F dX1_sharedPieces_4 rfl 2 rfl (pc' := 5) rfl ?_
      refine wk_bipush F dX1_sharedPieces_5 bp_30 (pc' := 7) rfl ?_
      refine wk_icmp_ge (tgt := 29) F dX1_sharedPieces_7 (by decide) (pc' := 10) rfl (fun _ => ?_) (fun c => absurd ((nI_leI (a := 30) (b := i) (by omega) (by omega)).mpr (by omega)) c)
      refine wk_lv [1] rfl ?_
      exact kx x1 (by rw [f1_sharedPieces_L4] <;> exact rfl)
    | succ n ih =>
      intro i x1 hi kx
      refine wk_iload_n F dX1_sharedPieces_4 rfl 2 rfl (pc' := 5) rfl ?_
      refine wk_bipush F dX1_sharedPieces_5 bp_30 (pc' := 7) rfl ?_
      refine wk_icmp_ge (tgt := 29) F dX1_sharedPieces_7 (by decide) (pc' := 10) rfl (fun c => absurd ((nI_leI (a := 30) (b := i) (by omega) (by omega)).mp c) (by omega)) (fun _ => ?_)
      refine wk_aload_n F dX1_sharedPieces_10 rfl 0 rfl (pc' := 11) rfl ?_
      refine wk_get (C := RX1) (T := TX1) (N := 14) F 0 rfl rfl k_1 8 (Nat.le_of_ble_eq_true rfl) w_1 rfl dX1_sharedPieces_11 (pc' := 14) rfl ?_
      refine wk_iload_n F dX1_sharedPieces_14 rfl 2 rfl (pc' := 15) rfl ?_
      refine wk_iald_n (i := i) F 9 0 rfl rfl (by omega) (Nat.le_of_ble_eq_true rfl) dX1_sharedPieces_15 (pc' := 16) rfl ?_
      refine wk_iconst F dX1_sharedPieces_16 ic_1 (pc' := 17) rfl ?_
      refine wk_icmp_le (tgt := 23) F dX1_sharedPieces_17 (by decide) (pc' := 20) rfl (fun c1 => ?_) (fun c1 => ?_)
      · refine wk_iinc (k := 2) (v := nI (i + 1)) (lv' := [(2, .int (nI (i + 1))), (0, .ref (hs 0)), (1, .int x1)]) F dX1_sharedPieces_23 rfl (nI_inc i) (Nat.le_of_ble_eq_true rfl) rfl (pc' := 26) rfl ?_
        refine wk_goto (tgt := 4) F dX1_sharedPieces_26 (by decide) ?_
        refine wk_lv [1, 2, 0] rfl ?_
        exact ih (i + 1) x1 (by omega) (fun y1_ h_ => kx y1_ (Eq.trans (by rw [f1_sharedPieces_L4] <;> exact (st_pos c1 rfl)) h_))
      · refine wk_iinc (k := 1) (v := x1 + 1) (lv' := [(1, .int (x1 + 1)), (0, .ref (hs 0)), (2, .int (nI i))]) F dX1_sharedPieces_20 rfl rfl (Nat.le_of_ble_eq_true rfl) rfl (pc' := 23) rfl ?_
        refine wk_iinc (k := 2) (v := nI (i + 1)) (lv' := [(2, .int (nI (i + 1))), (1, .int (x1 + 1)), (0, .ref (hs 0))]) F dX1_sharedPieces_23 rfl (nI_inc i) (Nat.le_of_ble_eq_true rfl) rfl (pc' := 26) rfl ?_
        refine wk_goto (tgt := 4) F dX1_sharedPieces_26 (by decide) ?_
        refine wk_lv [2, 1, 0] rfl ?_
        exact ih (i + 1) (x1 + 1) (by omega) (fun y1_ h_ => kx y1_ (Eq.trans (by rw [f1_sharedPieces_L4] <;> exact (st_neg c1 rfl)) h_))
  refine wk_iconst F dX1_sharedPieces_0 ic_0 (pc' := 1) rfl ?_
  refine wk_istore_n (lv' := [(1, .int (0 : Int32)), (0, .ref (hs 0))]) F dX1_sharedPieces_1 rfl (Nat.le_of_ble_eq_true rfl) rfl (pc' := 2) rfl ?_
  refine wk_iconst F dX1_sharedPieces_2 ic_0 (pc' := 3) rfl ?_
  refine wk_istore_n (lv' := [(2, .int (0 : Int32)), (1, .int (0 : Int32)), (0, .ref (hs 0))]) F dX1_sharedPieces_3 rfl (Nat.le_of_ble_eq_true rfl) rfl (pc' := 4) rfl ?_
  refine wk_lv [2, 1, 0] rfl ?_
  refine L4 30 0 (0 : Int32) (by omega) (fun y3 h2 => ?_)
  refine wk_iload_n F dX1_sharedPieces_29 rfl 0 rfl (pc' := 30) rfl ?_
  exact hret _ _ _ dX1_sharedPieces_30 rfl (Eq.symm (by rw [f1_sharedPieces] <;> exact (st_let h2 rfl)))
def f1_placesWithPieces_L4 (σ : PS) (p1 : Int32) : Nat → Nat → Int32 → Int32
  | 0, i, x2 => x2
  | n + 1, i, x2 => (if (f1_pieceAt σ p1 (nI i)) = (-1 : Int32) then f1_placesWithPieces_L4 σ p1 n (i + 1) x2 else f1_placesWithPieces_L4 σ p1 n (i + 1) (x2 + 1))
def f1_placesWithPieces (σ : PS) (p1 : Int32) : Int32 := (sq (f1_placesWithPieces_L4 σ p1 40 0 (0 : Int32)) (fun (y3 : Int32) => y3))
set_option maxHeartbeats 4000000 in
set_option maxRecDepth 100000 in
theorem c1_placesWithPieces (l : Launch) (D : va_G) (cI cP : ClassId) (hs : Nat → Nat) (σ : PS) (p1 : Int32) : CP l yX1_placesWithPieces wsX1_placesWithPieces ({ frames := 3, cells := 0, slots := 0, locals := 65 } : Room) D (cty cI cP) (wPool cI hs) σ [.ref (hs 0), .int p1] (f1_placesWithPieces σ p1) := by
  refine CP.of (cc := cX1_placesWithPieces) (maxL := 4) (rt := .int) (own := RX1) (lv0 := [(0, .ref (hs 0)), (1, .int p1)]) pnX1 rfl rfl (Nat.le_of_ble_eq_true rfl) rfl (fun p e s m args below meth c A Q F hret => ?_)
  have L4 : ∀ (n : Nat) (i : Nat) (x2 : Int32), i + n = 40 → (∀ (y2 : Int32), f1_placesWithPieces_L4 σ p1 n i x2 = y2 → Wk p l e ({ frames := 3, cells := 0, slots := 0, locals := 65 } : Room) s m args below meth c 4 D A 0 0 Q (wPool cI hs σ) [(2, .int y2)] 29 []) → Wk p l e ({ frames := 3, cells := 0, slots := 0, locals := 65 } : Room) s m args below meth c 4 D A 0 0 Q (wPool cI hs σ) [(0, .ref (hs 0)), (1, .int p1), (2, .int x2), (3, .int (nI i))] 4 [] := by
    intro n
    induction n with
    | zero =>
      intro i x2 hi kx
      refine wk_iload_n F dX1_placesWithPieces_4 rfl 3 rfl (pc' := 5) rfl ?_
      refine wk_bipush F dX1_placesWithPieces_5 bp_40 (pc' := 7) rfl ?_
      refine wk_icmp_ge (tgt := 29) F dX1_placesWithPieces_7 (by decide) (pc' := 10) rfl (fun _ => ?_) (fun c => absurd ((nI_leI (a := 40) (b := i) (by omega) (by omega)).mpr (by omega)) c)
      refine wk_lv [2] rfl ?_
      exact kx x2 (by rw [f1_placesWithPieces_L4] <;> exact rfl)
    | succ n ih =>
      intro i x2 hi kx
      refine wk_iload_n F dX1_placesWithPieces_4 rfl 3 rfl (pc' := 5) rfl ?_
      refine wk_bipush F dX1_placesWithPieces_5 bp_40 (pc' := 7) rfl ?_
      refine wk_icmp_ge (tgt := 29) F dX1_placesWithPieces_7 (by decide) (pc' := 10) rfl (fun c => absurd ((nI_leI (a := 40) (b := i) (by omega) (by omega)).mp c) (by omega)) (fun _ => ?_)
      refine wk_aload_n F dX1_placesWithPieces_10 rfl 0 rfl (pc' := 11) rfl ?_
      refine wk_iload_n F dX1_placesWithPieces_11 rfl 1 rfl (pc' := 12) rfl ?_
      refine wk_iload_n F dX1_placesWithPieces_12 rfl 3 rfl (pc' := 13) rfl ?_
      refine wk_same_p F (c1_pieceAt l D cI cP hs σ p1 (nI i)) (cwV 2 F.hts gX1_placesWithPieces_X1_pieceAt rfl rfl rfl hdX1_pieceAt ⟨Nat.le_of_ble_eq_true rfl, Nat.le_of_ble_eq_true rfl⟩) 0 1 rfl rfl rfl rfl (Nat.le_of_ble_eq_true rfl) dX1_placesWithPieces_13 ⟨Nat.zero_le _, Nat.zero_le _⟩ (pc' := 16) rfl ?_
      refine wk_iconst F dX1_placesWithPieces_16 ic_m1 (pc' := 17) rfl ?_
      refine wk_icmp_eq (tgt := 23) F dX1_placesWithPieces_17 (by decide) (pc' := 20) rfl (fun c1 => ?_) (fun c1 => ?_)
      · refine wk_iinc (k := 3) (v := nI (i + 1)) (lv' := [(3, .int (nI (i + 1))), (0, .ref (hs 0)), (1, .int p1), (2, .int x2)]) F dX1_placesWithPieces_23 rfl (nI_inc i) (Nat.le_of_ble_eq_true rfl) rfl (pc' := 26) rfl ?_
        refine wk_goto (tgt := 4) F dX1_placesWithPieces_26 (by decide) ?_
        refine wk_lv [1, 2, 3, 0] rfl ?_
        exact ih (i + 1) x2 (by omega) (fun y2_ h_ => kx y2_ (Eq.trans (by rw [f1_placesWithPieces_L4] <;> exact (st_pos c1 rfl)) h_))
      · refine wk_iinc (k := 2) (v := x2 + 1) (lv' := [(2, .int (x2 + 1)), (0, .ref (hs 0)), (1, .int p1), (3, .int (nI i))]) F dX1_placesWithPieces_20 rfl rfl (Nat.le_of_ble_eq_true rfl) rfl (pc' := 23) rfl ?_
        refine wk_iinc (k := 3) (v := nI (i + 1)) (lv' := [(3, .int (nI (i + 1))), (2, .int (x2 + 1)), (0, .ref (hs 0)), (1, .int p1)]) F dX1_placesWithPieces_23 rfl (nI_inc i) (Nat.le_of_ble_eq_true rfl) rfl (pc' := 26) rfl ?_
        refine wk_goto (tgt := 4) F dX1_placesWithPieces_26 (by decide) ?_
        refine wk_lv [2, 3, 1, 0] rfl ?_
        exact ih (i + 1) (x2 + 1) (by omega) (fun y2_ h_ => kx y2_ (Eq.trans (by rw [f1_placesWithPieces_L4] <;> exact (st_neg c1 rfl)) h_))
  refine wk_iconst F dX1_placesWithPieces_0 ic_0 (pc' := 1) rfl ?_
  refine wk_istore_n (lv' := [(2, .int (0 : Int32)), (0, .ref (hs 0)), (1, .int p1)]) F dX1_placesWithPieces_1 rfl (Nat.le_of_ble_eq_true rfl) rfl (pc' := 2) rfl ?_
  refine wk_iconst F dX1_placesWithPieces_2 ic_0 (pc' := 3) rfl ?_
  refine wk_istore_n (lv' := [(3, .int (0 : Int32)), (2, .int (0 : Int32)), (0, .ref (hs 0)), (1, .int p1)]) F dX1_placesWithPieces_3 rfl (Nat.le_of_ble_eq_true rfl) rfl (pc' := 4) rfl ?_
  refine wk_lv [2, 3, 1, 0] rfl ?_
  refine L4 40 0 (0 : Int32) (by omega) (fun y3 h2 => ?_)
  refine wk_iload_n F dX1_placesWithPieces_29 rfl 0 rfl (pc' := 30) rfl ?_
  exact hret _ _ _ dX1_placesWithPieces_30 rfl (Eq.symm (by rw [f1_placesWithPieces] <;> exact (st_let h2 rfl)))
def f1_volumesThatOwn_L13 (σ : PS) (p1 : Int32) (j3 : Nat) : Nat → Nat → Int32 → Int32
  | 0, i, x2 => x2
  | n + 1, i, x2 => (if (f1_pieceAt σ (nI j3) (nI i)) = p1 then f1_volumesThatOwn_L13 σ p1 j3 n (i + 1) (x2 ||| ((1 : Int32) <<< ((nI j3) &&& 31))) else f1_volumesThatOwn_L13 σ p1 j3 n (i + 1) x2)
def f1_volumesThatOwn_L4 (σ : PS) (p1 : Int32) : Nat → Nat → Int32 → Int32
  | 0, i, x2 => x2
  | n + 1, i, x2 => (sq (f1_volumesThatOwn_L13 σ p1 i 40 0 x2) (fun (y3 : Int32) => f1_volumesThatOwn_L4 σ p1 n (i + 1) y3))
def f1_volumesThatOwn (σ : PS) (p1 : Int32) : Int32 := (sq (f1_volumesThatOwn_L4 σ p1 8 0 (0 : Int32)) (fun (y5 : Int32) => y5))
set_option maxHeartbeats 4000000 in
set_option maxRecDepth 100000 in
theorem c1_volumesThatOwn (l : Launch) (D : va_G) (cI cP : ClassId) (hs : Nat → Nat) (σ : PS) (p1 : Int32) : CP l yX1_volumesThatOwn wsX1_volumesThatOwn ({ frames := 3, cells := 0, slots := 0, locals := 65 } : Room) D (cty cI cP) (wPool cI hs) σ [.ref (hs 0), .int p1] (f1_volumesThatOwn σ p1) := by
  refine CP.of (cc := cX1_volumesThatOwn) (maxL := 5) (rt := .int) (own := RX1) (lv0 := [(0, .ref (hs 0)), (1, .int p1)]) pnX1 rfl rfl (Nat.le_of_ble_eq_true rfl) rfl (fun p e s m args below meth c A Q F hret => ?_)
  have L13 : ∀ (j3 : Nat) (hj3 : j3 < 8) (n : Nat) (i : Nat) (x2 : Int32), i + n = 40 → (∀ (y2 : Int32), f1_volumesThatOwn_L13 σ p1 j3 n i x2 = y2 → Wk p l e ({ frames := 3, cells := 0, slots := 0, locals := 65 } : Room) s m args below meth c 5 D A 0 0 Q (wPool cI hs σ) [(0, .ref (hs 0)), (1, .int p1), (2, .int y2), (3, .int (nI j3))] 43 []) → Wk p l e ({ frames := 3, cells := 0, slots := 0, locals := 65 } : Room) s m args below meth c 5 D A 0 0 Q (wPool cI hs σ) [(0, .ref (hs 0)), (1, .int p1), (2, .int x2), (3, .int (nI j3)), (4, .int (nI i))] 13 [] := by
    intro j3 hj3 n
    induction n with
    | zero =>
      intro i x2 hi kx
      refine wk_iload F dX1_volumesThatOwn_13 4 rfl (pc' := 15) rfl ?_
      refine wk_bipush F dX1_volumesThatOwn_15 bp_40 (pc' := 17) rfl ?_
      refine wk_icmp_ge (tgt := 43) F dX1_volumesThatOwn_17 (by decide) (pc' := 20) rfl (fun _ => ?_) (fun c => absurd ((nI_leI (a := 40) (b := i) (by omega) (by omega)).mpr (by omega)) c)
      refine wk_lv [0, 1, 2, 3] rfl ?_
      exact kx x2 (by rw [f1_volumesThatOwn_L13] <;> exact rfl)
    | succ n ih =>
      intro i x2 hi kx
      refine wk_iload F dX1_volumesThatOwn_13 4 rfl (pc' := 15) rfl ?_
      refine wk_bipush F dX1_volumesThatOwn_15 bp_40 (pc' := 17) rfl ?_
      refine wk_icmp_ge (tgt := 43) F dX1_volumesThatOwn_17 (by decide) (pc' := 20) rfl (fun c => absurd ((nI_leI (a := 40) (b := i) (by omega) (by omega)).mp c) (by omega)) (fun _ => ?_)
      refine wk_aload_n F dX1_volumesThatOwn_20 rfl 0 rfl (pc' := 21) rfl ?_
      refine wk_iload_n F dX1_volumesThatOwn_21 rfl 3 rfl (pc' := 22) rfl ?_
      refine wk_iload F dX1_volumesThatOwn_22 4 rfl (pc' := 24) rfl ?_
      refine wk_same_p F (c1_pieceAt l D cI cP hs σ (nI j3) (nI i)) (cwV 2 F.hts gX1_volumesThatOwn_X1_pieceAt rfl rfl rfl hdX1_pieceAt ⟨Nat.le_of_ble_eq_true rfl, Nat.le_of_ble_eq_true rfl⟩) 0 1 rfl rfl rfl rfl (Nat.le_of_ble_eq_true rfl) dX1_volumesThatOwn_24 ⟨Nat.zero_le _, Nat.zero_le _⟩ (pc' := 27) rfl ?_
      refine wk_iload_n F dX1_volumesThatOwn_27 rfl 1 rfl (pc' := 28) rfl ?_
      refine wk_icmp_ne (tgt := 37) F dX1_volumesThatOwn_28 (by decide) (pc' := 31) rfl (fun c1 => ?_) (fun c1 => ?_)
      · refine wk_iinc (k := 4) (v := nI (i + 1)) (lv' := [(4, .int (nI (i + 1))), (0, .ref (hs 0)), (1, .int p1), (2, .int x2), (3, .int (nI j3))]) F dX1_volumesThatOwn_37 rfl (nI_inc i) (Nat.le_of_ble_eq_true rfl) rfl (pc' := 40) rfl ?_
        refine wk_goto (tgt := 13) F dX1_volumesThatOwn_40 (by decide) ?_
        refine wk_lv [1, 2, 3, 4, 0] rfl ?_
        exact ih (i + 1) x2 (by omega) (fun y2_ h_ => kx y2_ (Eq.trans (by rw [f1_volumesThatOwn_L13] <;> exact (st_neg c1 rfl)) h_))
      · refine wk_iload_n F dX1_volumesThatOwn_31 rfl 2 rfl (pc' := 32) rfl ?_
        refine wk_iconst F dX1_volumesThatOwn_32 ic_1 (pc' := 33) rfl ?_
        refine wk_iload_n F dX1_volumesThatOwn_33 rfl 3 rfl (pc' := 34) rfl ?_
        refine wk_ishl F dX1_volumesThatOwn_34 (pc' := 35) rfl ?_
        refine wk_ior F dX1_volumesThatOwn_35 (pc' := 36) rfl ?_
        refine wk_istore_n (lv' := [(2, .int (x2 ||| ((1 : Int32) <<< ((nI j3) &&& 31)))), (0, .ref (hs 0)), (1, .int p1), (3, .int (nI j3)), (4, .int (nI i))]) F dX1_volumesThatOwn_36 rfl (Nat.le_of_ble_eq_true rfl) rfl (pc' := 37) rfl ?_
        refine wk_iinc (k := 4) (v := nI (i + 1)) (lv' := [(4, .int (nI (i + 1))), (2, .int (x2 ||| ((1 : Int32) <<< ((nI j3) &&& 31)))), (0, .ref (hs 0)), (1, .int p1), (3, .int (nI j3))]) F dX1_volumesThatOwn_37 rfl (nI_inc i) (Nat.le_of_ble_eq_true rfl) rfl (pc' := 40) rfl ?_
        refine wk_goto (tgt := 13) F dX1_volumesThatOwn_40 (by decide) ?_
        refine wk_lv [2, 3, 1, 4, 0] rfl ?_
        exact ih (i + 1) (x2 ||| ((1 : Int32) <<< ((nI j3) &&& 31))) (by omega) (fun y2_ h_ => kx y2_ (Eq.trans (by rw [f1_volumesThatOwn_L13] <;> exact (st_pos c1 rfl)) h_))
  have L4 : ∀ (n : Nat) (i : Nat) (x2 : Int32), i + n = 8 → (∀ (y2 : Int32), f1_volumesThatOwn_L4 σ p1 n i x2 = y2 → Wk p l e ({ frames := 3, cells := 0, slots := 0, locals := 65 } : Room) s m args below meth c 5 D A 0 0 Q (wPool cI hs σ) [(2, .int y2)] 49 []) → Wk p l e ({ frames := 3, cells := 0, slots := 0, locals := 65 } : Room) s m args below meth c 5 D A 0 0 Q (wPool cI hs σ) [(0, .ref (hs 0)), (1, .int p1), (2, .int x2), (3, .int (nI i))] 4 [] := by
    intro n
    induction n with
    | zero =>
      intro i x2 hi kx
      refine wk_iload_n F dX1_volumesThatOwn_4 rfl 3 rfl (pc' := 5) rfl ?_
      refine wk_bipush F dX1_volumesThatOwn_5 bp_8 (pc' := 7) rfl ?_
      refine wk_icmp_ge (tgt := 49) F dX1_volumesThatOwn_7 (by decide) (pc' := 10) rfl (fun _ => ?_) (fun c => absurd ((nI_leI (a := 8) (b := i) (by omega) (by omega)).mpr (by omega)) c)
      refine wk_lv [2] rfl ?_
      exact kx x2 (by rw [f1_volumesThatOwn_L4] <;> exact rfl)
    | succ n ih =>
      intro i x2 hi kx
      refine wk_iload_n F dX1_volumesThatOwn_4 rfl 3 rfl (pc' := 5) rfl ?_
      refine wk_bipush F dX1_volumesThatOwn_5 bp_8 (pc' := 7) rfl ?_
      refine wk_icmp_ge (tgt := 49) F dX1_volumesThatOwn_7 (by decide) (pc' := 10) rfl (fun c => absurd ((nI_leI (a := 8) (b := i) (by omega) (by omega)).mp c) (by omega)) (fun _ => ?_)
      refine wk_iconst F dX1_volumesThatOwn_10 ic_0 (pc' := 11) rfl ?_
      refine wk_istore (lv' := [(4, .int (0 : Int32)), (0, .ref (hs 0)), (1, .int p1), (2, .int x2), (3, .int (nI i))]) F dX1_volumesThatOwn_11 (Nat.le_of_ble_eq_true rfl) rfl (pc' := 13) rfl ?_
      refine wk_lv [1, 2, 3, 4, 0] rfl ?_
      refine L13 i (by omega) 40 0 x2 (by omega) (fun y3 h2 => ?_)
      refine wk_iinc (k := 3) (v := nI (i + 1)) (lv' := [(3, .int (nI (i + 1))), (0, .ref (hs 0)), (1, .int p1), (2, .int y3)]) F dX1_volumesThatOwn_43 rfl (nI_inc i) (Nat.le_of_ble_eq_true rfl) rfl (pc' := 46) rfl ?_
      refine wk_goto (tgt := 4) F dX1_volumesThatOwn_46 (by decide) ?_
      refine wk_lv [1, 2, 3, 0] rfl ?_
      exact ih (i + 1) y3 (by omega) (fun y2_ h_ => kx y2_ (Eq.trans (by rw [f1_volumesThatOwn_L4] <;> exact (st_let h2 rfl)) h_))
  refine wk_iconst F dX1_volumesThatOwn_0 ic_0 (pc' := 1) rfl ?_
  refine wk_istore_n (lv' := [(2, .int (0 : Int32)), (0, .ref (hs 0)), (1, .int p1)]) F dX1_volumesThatOwn_1 rfl (Nat.le_of_ble_eq_true rfl) rfl (pc' := 2) rfl ?_
  refine wk_iconst F dX1_volumesThatOwn_2 ic_0 (pc' := 3) rfl ?_
  refine wk_istore_n (lv' := [(3, .int (0 : Int32)), (2, .int (0 : Int32)), (0, .ref (hs 0)), (1, .int p1)]) F dX1_volumesThatOwn_3 rfl (Nat.le_of_ble_eq_true rfl) rfl (pc' := 4) rfl ?_
  refine wk_lv [2, 3, 1, 0] rfl ?_
  refine L4 8 0 (0 : Int32) (by omega) (fun y5 h4 => ?_)
  refine wk_iload_n F dX1_volumesThatOwn_49 rfl 0 rfl (pc' := 50) rfl ?_
  exact hret _ _ _ dX1_volumesThatOwn_50 rfl (Eq.symm (by rw [f1_volumesThatOwn] <;> exact (st_let h4 rfl)))
def f1_piecesOwnedOnlyBy_L4 (σ : PS) (p1 : Int32) : Nat → Nat → Int32 → Int32
  | 0, i, x2 => x2
  | n + 1, i, x2 => (if (σ 8 i) ≤ 0 then f1_piecesOwnedOnlyBy_L4 σ p1 n (i + 1) x2 else (if ((f1_volumesThatOwn σ (nI i)) &&& (p1 ^^^ (-1 : Int32))) = 0 then f1_piecesOwnedOnlyBy_L4 σ p1 n (i + 1) (x2 + 1) else f1_piecesOwnedOnlyBy_L4 σ p1 n (i + 1) x2))
def f1_piecesOwnedOnlyBy (σ : PS) (p1 : Int32) : Int32 := (sq (f1_piecesOwnedOnlyBy_L4 σ p1 30 0 (0 : Int32)) (fun (y4 : Int32) => y4))
set_option maxHeartbeats 4000000 in
set_option maxRecDepth 100000 in
theorem c1_piecesOwnedOnlyBy (l : Launch) (D : va_G) (cI cP : ClassId) (hs : Nat → Nat) (σ : PS) (p1 : Int32) : CP l yX1_piecesOwnedOnlyBy wsX1_piecesOwnedOnlyBy ({ frames := 4, cells := 0, slots := 0, locals := 89 } : Room) D (cty cI cP) (wPool cI hs) σ [.ref (hs 0), .int p1] (f1_piecesOwnedOnlyBy σ p1) := by
  refine CP.of (cc := cX1_piecesOwnedOnlyBy) (maxL := 4) (rt := .int) (own := RX1) (lv0 := [(0, .ref (hs 0)), (1, .int p1)]) pnX1 rfl rfl (Nat.le_of_ble_eq_true rfl) rfl (fun p e s m args below meth c A Q F hret => ?_)
  have w_1 := F.at (x := Cond.fieldLink RX1 36 "ThinVolumes$Pool" "owners" "[I") 1 rfl
  have k_1 : ∀ w ∈ wsX10, w ∈ wsX1_piecesOwnedOnlyBy := fun _ h => List.mem_cons_of_mem _ (List.mem_append_right _ (h))
  have L4 : ∀ (n : Nat) (i : Nat) (x2 : Int32), i + n = 30 → (∀ (y2 : Int32), f1_piecesOwnedOnlyBy_L4 σ p1 n i x2 = y2 → Wk p l e ({ frames := 4, cells := 0, slots := 0, locals := 89 } : Room) s m args below meth c 4 D A 0 0 Q (wPool cI hs σ) [(2, .int y2)] 40 []) → Wk p l e ({ frames := 4, cells := 0, slots := 0, locals := 89 } : Room) s m args below meth c 4 D A 0 0 Q (wPool cI hs σ) [(0, .ref (hs 0)), (1, .int p1), (2, .int x2), (3, .int (nI i))] 4 [] := by
    intro n
    induction n with
    | zero =>
      intro i x2 hi kx
      refine wk_iload_n F dX1_piecesOwnedOnlyBy_4 rfl 3 rfl (pc' := 5) rfl ?_
      refine wk_bipush F dX1_piecesOwnedOnlyBy_5 bp_30 (pc' := 7) rfl ?_
      refine wk_icmp_ge (tgt := 40) F dX1_piecesOwnedOnlyBy_7 (by decide) (pc' := 10) rfl (fun _ => ?_) (fun c => absurd ((nI_leI (a := 30) (b := i) (by omega) (by omega)).mpr (by omega)) c)
      refine wk_lv [2] rfl ?_
      exact kx x2 (by rw [f1_piecesOwnedOnlyBy_L4] <;> exact rfl)
    | succ n ih =>
      intro i x2 hi kx
      refine wk_iload_n F dX1_piecesOwnedOnlyBy_4 rfl 3 rfl (pc' := 5) rfl ?_
      refine wk_bipush F dX1_piecesOwnedOnlyBy_5 bp_30 (pc' := 7) rfl ?_
      refine wk_icmp_ge (tgt := 40) F dX1_piecesOwnedOnlyBy_7 (by decide) (pc' := 10) rfl (fun c => absurd ((nI_leI (a := 30) (b := i) (by omega) (by omega)).mp c) (by omega)) (fun _ => ?_)
      refine wk_aload_n F dX1_piecesOwnedOnlyBy_10 rfl 0 rfl (pc' := 11) rfl ?_
      refine wk_get (C := RX1) (T := TX1) (N := 14) F 0 rfl rfl k_1 8 (Nat.le_of_ble_eq_true rfl) w_1 rfl dX1_piecesOwnedOnlyBy_11 (pc' := 14) rfl ?_
      refine wk_iload_n F dX1_piecesOwnedOnlyBy_14 rfl 3 rfl (pc' := 15) rfl ?_
      refine wk_iald_n (i := i) F 9 0 rfl rfl (by omega) (Nat.le_of_ble_eq_true rfl) dX1_piecesOwnedOnlyBy_15 (pc' := 16) rfl ?_
      refine wk_if_le (tgt := 34) F dX1_piecesOwnedOnlyBy_16 (by decide) (pc' := 19) rfl (fun c1 => ?_) (fun c1 => ?_)
      · refine wk_iinc (k := 3) (v := nI (i + 1)) (lv' := [(3, .int (nI (i + 1))), (0, .ref (hs 0)), (1, .int p1), (2, .int x2)]) F dX1_piecesOwnedOnlyBy_34 rfl (nI_inc i) (Nat.le_of_ble_eq_true rfl) rfl (pc' := 37) rfl ?_
        refine wk_goto (tgt := 4) F dX1_piecesOwnedOnlyBy_37 (by decide) ?_
        refine wk_lv [1, 2, 3, 0] rfl ?_
        exact ih (i + 1) x2 (by omega) (fun y2_ h_ => kx y2_ (Eq.trans (by rw [f1_piecesOwnedOnlyBy_L4] <;> exact (st_pos c1 rfl)) h_))
      · refine wk_aload_n F dX1_piecesOwnedOnlyBy_19 rfl 0 rfl (pc' := 20) rfl ?_
        refine wk_iload_n F dX1_piecesOwnedOnlyBy_20 rfl 3 rfl (pc' := 21) rfl ?_
        refine wk_same_p F (c1_volumesThatOwn l D cI cP hs σ (nI i)) (cwV 1 F.hts gX1_piecesOwnedOnlyBy_X1_volumesThatOwn rfl rfl rfl hdX1_volumesThatOwn ⟨Nat.le_of_ble_eq_true rfl, Nat.le_of_ble_eq_true rfl⟩) 0 1 rfl rfl rfl rfl (Nat.le_of_ble_eq_true rfl) dX1_piecesOwnedOnlyBy_21 ⟨Nat.zero_le _, Nat.zero_le _⟩ (pc' := 24) rfl ?_
        refine wk_iload_n F dX1_piecesOwnedOnlyBy_24 rfl 1 rfl (pc' := 25) rfl ?_
        refine wk_iconst F dX1_piecesOwnedOnlyBy_25 ic_m1 (pc' := 26) rfl ?_
        refine wk_ixor F dX1_piecesOwnedOnlyBy_26 (pc' := 27) rfl ?_
        refine wk_iand F dX1_piecesOwnedOnlyBy_27 (pc' := 28) rfl ?_
        refine wk_if_ne (tgt := 34) F dX1_piecesOwnedOnlyBy_28 (by decide) (pc' := 31) rfl (fun c2 => ?_) (fun c2 => ?_)
        · refine wk_iinc (k := 3) (v := nI (i + 1)) (lv' := [(3, .int (nI (i + 1))), (0, .ref (hs 0)), (1, .int p1), (2, .int x2)]) F dX1_piecesOwnedOnlyBy_34 rfl (nI_inc i) (Nat.le_of_ble_eq_true rfl) rfl (pc' := 37) rfl ?_
          refine wk_goto (tgt := 4) F dX1_piecesOwnedOnlyBy_37 (by decide) ?_
          refine wk_lv [1, 2, 3, 0] rfl ?_
          exact ih (i + 1) x2 (by omega) (fun y2_ h_ => kx y2_ (Eq.trans (by rw [f1_piecesOwnedOnlyBy_L4] <;> exact (st_neg c1 (st_neg c2 rfl))) h_))
        · refine wk_iinc (k := 2) (v := x2 + 1) (lv' := [(2, .int (x2 + 1)), (0, .ref (hs 0)), (1, .int p1), (3, .int (nI i))]) F dX1_piecesOwnedOnlyBy_31 rfl rfl (Nat.le_of_ble_eq_true rfl) rfl (pc' := 34) rfl ?_
          refine wk_iinc (k := 3) (v := nI (i + 1)) (lv' := [(3, .int (nI (i + 1))), (2, .int (x2 + 1)), (0, .ref (hs 0)), (1, .int p1)]) F dX1_piecesOwnedOnlyBy_34 rfl (nI_inc i) (Nat.le_of_ble_eq_true rfl) rfl (pc' := 37) rfl ?_
          refine wk_goto (tgt := 4) F dX1_piecesOwnedOnlyBy_37 (by decide) ?_
          refine wk_lv [2, 3, 1, 0] rfl ?_
          exact ih (i + 1) (x2 + 1) (by omega) (fun y2_ h_ => kx y2_ (Eq.trans (by rw [f1_piecesOwnedOnlyBy_L4] <;> exact (st_neg c1 (st_pos c2 rfl))) h_))
  refine wk_iconst F dX1_piecesOwnedOnlyBy_0 ic_0 (pc' := 1) rfl ?_
  refine wk_istore_n (lv' := [(2, .int (0 : Int32)), (0, .ref (hs 0)), (1, .int p1)]) F dX1_piecesOwnedOnlyBy_1 rfl (Nat.le_of_ble_eq_true rfl) rfl (pc' := 2) rfl ?_
  refine wk_iconst F dX1_piecesOwnedOnlyBy_2 ic_0 (pc' := 3) rfl ?_
  refine wk_istore_n (lv' := [(3, .int (0 : Int32)), (2, .int (0 : Int32)), (0, .ref (hs 0)), (1, .int p1)]) F dX1_piecesOwnedOnlyBy_3 rfl (Nat.le_of_ble_eq_true rfl) rfl (pc' := 4) rfl ?_
  refine wk_lv [2, 3, 1, 0] rfl ?_
  refine L4 30 0 (0 : Int32) (by omega) (fun y4 h3 => ?_)
  refine wk_iload_n F dX1_piecesOwnedOnlyBy_40 rfl 0 rfl (pc' := 41) rfl ?_
  exact hret _ _ _ dX1_piecesOwnedOnlyBy_41 rfl (Eq.symm (by rw [f1_piecesOwnedOnlyBy] <;> exact (st_let h3 rfl)))
def f1_clonesOf_L4 (σ : PS) (p1 : Int32) : Nat → Nat → Int32 → Int32
  | 0, i, x2 => x2
  | n + 1, i, x2 => (if (f1_lives σ (nI i)) = 0 then f1_clonesOf_L4 σ p1 n (i + 1) x2 else (if (σ 3 i) = p1 then f1_clonesOf_L4 σ p1 n (i + 1) (x2 ||| ((1 : Int32) <<< ((nI i) &&& 31))) else f1_clonesOf_L4 σ p1 n (i + 1) x2))
def f1_clonesOf (σ : PS) (p1 : Int32) : Int32 := (sq (f1_clonesOf_L4 σ p1 8 0 (0 : Int32)) (fun (y4 : Int32) => y4))
set_option maxHeartbeats 4000000 in
set_option maxRecDepth 100000 in
theorem c1_clonesOf (l : Launch) (D : va_G) (cI cP : ClassId) (hs : Nat → Nat) (σ : PS) (p1 : Int32) : CP l yX1_clonesOf wsX1_clonesOf ({ frames := 1, cells := 0, slots := 0, locals := 21 } : Room) D (cty cI cP) (wPool cI hs) σ [.ref (hs 0), .int p1] (f1_clonesOf σ p1) := by
  refine CP.of (cc := cX1_clonesOf) (maxL := 4) (rt := .int) (own := RX1) (lv0 := [(0, .ref (hs 0)), (1, .int p1)]) pnX1 rfl rfl (Nat.le_of_ble_eq_true rfl) rfl (fun p e s m args below meth c A Q F hret => ?_)
  have w_1 := F.at (x := Cond.fieldLink RX1 21 "ThinVolumes$Pool" "parents" "[I") 1 rfl
  have k_1 : ∀ w ∈ wsX10, w ∈ wsX1_clonesOf := fun _ h => List.mem_cons_of_mem _ (List.mem_append_right _ (h))
  have L4 : ∀ (n : Nat) (i : Nat) (x2 : Int32), i + n = 8 → (∀ (y2 : Int32), f1_clonesOf_L4 σ p1 n i x2 = y2 → Wk p l e ({ frames := 1, cells := 0, slots := 0, locals := 21 } : Room) s m args below meth c 4 D A 0 0 Q (wPool cI hs σ) [(2, .int y2)] 40 []) → Wk p l e ({ frames := 1, cells := 0, slots := 0, locals := 21 } : Room) s m args below meth c 4 D A 0 0 Q (wPool cI hs σ) [(0, .ref (hs 0)), (1, .int p1), (2, .int x2), (3, .int (nI i))] 4 [] := by
    intro n
    induction n with
    | zero =>
      intro i x2 hi kx
      refine wk_iload_n F dX1_clonesOf_4 rfl 3 rfl (pc' := 5) rfl ?_
      refine wk_bipush F dX1_clonesOf_5 bp_8 (pc' := 7) rfl ?_
      refine wk_icmp_ge (tgt := 40) F dX1_clonesOf_7 (by decide) (pc' := 10) rfl (fun _ => ?_) (fun c => absurd ((nI_leI (a := 8) (b := i) (by omega) (by omega)).mpr (by omega)) c)
      refine wk_lv [2] rfl ?_
      exact kx x2 (by rw [f1_clonesOf_L4] <;> exact rfl)
    | succ n ih =>
      intro i x2 hi kx
      refine wk_iload_n F dX1_clonesOf_4 rfl 3 rfl (pc' := 5) rfl ?_
      refine wk_bipush F dX1_clonesOf_5 bp_8 (pc' := 7) rfl ?_
      refine wk_icmp_ge (tgt := 40) F dX1_clonesOf_7 (by decide) (pc' := 10) rfl (fun c => absurd ((nI_leI (a := 8) (b := i) (by omega) (by omega)).mp c) (by omega)) (fun _ => ?_)
      refine wk_aload_n F dX1_clonesOf_10 rfl 0 rfl (pc' := 11) rfl ?_
      refine wk_iload_n F dX1_clonesOf_11 rfl 3 rfl (pc' := 12) rfl ?_
      refine wk_same_p F (c1_lives l D cI cP hs σ (nI i)) (cwV 1 F.hts gX1_clonesOf_X1_lives rfl rfl rfl hdX1_lives ⟨Nat.le_of_ble_eq_true rfl, Nat.le_of_ble_eq_true rfl⟩) 0 1 rfl rfl rfl rfl (Nat.le_of_ble_eq_true rfl) dX1_clonesOf_12 ⟨Nat.zero_le _, Nat.zero_le _⟩ (pc' := 15) rfl ?_
      refine wk_if_eq (tgt := 34) F dX1_clonesOf_15 (by decide) (pc' := 18) rfl (fun c1 => ?_) (fun c1 => ?_)
      · refine wk_iinc (k := 3) (v := nI (i + 1)) (lv' := [(3, .int (nI (i + 1))), (0, .ref (hs 0)), (1, .int p1), (2, .int x2)]) F dX1_clonesOf_34 rfl (nI_inc i) (Nat.le_of_ble_eq_true rfl) rfl (pc' := 37) rfl ?_
        refine wk_goto (tgt := 4) F dX1_clonesOf_37 (by decide) ?_
        refine wk_lv [1, 2, 3, 0] rfl ?_
        exact ih (i + 1) x2 (by omega) (fun y2_ h_ => kx y2_ (Eq.trans (by rw [f1_clonesOf_L4] <;> exact (st_pos c1 rfl)) h_))
      · refine wk_aload_n F dX1_clonesOf_18 rfl 0 rfl (pc' := 19) rfl ?_
        refine wk_get (C := RX1) (T := TX1) (N := 14) F 0 rfl rfl k_1 3 (Nat.le_of_ble_eq_true rfl) w_1 rfl dX1_clonesOf_19 (pc' := 22) rfl ?_
        refine wk_iload_n F dX1_clonesOf_22 rfl 3 rfl (pc' := 23) rfl ?_
        refine wk_iald_n (i := i) F 4 0 rfl rfl (by omega) (Nat.le_of_ble_eq_true rfl) dX1_clonesOf_23 (pc' := 24) rfl ?_
        refine wk_iload_n F dX1_clonesOf_24 rfl 1 rfl (pc' := 25) rfl ?_
        refine wk_icmp_ne (tgt := 34) F dX1_clonesOf_25 (by decide) (pc' := 28) rfl (fun c2 => ?_) (fun c2 => ?_)
        · refine wk_iinc (k := 3) (v := nI (i + 1)) (lv' := [(3, .int (nI (i + 1))), (0, .ref (hs 0)), (1, .int p1), (2, .int x2)]) F dX1_clonesOf_34 rfl (nI_inc i) (Nat.le_of_ble_eq_true rfl) rfl (pc' := 37) rfl ?_
          refine wk_goto (tgt := 4) F dX1_clonesOf_37 (by decide) ?_
          refine wk_lv [1, 2, 3, 0] rfl ?_
          exact ih (i + 1) x2 (by omega) (fun y2_ h_ => kx y2_ (Eq.trans (by rw [f1_clonesOf_L4] <;> exact (st_neg c1 (st_neg c2 rfl))) h_))
        · refine wk_iload_n F dX1_clonesOf_28 rfl 2 rfl (pc' := 29) rfl ?_
          refine wk_iconst F dX1_clonesOf_29 ic_1 (pc' := 30) rfl ?_
          refine wk_iload_n F dX1_clonesOf_30 rfl 3 rfl (pc' := 31) rfl ?_
          refine wk_ishl F dX1_clonesOf_31 (pc' := 32) rfl ?_
          refine wk_ior F dX1_clonesOf_32 (pc' := 33) rfl ?_
          refine wk_istore_n (lv' := [(2, .int (x2 ||| ((1 : Int32) <<< ((nI i) &&& 31)))), (0, .ref (hs 0)), (1, .int p1), (3, .int (nI i))]) F dX1_clonesOf_33 rfl (Nat.le_of_ble_eq_true rfl) rfl (pc' := 34) rfl ?_
          refine wk_iinc (k := 3) (v := nI (i + 1)) (lv' := [(3, .int (nI (i + 1))), (2, .int (x2 ||| ((1 : Int32) <<< ((nI i) &&& 31)))), (0, .ref (hs 0)), (1, .int p1)]) F dX1_clonesOf_34 rfl (nI_inc i) (Nat.le_of_ble_eq_true rfl) rfl (pc' := 37) rfl ?_
          refine wk_goto (tgt := 4) F dX1_clonesOf_37 (by decide) ?_
          refine wk_lv [2, 3, 1, 0] rfl ?_
          exact ih (i + 1) (x2 ||| ((1 : Int32) <<< ((nI i) &&& 31))) (by omega) (fun y2_ h_ => kx y2_ (Eq.trans (by rw [f1_clonesOf_L4] <;> exact (st_neg c1 (st_pos c2 rfl))) h_))
  refine wk_iconst F dX1_clonesOf_0 ic_0 (pc' := 1) rfl ?_
  refine wk_istore_n (lv' := [(2, .int (0 : Int32)), (0, .ref (hs 0)), (1, .int p1)]) F dX1_clonesOf_1 rfl (Nat.le_of_ble_eq_true rfl) rfl (pc' := 2) rfl ?_
  refine wk_iconst F dX1_clonesOf_2 ic_0 (pc' := 3) rfl ?_
  refine wk_istore_n (lv' := [(3, .int (0 : Int32)), (2, .int (0 : Int32)), (0, .ref (hs 0)), (1, .int p1)]) F dX1_clonesOf_3 rfl (Nat.le_of_ble_eq_true rfl) rfl (pc' := 4) rfl ?_
  refine wk_lv [2, 3, 1, 0] rfl ?_
  refine L4 8 0 (0 : Int32) (by omega) (fun y4 h3 => ?_)
  refine wk_iload_n F dX1_clonesOf_40 rfl 0 rfl (pc' := 41) rfl ?_
  exact hret _ _ _ dX1_clonesOf_41 rfl (Eq.symm (by rw [f1_clonesOf] <;> exact (st_let h3 rfl)))
def f1_stepsUp_L5 (σ : PS) (p1 : Int32) (p2 : Int32) : Nat → Nat → Int32 → Int32
  | 0, i, x3 => (-1 : Int32)
  | n + 1, i, x3 => (if (f1_lives σ x3) = 0 then (-1 : Int32) else (if x3 = p2 then nI i else f1_stepsUp_L5 σ p1 p2 n (i + 1) (σ 3 x3.toNatClampNeg)))
def f1_stepsUp (σ : PS) (p1 : Int32) (p2 : Int32) : Int32 := f1_stepsUp_L5 σ p1 p2 8 0 p1
set_option maxHeartbeats 4000000 in
set_option maxRecDepth 100000 in
theorem c1_stepsUp (l : Launch) (D : va_G) (cI cP : ClassId) (hs : Nat → Nat) (σ : PS) (p1 : Int32) (p2 : Int32) : CP l yX1_stepsUp wsX1_stepsUp ({ frames := 1, cells := 0, slots := 0, locals := 21 } : Room) D (cty cI cP) (wPool cI hs) σ [.ref (hs 0), .int p1, .int p2] (f1_stepsUp σ p1 p2) := by
  refine CP.of (cc := cX1_stepsUp) (maxL := 5) (rt := .int) (own := RX1) (lv0 := [(0, .ref (hs 0)), (1, .int p1), (2, .int p2)]) pnX1 rfl rfl (Nat.le_of_ble_eq_true rfl) rfl (fun p e s m args below meth c A Q F hret => ?_)
  have w_1 := F.at (x := Cond.fieldLink RX1 21 "ThinVolumes$Pool" "parents" "[I") 1 rfl
  have k_1 : ∀ w ∈ wsX10, w ∈ wsX1_stepsUp := fun _ h => List.mem_cons_of_mem _ (List.mem_append_right _ (h))
  have L5 : ∀ (n : Nat) (i : Nat) (x3 : Int32), i + n = 8 → f1_stepsUp_L5 σ p1 p2 n i x3 = f1_stepsUp σ p1 p2 → Wk p l e ({ frames := 1, cells := 0, slots := 0, locals := 21 } : Room) s m args below meth c 5 D A 0 0 Q (wPool cI hs σ) [(0, .ref (hs 0)), (2, .int p2), (3, .int x3), (4, .int (nI i))] 5 [] := by
    intro n
    induction n with
    | zero =>
      intro i x3 hi hp
      refine wk_iload F dX1_stepsUp_5 3 rfl (pc' := 7) rfl ?_
      refine wk_bipush F dX1_stepsUp_7 bp_8 (pc' := 9) rfl ?_
      refine wk_icmp_ge (tgt := 43) F dX1_stepsUp_9 (by decide) (pc' := 12) rfl (fun _ => ?_) (fun c => absurd ((nI_leI (a := 8) (b := i) (by omega) (by omega)).mpr (by omega)) c)
      refine wk_iconst F dX1_stepsUp_43 ic_m1 (pc' := 44) rfl ?_
      exact hret _ _ _ dX1_stepsUp_44 rfl (Eq.trans (Eq.symm (by rw [f1_stepsUp_L5] <;> exact rfl)) hp)
    | succ n ih =>
      intro i x3 hi hp
      refine wk_iload F dX1_stepsUp_5 3 rfl (pc' := 7) rfl ?_
      refine wk_bipush F dX1_stepsUp_7 bp_8 (pc' := 9) rfl ?_
      refine wk_icmp_ge (tgt := 43) F dX1_stepsUp_9 (by decide) (pc' := 12) rfl (fun c => absurd ((nI_leI (a := 8) (b := i) (by omega) (by omega)).mp c) (by omega)) (fun _ => ?_)
      refine wk_aload_n F dX1_stepsUp_12 rfl 0 rfl (pc' := 13) rfl ?_
      refine wk_iload_n F dX1_stepsUp_13 rfl 2 rfl (pc' := 14) rfl ?_
      refine wk_same_p F (c1_lives l D cI cP hs σ x3) (cwV 1 F.hts gX1_stepsUp_X1_lives rfl rfl rfl hdX1_lives ⟨Nat.le_of_ble_eq_true rfl, Nat.le_of_ble_eq_true rfl⟩) 0 1 rfl rfl rfl rfl (Nat.le_of_ble_eq_true rfl) dX1_stepsUp_14 ⟨Nat.zero_le _, Nat.zero_le _⟩ (pc' := 17) rfl ?_
      refine wk_if_ne (tgt := 22) F dX1_stepsUp_17 (by decide) (pc' := 20) rfl (fun c1 => ?_) (fun c1 => ?_)
      · refine wk_iload_n F dX1_stepsUp_22 rfl 2 rfl (pc' := 23) rfl ?_
        refine wk_iload_n F dX1_stepsUp_23 rfl 1 rfl (pc' := 24) rfl ?_
        refine wk_icmp_ne (tgt := 30) F dX1_stepsUp_24 (by decide) (pc' := 27) rfl (fun c2 => ?_) (fun c2 => ?_)
        · refine wk_aload_n F dX1_stepsUp_30 rfl 0 rfl (pc' := 31) rfl ?_
          refine wk_get (C := RX1) (T := TX1) (N := 14) F 0 rfl rfl k_1 3 (Nat.le_of_ble_eq_true rfl) w_1 rfl dX1_stepsUp_31 (pc' := 34) rfl ?_
          refine wk_iload_n F dX1_stepsUp_34 rfl 2 rfl (pc' := 35) rfl ?_
          refine wk_iald F 4 0 rfl rfl (lives_in c1) dX1_stepsUp_35 (pc' := 36) rfl ?_
          refine wk_istore_n (lv' := [(3, .int (σ 3 x3.toNatClampNeg)), (0, .ref (hs 0)), (2, .int p2), (4, .int (nI i))]) F dX1_stepsUp_36 rfl (Nat.le_of_ble_eq_true rfl) rfl (pc' := 37) rfl ?_
          refine wk_iinc (k := 3) (v := nI (i + 1)) (lv' := [(4, .int (nI (i + 1))), (3, .int (σ 3 x3.toNatClampNeg)), (0, .ref (hs 0)), (2, .int p2)]) F dX1_stepsUp_37 rfl (nI_inc i) (Nat.le_of_ble_eq_true rfl) rfl (pc' := 40) rfl ?_
          refine wk_goto (tgt := 5) F dX1_stepsUp_40 (by decide) ?_
          refine wk_lv [2, 3, 1, 0] rfl ?_
          exact ih (i + 1) (σ 3 x3.toNatClampNeg) (by omega) (Eq.trans (Eq.symm (by rw [f1_stepsUp_L5] <;> exact (st_neg c1 (st_neg c2 rfl)))) hp)
        · refine wk_iload F dX1_stepsUp_27 3 rfl (pc' := 29) rfl ?_
          exact hret _ _ _ dX1_stepsUp_29 rfl (Eq.trans (Eq.symm (by rw [f1_stepsUp_L5] <;> exact (st_neg c1 (st_pos c2 rfl)))) hp)
      · refine wk_iconst F dX1_stepsUp_20 ic_m1 (pc' := 21) rfl ?_
        exact hret _ _ _ dX1_stepsUp_21 rfl (Eq.trans (Eq.symm (by rw [f1_stepsUp_L5] <;> exact (st_pos c1 rfl))) hp)
  refine wk_iload_n F dX1_stepsUp_0 rfl 1 rfl (pc' := 1) rfl ?_
  refine wk_istore_n (lv' := [(3, .int p1), (0, .ref (hs 0)), (1, .int p1), (2, .int p2)]) F dX1_stepsUp_1 rfl (Nat.le_of_ble_eq_true rfl) rfl (pc' := 2) rfl ?_
  refine wk_iconst F dX1_stepsUp_2 ic_0 (pc' := 3) rfl ?_
  refine wk_istore (lv' := [(4, .int (0 : Int32)), (3, .int p1), (0, .ref (hs 0)), (1, .int p1), (2, .int p2)]) F dX1_stepsUp_3 (Nat.le_of_ble_eq_true rfl) rfl (pc' := 5) rfl ?_
  refine wk_lv [2, 4, 1, 0] rfl ?_
  exact L5 8 0 p1 (by omega) (Eq.symm (by rw [f1_stepsUp] <;> exact rfl))
def f1_familyOf_L4 (σ : PS) (p1 : Int32) : Nat → Nat → Int32 → Int32
  | 0, i, x2 => x2
  | n + 1, i, x2 => (if (f1_stepsUp σ (nI i) p1) = (-1 : Int32) then f1_familyOf_L4 σ p1 n (i + 1) x2 else f1_familyOf_L4 σ p1 n (i + 1) (x2 ||| ((1 : Int32) <<< ((nI i) &&& 31))))
def f1_familyOf (σ : PS) (p1 : Int32) : Int32 := (sq (f1_familyOf_L4 σ p1 8 0 (0 : Int32)) (fun (y3 : Int32) => y3))
set_option maxHeartbeats 4000000 in
set_option maxRecDepth 100000 in
theorem c1_familyOf (l : Launch) (D : va_G) (cI cP : ClassId) (hs : Nat → Nat) (σ : PS) (p1 : Int32) : CP l yX1_familyOf wsX1_familyOf ({ frames := 2, cells := 0, slots := 0, locals := 45 } : Room) D (cty cI cP) (wPool cI hs) σ [.ref (hs 0), .int p1] (f1_familyOf σ p1) := by
  refine CP.of (cc := cX1_familyOf) (maxL := 4) (rt := .int) (own := RX1) (lv0 := [(0, .ref (hs 0)), (1, .int p1)]) pnX1 rfl rfl (Nat.le_of_ble_eq_true rfl) rfl (fun p e s m args below meth c A Q F hret => ?_)
  have L4 : ∀ (n : Nat) (i : Nat) (x2 : Int32), i + n = 8 → (∀ (y2 : Int32), f1_familyOf_L4 σ p1 n i x2 = y2 → Wk p l e ({ frames := 2, cells := 0, slots := 0, locals := 45 } : Room) s m args below meth c 4 D A 0 0 Q (wPool cI hs σ) [(2, .int y2)] 32 []) → Wk p l e ({ frames := 2, cells := 0, slots := 0, locals := 45 } : Room) s m args below meth c 4 D A 0 0 Q (wPool cI hs σ) [(0, .ref (hs 0)), (1, .int p1), (2, .int x2), (3, .int (nI i))] 4 [] := by
    intro n
    induction n with
    | zero =>
      intro i x2 hi kx
      refine wk_iload_n F dX1_familyOf_4 rfl 3 rfl (pc' := 5) rfl ?_
      refine wk_bipush F dX1_familyOf_5 bp_8 (pc' := 7) rfl ?_
      refine wk_icmp_ge (tgt := 32) F dX1_familyOf_7 (by decide) (pc' := 10) rfl (fun _ => ?_) (fun c => absurd ((nI_leI (a := 8) (b := i) (by omega) (by omega)).mpr (by omega)) c)
      refine wk_lv [2] rfl ?_
      exact kx x2 (by rw [f1_familyOf_L4] <;> exact rfl)
    | succ n ih =>
      intro i x2 hi kx
      refine wk_iload_n F dX1_familyOf_4 rfl 3 rfl (pc' := 5) rfl ?_
      refine wk_bipush F dX1_familyOf_5 bp_8 (pc' := 7) rfl ?_
      refine wk_icmp_ge (tgt := 32) F dX1_familyOf_7 (by decide) (pc' := 10) rfl (fun c => absurd ((nI_leI (a := 8) (b := i) (by omega) (by omega)).mp c) (by omega)) (fun _ => ?_)
      refine wk_aload_n F dX1_familyOf_10 rfl 0 rfl (pc' := 11) rfl ?_
      refine wk_iload_n F dX1_familyOf_11 rfl 3 rfl (pc' := 12) rfl ?_
      refine wk_iload_n F dX1_familyOf_12 rfl 1 rfl (pc' := 13) rfl ?_
      refine wk_same_p F (c1_stepsUp l D cI cP hs σ (nI i) p1) (cwV 2 F.hts gX1_familyOf_X1_stepsUp rfl rfl rfl hdX1_stepsUp ⟨Nat.le_of_ble_eq_true rfl, Nat.le_of_ble_eq_true rfl⟩) 0 1 rfl rfl rfl rfl (Nat.le_of_ble_eq_true rfl) dX1_familyOf_13 ⟨Nat.zero_le _, Nat.zero_le _⟩ (pc' := 16) rfl ?_
      refine wk_iconst F dX1_familyOf_16 ic_m1 (pc' := 17) rfl ?_
      refine wk_icmp_eq (tgt := 26) F dX1_familyOf_17 (by decide) (pc' := 20) rfl (fun c1 => ?_) (fun c1 => ?_)
      · refine wk_iinc (k := 3) (v := nI (i + 1)) (lv' := [(3, .int (nI (i + 1))), (0, .ref (hs 0)), (1, .int p1), (2, .int x2)]) F dX1_familyOf_26 rfl (nI_inc i) (Nat.le_of_ble_eq_true rfl) rfl (pc' := 29) rfl ?_
        refine wk_goto (tgt := 4) F dX1_familyOf_29 (by decide) ?_
        refine wk_lv [1, 2, 3, 0] rfl ?_
        exact ih (i + 1) x2 (by omega) (fun y2_ h_ => kx y2_ (Eq.trans (by rw [f1_familyOf_L4] <;> exact (st_pos c1 rfl)) h_))
      · refine wk_iload_n F dX1_familyOf_20 rfl 2 rfl (pc' := 21) rfl ?_
        refine wk_iconst F dX1_familyOf_21 ic_1 (pc' := 22) rfl ?_
        refine wk_iload_n F dX1_familyOf_22 rfl 3 rfl (pc' := 23) rfl ?_
        refine wk_ishl F dX1_familyOf_23 (pc' := 24) rfl ?_
        refine wk_ior F dX1_familyOf_24 (pc' := 25) rfl ?_
        refine wk_istore_n (lv' := [(2, .int (x2 ||| ((1 : Int32) <<< ((nI i) &&& 31)))), (0, .ref (hs 0)), (1, .int p1), (3, .int (nI i))]) F dX1_familyOf_25 rfl (Nat.le_of_ble_eq_true rfl) rfl (pc' := 26) rfl ?_
        refine wk_iinc (k := 3) (v := nI (i + 1)) (lv' := [(3, .int (nI (i + 1))), (2, .int (x2 ||| ((1 : Int32) <<< ((nI i) &&& 31)))), (0, .ref (hs 0)), (1, .int p1)]) F dX1_familyOf_26 rfl (nI_inc i) (Nat.le_of_ble_eq_true rfl) rfl (pc' := 29) rfl ?_
        refine wk_goto (tgt := 4) F dX1_familyOf_29 (by decide) ?_
        refine wk_lv [2, 3, 1, 0] rfl ?_
        exact ih (i + 1) (x2 ||| ((1 : Int32) <<< ((nI i) &&& 31))) (by omega) (fun y2_ h_ => kx y2_ (Eq.trans (by rw [f1_familyOf_L4] <;> exact (st_neg c1 rfl)) h_))
  refine wk_iconst F dX1_familyOf_0 ic_0 (pc' := 1) rfl ?_
  refine wk_istore_n (lv' := [(2, .int (0 : Int32)), (0, .ref (hs 0)), (1, .int p1)]) F dX1_familyOf_1 rfl (Nat.le_of_ble_eq_true rfl) rfl (pc' := 2) rfl ?_
  refine wk_iconst F dX1_familyOf_2 ic_0 (pc' := 3) rfl ?_
  refine wk_istore_n (lv' := [(3, .int (0 : Int32)), (2, .int (0 : Int32)), (0, .ref (hs 0)), (1, .int p1)]) F dX1_familyOf_3 rfl (Nat.le_of_ble_eq_true rfl) rfl (pc' := 4) rfl ?_
  refine wk_lv [2, 3, 1, 0] rfl ?_
  refine L4 8 0 (0 : Int32) (by omega) (fun y3 h2 => ?_)
  refine wk_iload_n F dX1_familyOf_32 rfl 0 rfl (pc' := 33) rfl ?_
  exact hret _ _ _ dX1_familyOf_33 rfl (Eq.symm (by rw [f1_familyOf] <;> exact (st_let h2 rfl)))
def f1_longestLineFrom_L4 (σ : PS) (p1 : Int32) : Nat → Nat → Int32 → Int32
  | 0, i, x2 => x2
  | n + 1, i, x2 => f1_longestLineFrom_L4 σ p1 n (i + 1) (if x2 < (f1_stepsUp σ (nI i) p1) then (f1_stepsUp σ (nI i) p1) else x2)
def f1_longestLineFrom (σ : PS) (p1 : Int32) : Int32 := (sq (f1_longestLineFrom_L4 σ p1 8 0 (0 : Int32)) (fun (y2 : Int32) => y2))
set_option maxHeartbeats 4000000 in
set_option maxRecDepth 100000 in
theorem c1_longestLineFrom (l : Launch) (D : va_G) (cI cP : ClassId) (hs : Nat → Nat) (σ : PS) (p1 : Int32) : CP l yX1_longestLineFrom wsX1_longestLineFrom ({ frames := 2, cells := 0, slots := 0, locals := 45 } : Room) D (cty cI cP) (wPool cI hs) σ [.ref (hs 0), .int p1] (f1_longestLineFrom σ p1) := by
  refine CP.of (cc := cX1_longestLineFrom) (maxL := 4) (rt := .int) (own := RX1) (lv0 := [(0, .ref (hs 0)), (1, .int p1)]) pnX1 rfl rfl (Nat.le_of_ble_eq_true rfl) rfl (fun p e s m args below meth c A Q F hret => ?_)
  have w_1 := F.at (x := Cond.methodLink RX1 91 Lib.Math.max.name) 1 rfl
  have w_2 := F.at (x := Cond.static Lib.Math.max.name) 2 rfl
  have w_3 := F.at (x := Cond.initialized "java/lang/Math") 3 rfl
  have w_4 := F.at (x := Cond.code Lib.Math.max.name Lib.Math.max.code 2 (some .int)) 4 rfl
  have L4 : ∀ (n : Nat) (i : Nat) (x2 : Int32), i + n = 8 → (∀ (y2 : Int32), f1_longestLineFrom_L4 σ p1 n i x2 = y2 → Wk p l e ({ frames := 2, cells := 0, slots := 0, locals := 45 } : Room) s m args below meth c 4 D A 0 0 Q (wPool cI hs σ) [(2, .int y2)] 27 []) → Wk p l e ({ frames := 2, cells := 0, slots := 0, locals := 45 } : Room) s m args below meth c 4 D A 0 0 Q (wPool cI hs σ) [(0, .ref (hs 0)), (1, .int p1), (2, .int x2), (3, .int (nI i))] 4 [] := by
    intro n
    induction n with
    | zero =>
      intro i x2 hi kx
      refine wk_iload_n F dX1_longestLineFrom_4 rfl 3 rfl (pc' := 5) rfl ?_
      refine wk_bipush F dX1_longestLineFrom_5 bp_8 (pc' := 7) rfl ?_
      refine wk_icmp_ge (tgt := 27) F dX1_longestLineFrom_7 (by decide) (pc' := 10) rfl (fun _ => ?_) (fun c => absurd ((nI_leI (a := 8) (b := i) (by omega) (by omega)).mpr (by omega)) c)
      refine wk_lv [2] rfl ?_
      exact kx x2 (by rw [f1_longestLineFrom_L4] <;> exact rfl)
    | succ n ih =>
      intro i x2 hi kx
      refine wk_iload_n F dX1_longestLineFrom_4 rfl 3 rfl (pc' := 5) rfl ?_
      refine wk_bipush F dX1_longestLineFrom_5 bp_8 (pc' := 7) rfl ?_
      refine wk_icmp_ge (tgt := 27) F dX1_longestLineFrom_7 (by decide) (pc' := 10) rfl (fun c => absurd ((nI_leI (a := 8) (b := i) (by omega) (by omega)).mp c) (by omega)) (fun _ => ?_)
      refine wk_iload_n F dX1_longestLineFrom_10 rfl 2 rfl (pc' := 11) rfl ?_
      refine wk_aload_n F dX1_longestLineFrom_11 rfl 0 rfl (pc' := 12) rfl ?_
      refine wk_iload_n F dX1_longestLineFrom_12 rfl 3 rfl (pc' := 13) rfl ?_
      refine wk_iload_n F dX1_longestLineFrom_13 rfl 1 rfl (pc' := 14) rfl ?_
      refine wk_same_p F (c1_stepsUp l D cI cP hs σ (nI i) p1) (cwV 2 F.hts gX1_longestLineFrom_X1_stepsUp rfl rfl rfl hdX1_stepsUp ⟨Nat.le_of_ble_eq_true rfl, Nat.le_of_ble_eq_true rfl⟩) 0 1 rfl rfl rfl rfl (Nat.le_of_ble_eq_true rfl) dX1_longestLineFrom_14 ⟨Nat.zero_le _, Nat.zero_le _⟩ (pc' := 17) rfl ?_
      refine wk_mmax F w_1 w_2 w_3 w_4 (Nat.le_of_ble_eq_true rfl) (Nat.le_of_ble_eq_true rfl) (Nat.zero_le _) (Nat.zero_le _) dX1_longestLineFrom_17 (pc' := 20) rfl ?_
      refine wk_istore_n (lv' := [(2, .int (if x2 < (f1_stepsUp σ (nI i) p1) then (f1_stepsUp σ (nI i) p1) else x2)), (0, .ref (hs 0)), (1, .int p1), (3, .int (nI i))]) F dX1_longestLineFrom_20 rfl (Nat.le_of_ble_eq_true rfl) rfl (pc' := 21) rfl ?_
      refine wk_iinc (k := 3) (v := nI (i + 1)) (lv' := [(3, .int (nI (i + 1))), (2, .int (if x2 < (f1_stepsUp σ (nI i) p1) then (f1_stepsUp σ (nI i) p1) else x2)), (0, .ref (hs 0)), (1, .int p1)]) F dX1_longestLineFrom_21 rfl (nI_inc i) (Nat.le_of_ble_eq_true rfl) rfl (pc' := 24) rfl ?_
      refine wk_goto (tgt := 4) F dX1_longestLineFrom_24 (by decide) ?_
      refine wk_lv [2, 3, 1, 0] rfl ?_
      exact ih (i + 1) (if x2 < (f1_stepsUp σ (nI i) p1) then (f1_stepsUp σ (nI i) p1) else x2) (by omega) (fun y2_ h_ => kx y2_ (Eq.trans (by rw [f1_longestLineFrom_L4] <;> exact rfl) h_))
  refine wk_iconst F dX1_longestLineFrom_0 ic_0 (pc' := 1) rfl ?_
  refine wk_istore_n (lv' := [(2, .int (0 : Int32)), (0, .ref (hs 0)), (1, .int p1)]) F dX1_longestLineFrom_1 rfl (Nat.le_of_ble_eq_true rfl) rfl (pc' := 2) rfl ?_
  refine wk_iconst F dX1_longestLineFrom_2 ic_0 (pc' := 3) rfl ?_
  refine wk_istore_n (lv' := [(3, .int (0 : Int32)), (2, .int (0 : Int32)), (0, .ref (hs 0)), (1, .int p1)]) F dX1_longestLineFrom_3 rfl (Nat.le_of_ble_eq_true rfl) rfl (pc' := 4) rfl ?_
  refine wk_lv [2, 3, 1, 0] rfl ?_
  refine L4 8 0 (0 : Int32) (by omega) (fun y2 h1 => ?_)
  refine wk_iload_n F dX1_longestLineFrom_27 rfl 0 rfl (pc' := 28) rfl ?_
  exact hret _ _ _ dX1_longestLineFrom_28 rfl (Eq.symm (by rw [f1_longestLineFrom] <;> exact (st_let h1 rfl)))
def f1_available (σ : PS) : Int32 := (f1_freePieces σ) - (f1_allPromises σ)
set_option maxHeartbeats 4000000 in
set_option maxRecDepth 100000 in
theorem c1_available (l : Launch) (D : va_G) (cI cP : ClassId) (hs : Nat → Nat) (σ : PS) : CP l yX1_available wsX1_available ({ frames := 1, cells := 0, slots := 0, locals := 22 } : Room) D (cty cI cP) (wPool cI hs) σ [.ref (hs 0)] (f1_available σ) := by
  refine CP.of (cc := cX1_available) (maxL := 1) (rt := .int) (own := RX1) (lv0 := [(0, .ref (hs 0))]) pnX1 rfl rfl (Nat.le_of_ble_eq_true rfl) rfl (fun p e s m args below meth c A Q F hret => ?_)
  refine wk_aload_n F dX1_available_0 rfl 0 rfl (pc' := 1) rfl ?_
  refine wk_same_p F (c1_freePieces l D cI cP hs σ) (cwV 0 F.hts gX1_available_X1_freePieces rfl rfl rfl hdX1_freePieces ⟨Nat.le_of_ble_eq_true rfl, Nat.le_of_ble_eq_true rfl⟩) 0 1 rfl rfl rfl rfl (Nat.le_of_ble_eq_true rfl) dX1_available_1 ⟨Nat.zero_le _, Nat.zero_le _⟩ (pc' := 4) rfl ?_
  refine wk_aload_n F dX1_available_4 rfl 0 rfl (pc' := 5) rfl ?_
  refine wk_same_p F (c1_allPromises l D cI cP hs σ) (cwV 0 F.hts gX1_available_X1_allPromises rfl rfl rfl hdX1_allPromises ⟨Nat.le_of_ble_eq_true rfl, Nat.le_of_ble_eq_true rfl⟩) 0 1 rfl rfl rfl rfl (Nat.le_of_ble_eq_true rfl) dX1_available_5 ⟨Nat.zero_le _, Nat.zero_le _⟩ (pc' := 8) rfl ?_
  refine wk_isub F dX1_available_8 (pc' := 9) rfl ?_
  exact hret _ _ _ dX1_available_9 rfl (Eq.symm (by rw [f1_available] <;> exact rfl))
def f1_levelWith (σ : PS) (p1 : Int32) : Int32 := (if (σ 9 1) < p1 then (if (σ 9 0) < p1 then (0 : Int32) else (1 : Int32)) else (2 : Int32))
set_option maxHeartbeats 4000000 in
set_option maxRecDepth 100000 in
theorem c1_levelWith (l : Launch) (D : va_G) (cI cP : ClassId) (hs : Nat → Nat) (σ : PS) (p1 : Int32) : CP l yX1_levelWith wsX1_levelWith ({ frames := 0, cells := 0, slots := 0, locals := 0 } : Room) D (cty cI cP) (wPool cI hs) σ [.ref (hs 0), .int p1] (f1_levelWith σ p1) := by
  refine CP.of (cc := cX1_levelWith) (maxL := 2) (rt := .int) (own := RX1) (lv0 := [(0, .ref (hs 0)), (1, .int p1)]) pnX1 rfl rfl (Nat.le_of_ble_eq_true rfl) rfl (fun p e s m args below meth c A Q F hret => ?_)
  have w_1 := F.at (x := Cond.fieldLink RX1 39 "ThinVolumes$Pool" "settings" "[I") 1 rfl
  have k_1 : ∀ w ∈ wsX10, w ∈ wsX1_levelWith := fun _ h => List.mem_cons_of_mem _ (List.mem_append_right _ (h))
  refine wk_iload_n F dX1_levelWith_0 rfl 1 rfl (pc' := 1) rfl ?_
  refine wk_aload_n F dX1_levelWith_1 rfl 0 rfl (pc' := 2) rfl ?_
  refine wk_get (C := RX1) (T := TX1) (N := 14) F 0 rfl rfl k_1 9 (Nat.le_of_ble_eq_true rfl) w_1 rfl dX1_levelWith_2 (pc' := 5) rfl ?_
  refine wk_iconst F dX1_levelWith_5 ic_1 (pc' := 6) rfl ?_
  refine wk_iald_n (i := 1) F 10 0 rfl rfl (by omega) (Nat.le_of_ble_eq_true rfl) dX1_levelWith_6 (pc' := 7) rfl ?_
  refine wk_icmp_gt (tgt := 12) F dX1_levelWith_7 (by decide) (pc' := 10) rfl (fun c1 => ?_) (fun c1 => ?_)
  · refine wk_iload_n F dX1_levelWith_12 rfl 1 rfl (pc' := 13) rfl ?_
    refine wk_aload_n F dX1_levelWith_13 rfl 0 rfl (pc' := 14) rfl ?_
    refine wk_get (C := RX1) (T := TX1) (N := 14) F 0 rfl rfl k_1 9 (Nat.le_of_ble_eq_true rfl) w_1 rfl dX1_levelWith_14 (pc' := 17) rfl ?_
    refine wk_iconst F dX1_levelWith_17 ic_0 (pc' := 18) rfl ?_
    refine wk_iald_n (i := 0) F 10 0 rfl rfl (by omega) (Nat.le_of_ble_eq_true rfl) dX1_levelWith_18 (pc' := 19) rfl ?_
    refine wk_icmp_gt (tgt := 26) F dX1_levelWith_19 (by decide) (pc' := 22) rfl (fun c2 => ?_) (fun c2 => ?_)
    · refine wk_iconst F dX1_levelWith_26 ic_0 (pc' := 27) rfl ?_
      exact hret _ _ _ dX1_levelWith_27 rfl (Eq.symm (by rw [f1_levelWith] <;> exact (st_pos c1 (st_pos c2 rfl))))
    · refine wk_iconst F dX1_levelWith_22 ic_1 (pc' := 23) rfl ?_
      refine wk_goto (tgt := 27) F dX1_levelWith_23 (by decide) ?_
      exact hret _ _ _ dX1_levelWith_27 rfl (Eq.symm (by rw [f1_levelWith] <;> exact (st_pos c1 (st_neg c2 rfl))))
  · refine wk_iconst F dX1_levelWith_10 ic_2 (pc' := 11) rfl ?_
    exact hret _ _ _ dX1_levelWith_11 rfl (Eq.symm (by rw [f1_levelWith] <;> exact (st_neg c1 rfl)))
def f1_level (σ : PS) : Int32 := f1_levelWith σ (f1_available σ)
set_option maxHeartbeats 4000000 in
set_option maxRecDepth 100000 in
theorem c1_level (l : Launch) (D : va_G) (cI cP : ClassId) (hs : Nat → Nat) (σ : PS) : CP l yX1_level wsX1_level ({ frames := 2, cells := 0, slots := 0, locals := 42 } : Room) D (cty cI cP) (wPool cI hs) σ [.ref (hs 0)] (f1_level σ) := by
  refine CP.of (cc := cX1_level) (maxL := 1) (rt := .int) (own := RX1) (lv0 := [(0, .ref (hs 0))]) pnX1 rfl rfl (Nat.le_of_ble_eq_true rfl) rfl (fun p e s m args below meth c A Q F hret => ?_)
  refine wk_aload_n F dX1_level_0 rfl 0 rfl (pc' := 1) rfl ?_
  refine wk_aload_n F dX1_level_1 rfl 0 rfl (pc' := 2) rfl ?_
  refine wk_same_p F (c1_available l D cI cP hs σ) (cwV 0 F.hts gX1_level_X1_available rfl rfl rfl hdX1_available ⟨Nat.le_of_ble_eq_true rfl, Nat.le_of_ble_eq_true rfl⟩) 0 1 rfl rfl rfl rfl (Nat.le_of_ble_eq_true rfl) dX1_level_2 ⟨Nat.zero_le _, Nat.zero_le _⟩ (pc' := 5) rfl ?_
  refine wk_same_p F (c1_levelWith l D cI cP hs σ (f1_available σ)) (cwV 1 F.hts gX1_level_X1_levelWith rfl rfl rfl hdX1_levelWith ⟨Nat.le_of_ble_eq_true rfl, Nat.le_of_ble_eq_true rfl⟩) 0 1 rfl rfl rfl rfl (Nat.le_of_ble_eq_true rfl) dX1_level_5 ⟨Nat.zero_le _, Nat.zero_le _⟩ (pc' := 8) rfl ?_
  exact hret _ _ _ dX1_level_8 rfl (Eq.symm (by rw [f1_level] <;> exact rfl))
def f1_rankWith_L5 (σ : PS) (p1 : Int32) (p2 : Int32) : Nat → Nat → Int32 → Int32
  | 0, i, x3 => x3
  | n + 1, i, x3 => (if p2 < (σ 1 i) then (if (nI i) = p1 then f1_rankWith_L5 σ p1 p2 n (i + 1) x3 else (if (f1_lives σ (nI i)) = 0 then f1_rankWith_L5 σ p1 p2 n (i + 1) x3 else f1_rankWith_L5 σ p1 p2 n (i + 1) (x3 + 1))) else (if (σ 1 i) = p2 then (if p1 ≤ (nI i) then (if (nI i) = p1 then f1_rankWith_L5 σ p1 p2 n (i + 1) x3 else (if (f1_lives σ (nI i)) = 0 then f1_rankWith_L5 σ p1 p2 n (i + 1) x3 else f1_rankWith_L5 σ p1 p2 n (i + 1) x3)) else (if (nI i) = p1 then f1_rankWith_L5 σ p1 p2 n (i + 1) x3 else (if (f1_lives σ (nI i)) = 0 then f1_rankWith_L5 σ p1 p2 n (i + 1) x3 else f1_rankWith_L5 σ p1 p2 n (i + 1) (x3 + 1)))) else (if (nI i) = p1 then f1_rankWith_L5 σ p1 p2 n (i + 1) x3 else (if (f1_lives σ (nI i)) = 0 then f1_rankWith_L5 σ p1 p2 n (i + 1) x3 else f1_rankWith_L5 σ p1 p2 n (i + 1) x3))))
def f1_rankWith (σ : PS) (p1 : Int32) (p2 : Int32) : Int32 := (sq (f1_rankWith_L5 σ p1 p2 8 0 (0 : Int32)) (fun (y13 : Int32) => y13))
set_option maxHeartbeats 4000000 in
set_option maxRecDepth 100000 in
theorem c1_rankWith (l : Launch) (D : va_G) (cI cP : ClassId) (hs : Nat → Nat) (σ : PS) (p1 : Int32) (p2 : Int32) : CP l yX1_rankWith wsX1_rankWith ({ frames := 1, cells := 0, slots := 0, locals := 21 } : Room) D (cty cI cP) (wPool cI hs) σ [.ref (hs 0), .int p1, .int p2] (f1_rankWith σ p1 p2) := by
  refine CP.of (cc := cX1_rankWith) (maxL := 6) (rt := .int) (own := RX1) (lv0 := [(0, .ref (hs 0)), (1, .int p1), (2, .int p2)]) pnX1 rfl rfl (Nat.le_of_ble_eq_true rfl) rfl (fun p e s m args below meth c A Q F hret => ?_)
  have w_1 := F.at (x := Cond.fieldLink RX1 15 "ThinVolumes$Pool" "manners" "[I") 1 rfl
  have k_1 : ∀ w ∈ wsX10, w ∈ wsX1_rankWith := fun _ h => List.mem_cons_of_mem _ (List.mem_append_right _ (h))
  have L5 : ∀ (n : Nat) (i : Nat) (x3 : Int32), i + n = 8 → (∀ (y3 : Int32), f1_rankWith_L5 σ p1 p2 n i x3 = y3 → Wk p l e ({ frames := 1, cells := 0, slots := 0, locals := 21 } : Room) s m args below meth c 6 D A 0 0 Q (wPool cI hs σ) [(3, .int y3)] 76 []) → Wk p l e ({ frames := 1, cells := 0, slots := 0, locals := 21 } : Room) s m args below meth c 6 D A 0 0 Q (wPool cI hs σ) [(0, .ref (hs 0)), (1, .int p1), (2, .int p2), (3, .int x3), (4, .int (nI i))] 5 [] := by
    intro n
    induction n with
    | zero =>
      intro i x3 hi kx
      refine wk_iload F dX1_rankWith_5 4 rfl (pc' := 7) rfl ?_
      refine wk_bipush F dX1_rankWith_7 bp_8 (pc' := 9) rfl ?_
      refine wk_icmp_ge (tgt := 76) F dX1_rankWith_9 (by decide) (pc' := 12) rfl (fun _ => ?_) (fun c => absurd ((nI_leI (a := 8) (b := i) (by omega) (by omega)).mpr (by omega)) c)
      refine wk_lv [3] rfl ?_
      exact kx x3 (by rw [f1_rankWith_L5] <;> exact rfl)
    | succ n ih =>
      intro i x3 hi kx
      refine wk_iload F dX1_rankWith_5 4 rfl (pc' := 7) rfl ?_
      refine wk_bipush F dX1_rankWith_7 bp_8 (pc' := 9) rfl ?_
      refine wk_icmp_ge (tgt := 76) F dX1_rankWith_9 (by decide) (pc' := 12) rfl (fun c => absurd ((nI_leI (a := 8) (b := i) (by omega) (by omega)).mp c) (by omega)) (fun _ => ?_)
      refine wk_aload_n F dX1_rankWith_12 rfl 0 rfl (pc' := 13) rfl ?_
      refine wk_get (C := RX1) (T := TX1) (N := 14) F 0 rfl rfl k_1 1 (Nat.le_of_ble_eq_true rfl) w_1 rfl dX1_rankWith_13 (pc' := 16) rfl ?_
      refine wk_iload F dX1_rankWith_16 4 rfl (pc' := 18) rfl ?_
      refine wk_iald_n (i := i) F 2 0 rfl rfl (by omega) (Nat.le_of_ble_eq_true rfl) dX1_rankWith_18 (pc' := 19) rfl ?_
      refine wk_iload_n F dX1_rankWith_19 rfl 2 rfl (pc' := 20) rfl ?_
      refine wk_icmp_gt (tgt := 40) F dX1_rankWith_20 (by decide) (pc' := 23) rfl (fun c1 => ?_) (fun c1 => ?_)
      · refine wk_iconst F dX1_rankWith_40 ic_1 (pc' := 41) rfl ?_
        refine wk_goto (tgt := 45) F dX1_rankWith_41 (by decide) ?_
        refine wk_istore (lv' := [(5, .int (1 : Int32)), (0, .ref (hs 0)), (1, .int p1), (2, .int p2), (3, .int x3), (4, .int (nI i))]) F dX1_rankWith_45 (Nat.le_of_ble_eq_true rfl) rfl (pc' := 47) rfl ?_
        refine wk_iload F dX1_rankWith_47 5 rfl (pc' := 49) rfl ?_
        refine wk_iload_n F dX1_rankWith_49 rfl 2 rfl (pc' := 50) rfl ?_
        refine wk_icmp_eq (tgt := 70) F dX1_rankWith_50 (by decide) (pc' := 53) rfl (fun c2 => ?_) (fun c2 => ?_)
        · refine wk_iinc (k := 5) (v := nI (i + 1)) (lv' := [(4, .int (nI (i + 1))), (5, .int (1 : Int32)), (0, .ref (hs 0)), (1, .int p1), (2, .int p2), (3, .int x3)]) F dX1_rankWith_70 rfl (nI_inc i) (Nat.le_of_ble_eq_true rfl) rfl (pc' := 73) rfl ?_
          refine wk_goto (tgt := 5) F dX1_rankWith_73 (by decide) ?_
          refine wk_lv [2, 3, 4, 5, 0] rfl ?_
          exact ih (i + 1) x3 (by omega) (fun y3_ h_ => kx y3_ (Eq.trans (by rw [f1_rankWith_L5] <;> exact (st_pos c1 (st_pos c2 rfl))) h_))
        · refine wk_aload_n F dX1_rankWith_53 rfl 1 rfl (pc' := 54) rfl ?_
          refine wk_iload F dX1_rankWith_54 5 rfl (pc' := 56) rfl ?_
          refine wk_same_p F (c1_lives l D cI cP hs σ (nI i)) (cwV 1 F.hts gX1_rankWith_X1_lives rfl rfl rfl hdX1_lives ⟨Nat.le_of_ble_eq_true rfl, Nat.le_of_ble_eq_true rfl⟩) 0 1 rfl rfl rfl rfl (Nat.le_of_ble_eq_true rfl) dX1_rankWith_56 ⟨Nat.zero_le _, Nat.zero_le _⟩ (pc' := 59) rfl ?_
          refine wk_if_eq (tgt := 70) F dX1_rankWith_59 (by decide) (pc' := 62) rfl (fun c3 => ?_) (fun c3 => ?_)
          · refine wk_iinc (k := 5) (v := nI (i + 1)) (lv' := [(4, .int (nI (i + 1))), (5, .int (1 : Int32)), (0, .ref (hs 0)), (1, .int p1), (2, .int p2), (3, .int x3)]) F dX1_rankWith_70 rfl (nI_inc i) (Nat.le_of_ble_eq_true rfl) rfl (pc' := 73) rfl ?_
            refine wk_goto (tgt := 5) F dX1_rankWith_73 (by decide) ?_
            refine wk_lv [2, 3, 4, 5, 0] rfl ?_
            exact ih (i + 1) x3 (by omega) (fun y3_ h_ => kx y3_ (Eq.trans (by rw [f1_rankWith_L5] <;> exact (st_pos c1 (st_neg c2 (st_pos c3 rfl)))) h_))
          · refine wk_iload F dX1_rankWith_62 0 rfl (pc' := 64) rfl ?_
            refine wk_if_eq (tgt := 70) F dX1_rankWith_64 (by decide) (pc' := 67) rfl (fun c => absurd c (by decide)) (fun _ => ?_)
            refine wk_iinc (k := 4) (v := x3 + 1) (lv' := [(3, .int (x3 + 1)), (5, .int (1 : Int32)), (0, .ref (hs 0)), (1, .int p1), (2, .int p2), (4, .int (nI i))]) F dX1_rankWith_67 rfl rfl (Nat.le_of_ble_eq_true rfl) rfl (pc' := 70) rfl ?_
            refine wk_iinc (k := 5) (v := nI (i + 1)) (lv' := [(4, .int (nI (i + 1))), (3, .int (x3 + 1)), (5, .int (1 : Int32)), (0, .ref (hs 0)), (1, .int p1), (2, .int p2)]) F dX1_rankWith_70 rfl (nI_inc i) (Nat.le_of_ble_eq_true rfl) rfl (pc' := 73) rfl ?_
            refine wk_goto (tgt := 5) F dX1_rankWith_73 (by decide) ?_
            refine wk_lv [3, 4, 5, 1, 0] rfl ?_
            exact ih (i + 1) (x3 + 1) (by omega) (fun y3_ h_ => kx y3_ (Eq.trans (by rw [f1_rankWith_L5] <;> exact (st_pos c1 (st_neg c2 (st_neg c3 rfl)))) h_))
      · refine wk_aload_n F dX1_rankWith_23 rfl 0 rfl (pc' := 24) rfl ?_
        refine wk_get (C := RX1) (T := TX1) (N := 14) F 0 rfl rfl k_1 1 (Nat.le_of_ble_eq_true rfl) w_1 rfl dX1_rankWith_24 (pc' := 27) rfl ?_
        refine wk_iload F dX1_rankWith_27 4 rfl (pc' := 29) rfl ?_
        refine wk_iald_n (i := i) F 2 0 rfl rfl (by omega) (Nat.le_of_ble_eq_true rfl) dX1_rankWith_29 (pc' := 30) rfl ?_
        refine wk_iload_n F dX1_rankWith_30 rfl 2 rfl (pc' := 31) rfl ?_
        refine wk_icmp_ne (tgt := 44) F dX1_rankWith_31 (by decide) (pc' := 34) rfl (fun c4 => ?_) (fun c4 => ?_)
        · refine wk_iconst F dX1_rankWith_44 ic_0 (pc' := 45) rfl ?_
          refine wk_istore (lv' := [(5, .int (0 : Int32)), (0, .ref (hs 0)), (1, .int p1), (2, .int p2), (3, .int x3), (4, .int (nI i))]) F dX1_rankWith_45 (Nat.le_of_ble_eq_true rfl) rfl (pc' := 47) rfl ?_
          refine wk_iload F dX1_rankWith_47 5 rfl (pc' := 49) rfl ?_
          refine wk_iload_n F dX1_rankWith_49 rfl 2 rfl (pc' := 50) rfl ?_
          refine wk_icmp_eq (tgt := 70) F dX1_rankWith_50 (by decide) (pc' := 53) rfl (fun c5 => ?_) (fun c5 => ?_)
          · refine wk_iinc (k := 5) (v := nI (i + 1)) (lv' := [(4, .int (nI (i + 1))), (5, .int (0 : Int32)), (0, .ref (hs 0)), (1, .int p1), (2, .int p2), (3, .int x3)]) F dX1_rankWith_70 rfl (nI_inc i) (Nat.le_of_ble_eq_true rfl) rfl (pc' := 73) rfl ?_
            refine wk_goto (tgt := 5) F dX1_rankWith_73 (by decide) ?_
            refine wk_lv [2, 3, 4, 5, 0] rfl ?_
            exact ih (i + 1) x3 (by omega) (fun y3_ h_ => kx y3_ (Eq.trans (by rw [f1_rankWith_L5] <;> exact (st_neg c1 (st_neg c4 (st_pos c5 rfl)))) h_))
          · refine wk_aload_n F dX1_rankWith_53 rfl 1 rfl (pc' := 54) rfl ?_
            refine wk_iload F dX1_rankWith_54 5 rfl (pc' := 56) rfl ?_
            refine wk_same_p F (c1_lives l D cI cP hs σ (nI i)) (cwV 1 F.hts gX1_rankWith_X1_lives rfl rfl rfl hdX1_lives ⟨Nat.le_of_ble_eq_true rfl, Nat.le_of_ble_eq_true rfl⟩) 0 1 rfl rfl rfl rfl (Nat.le_of_ble_eq_true rfl) dX1_rankWith_56 ⟨Nat.zero_le _, Nat.zero_le _⟩ (pc' := 59) rfl ?_
            refine wk_if_eq (tgt := 70) F dX1_rankWith_59 (by decide) (pc' := 62) rfl (fun c6 => ?_) (fun c6 => ?_)
            · refine wk_iinc (k := 5) (v := nI (i + 1)) (lv' := [(4, .int (nI (i + 1))), (5, .int (0 : Int32)), (0, .ref (hs 0)), (1, .int p1), (2, .int p2), (3, .int x3)]) F dX1_rankWith_70 rfl (nI_inc i) (Nat.le_of_ble_eq_true rfl) rfl (pc' := 73) rfl ?_
              refine wk_goto (tgt := 5) F dX1_rankWith_73 (by decide) ?_
              refine wk_lv [2, 3, 4, 5, 0] rfl ?_
              exact ih (i + 1) x3 (by omega) (fun y3_ h_ => kx y3_ (Eq.trans (by rw [f1_rankWith_L5] <;> exact (st_neg c1 (st_neg c4 (st_neg c5 (st_pos c6 rfl))))) h_))
            · refine wk_iload F dX1_rankWith_62 0 rfl (pc' := 64) rfl ?_
              refine wk_if_eq (tgt := 70) F dX1_rankWith_64 (by decide) (pc' := 67) rfl (fun _ => ?_) (fun c => absurd (by decide) c)
              refine wk_iinc (k := 5) (v := nI (i + 1)) (lv' := [(4, .int (nI (i + 1))), (5, .int (0 : Int32)), (0, .ref (hs 0)), (1, .int p1), (2, .int p2), (3, .int x3)]) F dX1_rankWith_70 rfl (nI_inc i) (Nat.le_of_ble_eq_true rfl) rfl (pc' := 73) rfl ?_
              refine wk_goto (tgt := 5) F dX1_rankWith_73 (by decide) ?_
              refine wk_lv [2, 3, 4, 5, 0] rfl ?_
              exact ih (i + 1) x3 (by omega) (fun y3_ h_ => kx y3_ (Eq.trans (by rw [f1_rankWith_L5] <;> exact (st_neg c1 (st_neg c4 (st_neg c5 (st_neg c6 rfl))))) h_))
        · refine wk_iload F dX1_rankWith_34 4 rfl (pc' := 36) rfl ?_
          refine wk_iload_n F dX1_rankWith_36 rfl 1 rfl (pc' := 37) rfl ?_
          refine wk_icmp_ge (tgt := 44) F dX1_rankWith_37 (by decide) (pc' := 40) rfl (fun c7 => ?_) (fun c7 => ?_)
          · refine wk_iconst F dX1_rankWith_44 ic_0 (pc' := 45) rfl ?_
            refine wk_istore (lv' := [(5, .int (0 : Int32)), (0, .ref (hs 0)), (1, .int p1), (2, .int p2), (3, .int x3), (4, .int (nI i))]) F dX1_rankWith_45 (Nat.le_of_ble_eq_true rfl) rfl (pc' := 47) rfl ?_
            refine wk_iload F dX1_rankWith_47 5 rfl (pc' := 49) rfl ?_
            refine wk_iload_n F dX1_rankWith_49 rfl 2 rfl (pc' := 50) rfl ?_
            refine wk_icmp_eq (tgt := 70) F dX1_rankWith_50 (by decide) (pc' := 53) rfl (fun c8 => ?_) (fun c8 => ?_)
            · refine wk_iinc (k := 5) (v := nI (i + 1)) (lv' := [(4, .int (nI (i + 1))), (5, .int (0 : Int32)), (0, .ref (hs 0)), (1, .int p1), (2, .int p2), (3, .int x3)]) F dX1_rankWith_70 rfl (nI_inc i) (Nat.le_of_ble_eq_true rfl) rfl (pc' := 73) rfl ?_
              refine wk_goto (tgt := 5) F dX1_rankWith_73 (by decide) ?_
              refine wk_lv [2, 3, 4, 5, 0] rfl ?_
              exact ih (i + 1) x3 (by omega) (fun y3_ h_ => kx y3_ (Eq.trans (by rw [f1_rankWith_L5] <;> exact (st_neg c1 (st_pos c4 (st_pos c7 (st_pos c8 rfl))))) h_))
            · refine wk_aload_n F dX1_rankWith_53 rfl 1 rfl (pc' := 54) rfl ?_
              refine wk_iload F dX1_rankWith_54 5 rfl (pc' := 56) rfl ?_
              refine wk_same_p F (c1_lives l D cI cP hs σ (nI i)) (cwV 1 F.hts gX1_rankWith_X1_lives rfl rfl rfl hdX1_lives ⟨Nat.le_of_ble_eq_true rfl, Nat.le_of_ble_eq_true rfl⟩) 0 1 rfl rfl rfl rfl (Nat.le_of_ble_eq_true rfl) dX1_rankWith_56 ⟨Nat.zero_le _, Nat.zero_le _⟩ (pc' := 59) rfl ?_
              refine wk_if_eq (tgt := 70) F dX1_rankWith_59 (by decide) (pc' := 62) rfl (fun c9 => ?_) (fun c9 => ?_)
              · refine wk_iinc (k := 5) (v := nI (i + 1)) (lv' := [(4, .int (nI (i + 1))), (5, .int (0 : Int32)), (0, .ref (hs 0)), (1, .int p1), (2, .int p2), (3, .int x3)]) F dX1_rankWith_70 rfl (nI_inc i) (Nat.le_of_ble_eq_true rfl) rfl (pc' := 73) rfl ?_
                refine wk_goto (tgt := 5) F dX1_rankWith_73 (by decide) ?_
                refine wk_lv [2, 3, 4, 5, 0] rfl ?_
                exact ih (i + 1) x3 (by omega) (fun y3_ h_ => kx y3_ (Eq.trans (by rw [f1_rankWith_L5] <;> exact (st_neg c1 (st_pos c4 (st_pos c7 (st_neg c8 (st_pos c9 rfl)))))) h_))
              · refine wk_iload F dX1_rankWith_62 0 rfl (pc' := 64) rfl ?_
                refine wk_if_eq (tgt := 70) F dX1_rankWith_64 (by decide) (pc' := 67) rfl (fun _ => ?_) (fun c => absurd (by decide) c)
                refine wk_iinc (k := 5) (v := nI (i + 1)) (lv' := [(4, .int (nI (i + 1))), (5, .int (0 : Int32)), (0, .ref (hs 0)), (1, .int p1), (2, .int p2), (3, .int x3)]) F dX1_rankWith_70 rfl (nI_inc i) (Nat.le_of_ble_eq_true rfl) rfl (pc' := 73) rfl ?_
                refine wk_goto (tgt := 5) F dX1_rankWith_73 (by decide) ?_
                refine wk_lv [2, 3, 4, 5, 0] rfl ?_
                exact ih (i + 1) x3 (by omega) (fun y3_ h_ => kx y3_ (Eq.trans (by rw [f1_rankWith_L5] <;> exact (st_neg c1 (st_pos c4 (st_pos c7 (st_neg c8 (st_neg c9 rfl)))))) h_))
          · refine wk_iconst F dX1_rankWith_40 ic_1 (pc' := 41) rfl ?_
            refine wk_goto (tgt := 45) F dX1_rankWith_41 (by decide) ?_
            refine wk_istore (lv' := [(5, .int (1 : Int32)), (0, .ref (hs 0)), (1, .int p1), (2, .int p2), (3, .int x3), (4, .int (nI i))]) F dX1_rankWith_45 (Nat.le_of_ble_eq_true rfl) rfl (pc' := 47) rfl ?_
            refine wk_iload F dX1_rankWith_47 5 rfl (pc' := 49) rfl ?_
            refine wk_iload_n F dX1_rankWith_49 rfl 2 rfl (pc' := 50) rfl ?_
            refine wk_icmp_eq (tgt := 70) F dX1_rankWith_50 (by decide) (pc' := 53) rfl (fun c10 => ?_) (fun c10 => ?_)
            · refine wk_iinc (k := 5) (v := nI (i + 1)) (lv' := [(4, .int (nI (i + 1))), (5, .int (1 : Int32)), (0, .ref (hs 0)), (1, .int p1), (2, .int p2), (3, .int x3)]) F dX1_rankWith_70 rfl (nI_inc i) (Nat.le_of_ble_eq_true rfl) rfl (pc' := 73) rfl ?_
              refine wk_goto (tgt := 5) F dX1_rankWith_73 (by decide) ?_
              refine wk_lv [2, 3, 4, 5, 0] rfl ?_
              exact ih (i + 1) x3 (by omega) (fun y3_ h_ => kx y3_ (Eq.trans (by rw [f1_rankWith_L5] <;> exact (st_neg c1 (st_pos c4 (st_neg c7 (st_pos c10 rfl))))) h_))
            · refine wk_aload_n F dX1_rankWith_53 rfl 1 rfl (pc' := 54) rfl ?_
              refine wk_iload F dX1_rankWith_54 5 rfl (pc' := 56) rfl ?_
              refine wk_same_p F (c1_lives l D cI cP hs σ (nI i)) (cwV 1 F.hts gX1_rankWith_X1_lives rfl rfl rfl hdX1_lives ⟨Nat.le_of_ble_eq_true rfl, Nat.le_of_ble_eq_true rfl⟩) 0 1 rfl rfl rfl rfl (Nat.le_of_ble_eq_true rfl) dX1_rankWith_56 ⟨Nat.zero_le _, Nat.zero_le _⟩ (pc' := 59) rfl ?_
              refine wk_if_eq (tgt := 70) F dX1_rankWith_59 (by decide) (pc' := 62) rfl (fun c11 => ?_) (fun c11 => ?_)
              · refine wk_iinc (k := 5) (v := nI (i + 1)) (lv' := [(4, .int (nI (i + 1))), (5, .int (1 : Int32)), (0, .ref (hs 0)), (1, .int p1), (2, .int p2), (3, .int x3)]) F dX1_rankWith_70 rfl (nI_inc i) (Nat.le_of_ble_eq_true rfl) rfl (pc' := 73) rfl ?_
                refine wk_goto (tgt := 5) F dX1_rankWith_73 (by decide) ?_
                refine wk_lv [2, 3, 4, 5, 0] rfl ?_
                exact ih (i + 1) x3 (by omega) (fun y3_ h_ => kx y3_ (Eq.trans (by rw [f1_rankWith_L5] <;> exact (st_neg c1 (st_pos c4 (st_neg c7 (st_neg c10 (st_pos c11 rfl)))))) h_))
              · refine wk_iload F dX1_rankWith_62 0 rfl (pc' := 64) rfl ?_
                refine wk_if_eq (tgt := 70) F dX1_rankWith_64 (by decide) (pc' := 67) rfl (fun c => absurd c (by decide)) (fun _ => ?_)
                refine wk_iinc (k := 4) (v := x3 + 1) (lv' := [(3, .int (x3 + 1)), (5, .int (1 : Int32)), (0, .ref (hs 0)), (1, .int p1), (2, .int p2), (4, .int (nI i))]) F dX1_rankWith_67 rfl rfl (Nat.le_of_ble_eq_true rfl) rfl (pc' := 70) rfl ?_
                refine wk_iinc (k := 5) (v := nI (i + 1)) (lv' := [(4, .int (nI (i + 1))), (3, .int (x3 + 1)), (5, .int (1 : Int32)), (0, .ref (hs 0)), (1, .int p1), (2, .int p2)]) F dX1_rankWith_70 rfl (nI_inc i) (Nat.le_of_ble_eq_true rfl) rfl (pc' := 73) rfl ?_
                refine wk_goto (tgt := 5) F dX1_rankWith_73 (by decide) ?_
                refine wk_lv [3, 4, 5, 1, 0] rfl ?_
                exact ih (i + 1) (x3 + 1) (by omega) (fun y3_ h_ => kx y3_ (Eq.trans (by rw [f1_rankWith_L5] <;> exact (st_neg c1 (st_pos c4 (st_neg c7 (st_neg c10 (st_neg c11 rfl)))))) h_))
  refine wk_iconst F dX1_rankWith_0 ic_0 (pc' := 1) rfl ?_
  refine wk_istore_n (lv' := [(3, .int (0 : Int32)), (0, .ref (hs 0)), (1, .int p1), (2, .int p2)]) F dX1_rankWith_1 rfl (Nat.le_of_ble_eq_true rfl) rfl (pc' := 2) rfl ?_
  refine wk_iconst F dX1_rankWith_2 ic_0 (pc' := 3) rfl ?_
  refine wk_istore (lv' := [(4, .int (0 : Int32)), (3, .int (0 : Int32)), (0, .ref (hs 0)), (1, .int p1), (2, .int p2)]) F dX1_rankWith_3 (Nat.le_of_ble_eq_true rfl) rfl (pc' := 5) rfl ?_
  refine wk_lv [2, 3, 4, 1, 0] rfl ?_
  refine L5 8 0 (0 : Int32) (by omega) (fun y13 h12 => ?_)
  refine wk_iload_n F dX1_rankWith_76 rfl 0 rfl (pc' := 77) rfl ?_
  exact hret _ _ _ dX1_rankWith_77 rfl (Eq.symm (by rw [f1_rankWith] <;> exact (st_let h12 rfl)))
def f1_volumeWithRank_L2 (σ : PS) (p1 : Int32) : Nat → Nat → Int32
  | 0, i => (-1000004 : Int32)
  | n + 1, i => (if (f1_lives σ (nI i)) = 0 then f1_volumeWithRank_L2 σ p1 n (i + 1) else (if (f1_rankWith σ (nI i) (σ 1 i)) = p1 then nI i else f1_volumeWithRank_L2 σ p1 n (i + 1)))
def f1_volumeWithRank (σ : PS) (p1 : Int32) : Int32 := f1_volumeWithRank_L2 σ p1 8 0
set_option maxHeartbeats 4000000 in
set_option maxRecDepth 100000 in
theorem c1_volumeWithRank (l : Launch) (D : va_G) (cI cP : ClassId) (hs : Nat → Nat) (σ : PS) (p1 : Int32) : CP l yX1_volumeWithRank wsX1_volumeWithRank ({ frames := 2, cells := 0, slots := 0, locals := 46 } : Room) D (cty cI cP) (wPool cI hs) σ [.ref (hs 0), .int p1] (f1_volumeWithRank σ p1) := by
  refine CP.of (cc := cX1_volumeWithRank) (maxL := 3) (rt := .int) (own := RX1) (lv0 := [(0, .ref (hs 0)), (1, .int p1)]) pnX1 rfl rfl (Nat.le_of_ble_eq_true rfl) rfl (fun p e s m args below meth c A Q F hret => ?_)
  have w_2 := F.at (x := Cond.constant RX1 112 (-1000004)) 2 rfl
  have w_1 := F.at (x := Cond.fieldLink RX1 15 "ThinVolumes$Pool" "manners" "[I") 1 rfl
  have k_1 : ∀ w ∈ wsX10, w ∈ wsX1_volumeWithRank := fun _ h => List.mem_cons_of_mem _ (List.mem_append_right _ (h))
  have L2 : ∀ (n : Nat) (i : Nat), i + n = 8 → f1_volumeWithRank_L2 σ p1 n i = f1_volumeWithRank σ p1 → Wk p l e ({ frames := 2, cells := 0, slots := 0, locals := 46 } : Room) s m args below meth c 3 D A 0 0 Q (wPool cI hs σ) [(0, .ref (hs 0)), (1, .int p1), (2, .int (nI i))] 2 [] := by
    intro n
    induction n with
    | zero =>
      intro i hi hp
      refine wk_iload_n F dX1_volumeWithRank_2 rfl 2 rfl (pc' := 3) rfl ?_
      refine wk_bipush F dX1_volumeWithRank_3 bp_8 (pc' := 5) rfl ?_
      refine wk_icmp_ge (tgt := 39) F dX1_volumeWithRank_5 (by decide) (pc' := 8) rfl (fun _ => ?_) (fun c => absurd ((nI_leI (a := 8) (b := i) (by omega) (by omega)).mpr (by omega)) c)
      refine wk_ldc F dX1_volumeWithRank_39 w_2 (pc' := 41) rfl ?_
      exact hret _ _ _ dX1_volumeWithRank_41 rfl (Eq.trans (Eq.symm (by rw [f1_volumeWithRank_L2] <;> exact rfl)) hp)
    | succ n ih =>
      intro i hi hp
      refine wk_iload_n F dX1_volumeWithRank_2 rfl 2 rfl (pc' := 3) rfl ?_
      refine wk_bipush F dX1_volumeWithRank_3 bp_8 (pc' := 5) rfl ?_
      refine wk_icmp_ge (tgt := 39) F dX1_volumeWithRank_5 (by decide) (pc' := 8) rfl (fun c => absurd ((nI_leI (a := 8) (b := i) (by omega) (by omega)).mp c) (by omega)) (fun _ => ?_)
      refine wk_aload_n F dX1_volumeWithRank_8 rfl 0 rfl (pc' := 9) rfl ?_
      refine wk_iload_n F dX1_volumeWithRank_9 rfl 2 rfl (pc' := 10) rfl ?_
      refine wk_same_p F (c1_lives l D cI cP hs σ (nI i)) (cwV 1 F.hts gX1_volumeWithRank_X1_lives rfl rfl rfl hdX1_lives ⟨Nat.le_of_ble_eq_true rfl, Nat.le_of_ble_eq_true rfl⟩) 0 1 rfl rfl rfl rfl (Nat.le_of_ble_eq_true rfl) dX1_volumeWithRank_10 ⟨Nat.zero_le _, Nat.zero_le _⟩ (pc' := 13) rfl ?_
      refine wk_if_eq (tgt := 33) F dX1_volumeWithRank_13 (by decide) (pc' := 16) rfl (fun c1 => ?_) (fun c1 => ?_)
      · refine wk_iinc (k := 2) (v := nI (i + 1)) (lv' := [(2, .int (nI (i + 1))), (0, .ref (hs 0)), (1, .int p1)]) F dX1_volumeWithRank_33 rfl (nI_inc i) (Nat.le_of_ble_eq_true rfl) rfl (pc' := 36) rfl ?_
        refine wk_goto (tgt := 2) F dX1_volumeWithRank_36 (by decide) ?_
        refine wk_lv [1, 2, 0] rfl ?_
        exact ih (i + 1) (by omega) (Eq.trans (Eq.symm (by rw [f1_volumeWithRank_L2] <;> exact (st_pos c1 rfl))) hp)
      · refine wk_aload_n F dX1_volumeWithRank_16 rfl 0 rfl (pc' := 17) rfl ?_
        refine wk_iload_n F dX1_volumeWithRank_17 rfl 2 rfl (pc' := 18) rfl ?_
        refine wk_aload_n F dX1_volumeWithRank_18 rfl 0 rfl (pc' := 19) rfl ?_
        refine wk_get (C := RX1) (T := TX1) (N := 14) F 0 rfl rfl k_1 1 (Nat.le_of_ble_eq_true rfl) w_1 rfl dX1_volumeWithRank_19 (pc' := 22) rfl ?_
        refine wk_iload_n F dX1_volumeWithRank_22 rfl 2 rfl (pc' := 23) rfl ?_
        refine wk_iald_n (i := i) F 2 0 rfl rfl (by omega) (Nat.le_of_ble_eq_true rfl) dX1_volumeWithRank_23 (pc' := 24) rfl ?_
        refine wk_same_p F (c1_rankWith l D cI cP hs σ (nI i) (σ 1 i)) (cwV 2 F.hts gX1_volumeWithRank_X1_rankWith rfl rfl rfl hdX1_rankWith ⟨Nat.le_of_ble_eq_true rfl, Nat.le_of_ble_eq_true rfl⟩) 0 1 rfl rfl rfl rfl (Nat.le_of_ble_eq_true rfl) dX1_volumeWithRank_24 ⟨Nat.zero_le _, Nat.zero_le _⟩ (pc' := 27) rfl ?_
        refine wk_iload_n F dX1_volumeWithRank_27 rfl 1 rfl (pc' := 28) rfl ?_
        refine wk_icmp_ne (tgt := 33) F dX1_volumeWithRank_28 (by decide) (pc' := 31) rfl (fun c2 => ?_) (fun c2 => ?_)
        · refine wk_iinc (k := 2) (v := nI (i + 1)) (lv' := [(2, .int (nI (i + 1))), (0, .ref (hs 0)), (1, .int p1)]) F dX1_volumeWithRank_33 rfl (nI_inc i) (Nat.le_of_ble_eq_true rfl) rfl (pc' := 36) rfl ?_
          refine wk_goto (tgt := 2) F dX1_volumeWithRank_36 (by decide) ?_
          refine wk_lv [1, 2, 0] rfl ?_
          exact ih (i + 1) (by omega) (Eq.trans (Eq.symm (by rw [f1_volumeWithRank_L2] <;> exact (st_neg c1 (st_neg c2 rfl)))) hp)
        · refine wk_iload_n F dX1_volumeWithRank_31 rfl 2 rfl (pc' := 32) rfl ?_
          exact hret _ _ _ dX1_volumeWithRank_32 rfl (Eq.trans (Eq.symm (by rw [f1_volumeWithRank_L2] <;> exact (st_neg c1 (st_pos c2 rfl)))) hp)
  refine wk_iconst F dX1_volumeWithRank_0 ic_0 (pc' := 1) rfl ?_
  refine wk_istore_n (lv' := [(2, .int (0 : Int32)), (0, .ref (hs 0)), (1, .int p1)]) F dX1_volumeWithRank_1 rfl (Nat.le_of_ble_eq_true rfl) rfl (pc' := 2) rfl ?_
  refine wk_lv [1, 2, 0] rfl ?_
  exact L2 8 0 (by omega) (Eq.symm (by rw [f1_volumeWithRank] <;> exact rfl))
def f1_wouldGetUnpromised (σ : PS) (p1 : Int32) (p2 : Int32) (p3 : Int32) : Int32 := (if 0 < p3 then (if (f1_levelWith σ p3) = (2 : Int32) then (if (f1_rankWith σ p1 p2) = 0 then (1 : Int32) else (0 : Int32)) else (if (f1_levelWith σ p3) = 0 then (1 : Int32) else (if p2 < (σ 9 2) then (0 : Int32) else (1 : Int32)))) else (0 : Int32))
set_option maxHeartbeats 4000000 in
set_option maxRecDepth 100000 in
theorem c1_wouldGetUnpromised (l : Launch) (D : va_G) (cI cP : ClassId) (hs : Nat → Nat) (σ : PS) (p1 : Int32) (p2 : Int32) (p3 : Int32) : CP l yX1_wouldGetUnpromised wsX1_wouldGetUnpromised ({ frames := 2, cells := 0, slots := 0, locals := 46 } : Room) D (cty cI cP) (wPool cI hs) σ [.ref (hs 0), .int p1, .int p2, .int p3] (f1_wouldGetUnpromised σ p1 p2 p3) := by
  refine CP.of (cc := cX1_wouldGetUnpromised) (maxL := 5) (rt := .boolean) (own := RX1) (lv0 := [(0, .ref (hs 0)), (1, .int p1), (2, .int p2), (3, .int p3)]) pnX1 rfl rfl (Nat.le_of_ble_eq_true rfl) rfl (fun p e s m args below meth c A Q F hret => ?_)
  have w_1 := F.at (x := Cond.fieldLink RX1 39 "ThinVolumes$Pool" "settings" "[I") 1 rfl
  have k_1 : ∀ w ∈ wsX10, w ∈ wsX1_wouldGetUnpromised := fun _ h => List.mem_cons_of_mem _ (List.mem_append_right _ (h))
  refine wk_iload_n F dX1_wouldGetUnpromised_0 rfl 3 rfl (pc' := 1) rfl ?_
  refine wk_if_gt (tgt := 6) F dX1_wouldGetUnpromised_1 (by decide) (pc' := 4) rfl (fun c1 => ?_) (fun c1 => ?_)
  · refine wk_aload_n F dX1_wouldGetUnpromised_6 rfl 0 rfl (pc' := 7) rfl ?_
    refine wk_iload_n F dX1_wouldGetUnpromised_7 rfl 3 rfl (pc' := 8) rfl ?_
    refine wk_same_p F (c1_levelWith l D cI cP hs σ p3) (cwV 1 F.hts gX1_wouldGetUnpromised_X1_levelWith rfl rfl rfl hdX1_levelWith ⟨Nat.le_of_ble_eq_true rfl, Nat.le_of_ble_eq_true rfl⟩) 0 1 rfl rfl rfl rfl (Nat.le_of_ble_eq_true rfl) dX1_wouldGetUnpromised_8 ⟨Nat.zero_le _, Nat.zero_le _⟩ (pc' := 11) rfl ?_
    refine wk_istore (lv' := [(4, .int (f1_levelWith σ p3)), (0, .ref (hs 0)), (1, .int p1), (2, .int p2), (3, .int p3)]) F dX1_wouldGetUnpromised_11 (Nat.le_of_ble_eq_true rfl) rfl (pc' := 13) rfl ?_
    refine wk_iload F dX1_wouldGetUnpromised_13 0 rfl (pc' := 15) rfl ?_
    refine wk_iconst F dX1_wouldGetUnpromised_15 ic_2 (pc' := 16) rfl ?_
    refine wk_icmp_ne (tgt := 34) F dX1_wouldGetUnpromised_16 (by decide) (pc' := 19) rfl (fun c2 => ?_) (fun c2 => ?_)
    · refine wk_iload F dX1_wouldGetUnpromised_34 0 rfl (pc' := 36) rfl ?_
      refine wk_if_eq (tgt := 49) F dX1_wouldGetUnpromised_36 (by decide) (pc' := 39) rfl (fun c3 => ?_) (fun c3 => ?_)
      · refine wk_iconst F dX1_wouldGetUnpromised_49 ic_1 (pc' := 50) rfl ?_
        refine wk_goto (tgt := 54) F dX1_wouldGetUnpromised_50 (by decide) ?_
        exact hret _ _ _ dX1_wouldGetUnpromised_54 rfl (Eq.symm (by rw [f1_wouldGetUnpromised] <;> exact (st_pos c1 (st_neg c2 (st_pos c3 rfl)))))
      · refine wk_iload_n F dX1_wouldGetUnpromised_39 rfl 3 rfl (pc' := 40) rfl ?_
        refine wk_aload_n F dX1_wouldGetUnpromised_40 rfl 1 rfl (pc' := 41) rfl ?_
        refine wk_get (C := RX1) (T := TX1) (N := 14) F 0 rfl rfl k_1 9 (Nat.le_of_ble_eq_true rfl) w_1 rfl dX1_wouldGetUnpromised_41 (pc' := 44) rfl ?_
        refine wk_iconst F dX1_wouldGetUnpromised_44 ic_2 (pc' := 45) rfl ?_
        refine wk_iald_n (i := 2) F 10 0 rfl rfl (by omega) (Nat.le_of_ble_eq_true rfl) dX1_wouldGetUnpromised_45 (pc' := 46) rfl ?_
        refine wk_icmp_lt (tgt := 53) F dX1_wouldGetUnpromised_46 (by decide) (pc' := 49) rfl (fun c4 => ?_) (fun c4 => ?_)
        · refine wk_iconst F dX1_wouldGetUnpromised_53 ic_0 (pc' := 54) rfl ?_
          exact hret _ _ _ dX1_wouldGetUnpromised_54 rfl (Eq.symm (by rw [f1_wouldGetUnpromised] <;> exact (st_pos c1 (st_neg c2 (st_neg c3 (st_pos c4 rfl))))))
        · refine wk_iconst F dX1_wouldGetUnpromised_49 ic_1 (pc' := 50) rfl ?_
          refine wk_goto (tgt := 54) F dX1_wouldGetUnpromised_50 (by decide) ?_
          exact hret _ _ _ dX1_wouldGetUnpromised_54 rfl (Eq.symm (by rw [f1_wouldGetUnpromised] <;> exact (st_pos c1 (st_neg c2 (st_neg c3 (st_neg c4 rfl))))))
    · refine wk_aload_n F dX1_wouldGetUnpromised_19 rfl 1 rfl (pc' := 20) rfl ?_
      refine wk_iload_n F dX1_wouldGetUnpromised_20 rfl 2 rfl (pc' := 21) rfl ?_
      refine wk_iload_n F dX1_wouldGetUnpromised_21 rfl 3 rfl (pc' := 22) rfl ?_
      refine wk_same_p F (c1_rankWith l D cI cP hs σ p1 p2) (cwV 2 F.hts gX1_wouldGetUnpromised_X1_rankWith rfl rfl rfl hdX1_rankWith ⟨Nat.le_of_ble_eq_true rfl, Nat.le_of_ble_eq_true rfl⟩) 0 1 rfl rfl rfl rfl (Nat.le_of_ble_eq_true rfl) dX1_wouldGetUnpromised_22 ⟨Nat.zero_le _, Nat.zero_le _⟩ (pc' := 25) rfl ?_
      refine wk_if_ne (tgt := 32) F dX1_wouldGetUnpromised_25 (by decide) (pc' := 28) rfl (fun c5 => ?_) (fun c5 => ?_)
      · refine wk_iconst F dX1_wouldGetUnpromised_32 ic_0 (pc' := 33) rfl ?_
        exact hret _ _ _ dX1_wouldGetUnpromised_33 rfl (Eq.symm (by rw [f1_wouldGetUnpromised] <;> exact (st_pos c1 (st_pos c2 (st_neg c5 rfl)))))
      · refine wk_iconst F dX1_wouldGetUnpromised_28 ic_1 (pc' := 29) rfl ?_
        refine wk_goto (tgt := 33) F dX1_wouldGetUnpromised_29 (by decide) ?_
        exact hret _ _ _ dX1_wouldGetUnpromised_33 rfl (Eq.symm (by rw [f1_wouldGetUnpromised] <;> exact (st_pos c1 (st_pos c2 (st_pos c5 rfl)))))
  · refine wk_iconst F dX1_wouldGetUnpromised_4 ic_0 (pc' := 5) rfl ?_
    exact hret _ _ _ dX1_wouldGetUnpromised_5 rfl (Eq.symm (by rw [f1_wouldGetUnpromised] <;> exact (st_neg c1 rfl)))
def f1_mannersBehindUnpromised (σ : PS) (p1 : Int32) (p2 : Int32) : Int32 := (if p2 = 0 then p1 else if (p1 - (3 : Int32)) < (0 : Int32) then (0 : Int32) else (p1 - (3 : Int32)))
set_option maxHeartbeats 4000000 in
set_option maxRecDepth 100000 in
theorem c1_mannersBehindUnpromised (l : Launch) (D : va_G) (cI cP : ClassId) (hs : Nat → Nat) (σ : PS) (p1 : Int32) (p2 : Int32) : CP l yX1_mannersBehindUnpromised wsX1_mannersBehindUnpromised ({ frames := 1, cells := 0, slots := 0, locals := 13 } : Room) D (cty cI cP) (wPool cI hs) σ [.ref (hs 0), .int p1, .int p2] (f1_mannersBehindUnpromised σ p1 p2) := by
  refine CP.of (cc := cX1_mannersBehindUnpromised) (maxL := 3) (rt := .int) (own := RX1) (lv0 := [(0, .ref (hs 0)), (1, .int p1), (2, .int p2)]) pnX1 rfl rfl (Nat.le_of_ble_eq_true rfl) rfl (fun p e s m args below meth c A Q F hret => ?_)
  have w_1 := F.at (x := Cond.methodLink RX1 91 Lib.Math.max.name) 1 rfl
  have w_2 := F.at (x := Cond.static Lib.Math.max.name) 2 rfl
  have w_3 := F.at (x := Cond.initialized "java/lang/Math") 3 rfl
  have w_4 := F.at (x := Cond.code Lib.Math.max.name Lib.Math.max.code 2 (some .int)) 4 rfl
  refine wk_iload_n F dX1_mannersBehindUnpromised_0 rfl 2 rfl (pc' := 1) rfl ?_
  refine wk_if_ne (tgt := 8) F dX1_mannersBehindUnpromised_1 (by decide) (pc' := 4) rfl (fun c1 => ?_) (fun c1 => ?_)
  · refine wk_iload_n F dX1_mannersBehindUnpromised_8 rfl 1 rfl (pc' := 9) rfl ?_
    refine wk_iconst F dX1_mannersBehindUnpromised_9 ic_3 (pc' := 10) rfl ?_
    refine wk_isub F dX1_mannersBehindUnpromised_10 (pc' := 11) rfl ?_
    refine wk_iconst F dX1_mannersBehindUnpromised_11 ic_0 (pc' := 12) rfl ?_
    refine wk_mmax F w_1 w_2 w_3 w_4 (Nat.le_of_ble_eq_true rfl) (Nat.le_of_ble_eq_true rfl) (Nat.zero_le _) (Nat.zero_le _) dX1_mannersBehindUnpromised_12 (pc' := 15) rfl ?_
    exact hret _ _ _ dX1_mannersBehindUnpromised_15 rfl (Eq.symm (by rw [f1_mannersBehindUnpromised] <;> exact (st_neg c1 rfl)))
  · refine wk_iload_n F dX1_mannersBehindUnpromised_4 rfl 1 rfl (pc' := 5) rfl ?_
    refine wk_goto (tgt := 15) F dX1_mannersBehindUnpromised_5 (by decide) ?_
    exact hret _ _ _ dX1_mannersBehindUnpromised_15 rfl (Eq.symm (by rw [f1_mannersBehindUnpromised] <;> exact (st_pos c1 rfl)))
theorem le_clamp (x : Int32) : x.toInt ≤ (x.toNatClampNeg : Int) := by
  show x.toInt ≤ ((x.toInt.toNat : Nat) : Int)
  omega
theorem le0_of {x : Int32} (h : x.toInt ≤ 0) : x ≤ 0 := Int32.le_iff_toInt_le.mpr h
theorem dec_le {x : Int32} {n : Nat} (h : ¬ x ≤ 0) (hx : x.toInt ≤ ((n + 1 : Nat) : Int)) : (x + (-1)).toInt ≤ (n : Int) := by
  have h1 : ¬ x < 0 := fun q => h (Int32.le_of_lt q)
  obtain ⟨j, hj, rfl⟩ := nI_of h1
  have hj0 : 0 < j := by
    rcases Nat.eq_zero_or_pos j with rfl | q
    · exact absurd (Int32.le_refl 0) h
    · exact q
  rw [nI_toInt hj] at hx
  have e : nI j + (-1) = nI (j - 1) := nI_dec hj0
  rw [e, nI_toInt (by omega)]
  omega
def f1_piecesInReach_L30 (σ : PS) (p1 : Int32) : Nat → Int32 → Int32 → Int32 → Int32
  | 0, x2, x3, x4 => x2
  | n + 1, x2, x3, x4 => (if x4 ≤ 0 then x2 else (if (f1_wouldGetUnpromised σ p1 x3 x4) = 0 then x2 else f1_piecesInReach_L30 σ p1 n (x2 + 1) (f1_mannersBehindUnpromised σ x3 (f1_levelWith σ x4)) (x4 + (-1))))
def f1_piecesInReach (σ : PS) (p1 : Int32) : Int32 := (if (f1_lives σ p1) = 0 then (0 : Int32) else f1_piecesInReach_L30 σ p1 ((f1_available σ).toNatClampNeg) (σ 2 p1.toNatClampNeg) (σ 1 p1.toNatClampNeg) (f1_available σ))
set_option maxHeartbeats 4000000 in
set_option maxRecDepth 100000 in
theorem c1_piecesInReach (l : Launch) (D : va_G) (cI cP : ClassId) (hs : Nat → Nat) (σ : PS) (p1 : Int32) : CP l yX1_piecesInReach wsX1_piecesInReach ({ frames := 3, cells := 0, slots := 0, locals := 70 } : Room) D (cty cI cP) (wPool cI hs) σ [.ref (hs 0), .int p1] (f1_piecesInReach σ p1) := by
  refine CP.of (cc := cX1_piecesInReach) (maxL := 5) (rt := .int) (own := RX1) (lv0 := [(0, .ref (hs 0)), (1, .int p1)]) pnX1 rfl rfl (Nat.le_of_ble_eq_true rfl) rfl (fun p e s m args below meth c A Q F hret => ?_)
  have w_1 := F.at (x := Cond.fieldLink RX1 18 "ThinVolumes$Pool" "promises" "[I") 1 rfl
  have w_2 := F.at (x := Cond.fieldLink RX1 15 "ThinVolumes$Pool" "manners" "[I") 2 rfl
  have k_1 : ∀ w ∈ wsX10, w ∈ wsX1_piecesInReach := fun _ h => List.mem_cons_of_mem _ (List.mem_append_right _ (h))
  have L30 : ∀ (n : Nat) (x2 : Int32) (x3 : Int32) (x4 : Int32), x4.toInt ≤ (n : Int) → f1_piecesInReach_L30 σ p1 n x2 x3 x4 = f1_piecesInReach σ p1 → Wk p l e ({ frames := 3, cells := 0, slots := 0, locals := 70 } : Room) s m args below meth c 5 D A 0 0 Q (wPool cI hs σ) [(0, .ref (hs 0)), (1, .int p1), (2, .int x2), (3, .int x3), (4, .int x4)] 30 [] := by
    intro n
    induction n with
    | zero =>
      intro x2 x3 x4 hv0 hp
      refine wk_iload F dX1_piecesInReach_30 4 rfl (pc' := 32) rfl ?_
      refine wk_if_le (tgt := 69) F dX1_piecesInReach_32 (by decide) (pc' := 35) rfl (fun _ => ?_) (fun c => absurd (le0_of hv0) c)
      refine wk_iload_n F dX1_piecesInReach_69 rfl 2 rfl (pc' := 70) rfl ?_
      exact hret _ _ _ dX1_piecesInReach_70 rfl (Eq.trans (Eq.symm (by rw [f1_piecesInReach_L30] <;> exact rfl)) hp)
    | succ n ih =>
      intro x2 x3 x4 hv0 hp
      refine wk_iload F dX1_piecesInReach_30 4 rfl (pc' := 32) rfl ?_
      refine wk_if_le (tgt := 69) F dX1_piecesInReach_32 (by decide) (pc' := 35) rfl (fun c1 => ?_) (fun c1 => ?_)
      · refine wk_iload_n F dX1_piecesInReach_69 rfl 2 rfl (pc' := 70) rfl ?_
        exact hret _ _ _ dX1_piecesInReach_70 rfl (Eq.trans (Eq.symm (by rw [f1_piecesInReach_L30] <;> exact (st_pos c1 rfl))) hp)
      · refine wk_aload_n F dX1_piecesInReach_35 rfl 0 rfl (pc' := 36) rfl ?_
        refine wk_iload_n F dX1_piecesInReach_36 rfl 1 rfl (pc' := 37) rfl ?_
        refine wk_iload_n F dX1_piecesInReach_37 rfl 3 rfl (pc' := 38) rfl ?_
        refine wk_iload F dX1_piecesInReach_38 4 rfl (pc' := 40) rfl ?_
        refine wk_same_p F (c1_wouldGetUnpromised l D cI cP hs σ p1 x3 x4) (cwV 3 F.hts gX1_piecesInReach_X1_wouldGetUnpromised rfl rfl rfl hdX1_wouldGetUnpromised ⟨Nat.le_of_ble_eq_true rfl, Nat.le_of_ble_eq_true rfl⟩) 0 1 rfl rfl rfl rfl (Nat.le_of_ble_eq_true rfl) dX1_piecesInReach_40 ⟨Nat.zero_le _, Nat.zero_le _⟩ (pc' := 43) rfl ?_
        refine wk_if_ne (tgt := 48) F dX1_piecesInReach_43 (by decide) (pc' := 46) rfl (fun c2 => ?_) (fun c2 => ?_)
        · refine wk_aload_n F dX1_piecesInReach_48 rfl 0 rfl (pc' := 49) rfl ?_
          refine wk_iload_n F dX1_piecesInReach_49 rfl 3 rfl (pc' := 50) rfl ?_
          refine wk_aload_n F dX1_piecesInReach_50 rfl 0 rfl (pc' := 51) rfl ?_
          refine wk_iload F dX1_piecesInReach_51 4 rfl (pc' := 53) rfl ?_
          refine wk_same_p F (c1_levelWith l D cI cP hs σ x4) (cwV 1 F.hts gX1_piecesInReach_X1_levelWith rfl rfl rfl hdX1_levelWith ⟨Nat.le_of_ble_eq_true rfl, Nat.le_of_ble_eq_true rfl⟩) 0 1 rfl rfl rfl rfl (Nat.le_of_ble_eq_true rfl) dX1_piecesInReach_53 ⟨Nat.zero_le _, Nat.zero_le _⟩ (pc' := 56) rfl ?_
          refine wk_same_p F (c1_mannersBehindUnpromised l D cI cP hs σ x3 (f1_levelWith σ x4)) (cwV 2 F.hts gX1_piecesInReach_X1_mannersBehindUnpromised rfl rfl rfl hdX1_mannersBehindUnpromised ⟨Nat.le_of_ble_eq_true rfl, Nat.le_of_ble_eq_true rfl⟩) 0 1 rfl rfl rfl rfl (Nat.le_of_ble_eq_true rfl) dX1_piecesInReach_56 ⟨Nat.zero_le _, Nat.zero_le _⟩ (pc' := 59) rfl ?_
          refine wk_istore_n (lv' := [(3, .int (f1_mannersBehindUnpromised σ x3 (f1_levelWith σ x4))), (0, .ref (hs 0)), (1, .int p1), (2, .int x2), (4, .int x4)]) F dX1_piecesInReach_59 rfl (Nat.le_of_ble_eq_true rfl) rfl (pc' := 60) rfl ?_
          refine wk_iinc (k := 3) (v := x2 + 1) (lv' := [(2, .int (x2 + 1)), (3, .int (f1_mannersBehindUnpromised σ x3 (f1_levelWith σ x4))), (0, .ref (hs 0)), (1, .int p1), (4, .int x4)]) F dX1_piecesInReach_60 rfl rfl (Nat.le_of_ble_eq_true rfl) rfl (pc' := 63) rfl ?_
          refine wk_iinc (k := 4) (v := x4 + (-1)) (lv' := [(4, .int (x4 + (-1))), (2, .int (x2 + 1)), (3, .int (f1_mannersBehindUnpromised σ x3 (f1_levelWith σ x4))), (0, .ref (hs 0)), (1, .int p1)]) F dX1_piecesInReach_63 rfl rfl (Nat.le_of_ble_eq_true rfl) rfl (pc' := 66) rfl ?_
          refine wk_goto (tgt := 30) F dX1_piecesInReach_66 (by decide) ?_
          refine wk_lv [3, 4, 1, 2, 0] rfl ?_
          exact ih (x2 + 1) (f1_mannersBehindUnpromised σ x3 (f1_levelWith σ x4)) (x4 + (-1)) (dec_le c1 hv0) (Eq.trans (Eq.symm (by rw [f1_piecesInReach_L30] <;> exact (st_neg c1 (st_neg c2 rfl)))) hp)
        · refine wk_iload_n F dX1_piecesInReach_46 rfl 2 rfl (pc' := 47) rfl ?_
          exact hret _ _ _ dX1_piecesInReach_47 rfl (Eq.trans (Eq.symm (by rw [f1_piecesInReach_L30] <;> exact (st_neg c1 (st_pos c2 rfl)))) hp)
  refine wk_aload_n F dX1_piecesInReach_0 rfl 0 rfl (pc' := 1) rfl ?_
  refine wk_iload_n F dX1_piecesInReach_1 rfl 1 rfl (pc' := 2) rfl ?_
  refine wk_same_p F (c1_lives l D cI cP hs σ p1) (cwV 1 F.hts gX1_piecesInReach_X1_lives rfl rfl rfl hdX1_lives ⟨Nat.le_of_ble_eq_true rfl, Nat.le_of_ble_eq_true rfl⟩) 0 1 rfl rfl rfl rfl (Nat.le_of_ble_eq_true rfl) dX1_piecesInReach_2 ⟨Nat.zero_le _, Nat.zero_le _⟩ (pc' := 5) rfl ?_
  refine wk_if_ne (tgt := 10) F dX1_piecesInReach_5 (by decide) (pc' := 8) rfl (fun c3 => ?_) (fun c3 => ?_)
  · refine wk_aload_n F dX1_piecesInReach_10 rfl 0 rfl (pc' := 11) rfl ?_
    refine wk_get (C := RX1) (T := TX1) (N := 14) F 0 rfl rfl k_1 2 (Nat.le_of_ble_eq_true rfl) w_1 rfl dX1_piecesInReach_11 (pc' := 14) rfl ?_
    refine wk_iload_n F dX1_piecesInReach_14 rfl 1 rfl (pc' := 15) rfl ?_
    refine wk_iald F 3 0 rfl rfl (lives_in c3) dX1_piecesInReach_15 (pc' := 16) rfl ?_
    refine wk_istore_n (lv' := [(2, .int (σ 2 p1.toNatClampNeg)), (0, .ref (hs 0)), (1, .int p1)]) F dX1_piecesInReach_16 rfl (Nat.le_of_ble_eq_true rfl) rfl (pc' := 17) rfl ?_
    refine wk_aload_n F dX1_piecesInReach_17 rfl 1 rfl (pc' := 18) rfl ?_
    refine wk_get (C := RX1) (T := TX1) (N := 14) F 0 rfl rfl k_1 1 (Nat.le_of_ble_eq_true rfl) w_2 rfl dX1_piecesInReach_18 (pc' := 21) rfl ?_
    refine wk_iload_n F dX1_piecesInReach_21 rfl 2 rfl (pc' := 22) rfl ?_
    refine wk_iald F 2 0 rfl rfl (lives_in c3) dX1_piecesInReach_22 (pc' := 23) rfl ?_
    refine wk_istore_n (lv' := [(3, .int (σ 1 p1.toNatClampNeg)), (2, .int (σ 2 p1.toNatClampNeg)), (0, .ref (hs 0)), (1, .int p1)]) F dX1_piecesInReach_23 rfl (Nat.le_of_ble_eq_true rfl) rfl (pc' := 24) rfl ?_
    refine wk_aload_n F dX1_piecesInReach_24 rfl 2 rfl (pc' := 25) rfl ?_
    refine wk_same_p F (c1_available l D cI cP hs σ) (cwV 0 F.hts gX1_piecesInReach_X1_available rfl rfl rfl hdX1_available ⟨Nat.le_of_ble_eq_true rfl, Nat.le_of_ble_eq_true rfl⟩) 0 1 rfl rfl rfl rfl (Nat.le_of_ble_eq_true rfl) dX1_piecesInReach_25 ⟨Nat.zero_le _, Nat.zero_le _⟩ (pc' := 28) rfl ?_
    refine wk_istore (lv' := [(4, .int (f1_available σ)), (3, .int (σ 1 p1.toNatClampNeg)), (2, .int (σ 2 p1.toNatClampNeg)), (0, .ref (hs 0)), (1, .int p1)]) F dX1_piecesInReach_28 (Nat.le_of_ble_eq_true rfl) rfl (pc' := 30) rfl ?_
    refine wk_lv [3, 4, 2, 1, 0] rfl ?_
    exact L30 ((f1_available σ).toNatClampNeg) (σ 2 p1.toNatClampNeg) (σ 1 p1.toNatClampNeg) (f1_available σ) (le_clamp _) (Eq.symm (by rw [f1_piecesInReach] <;> exact (st_neg c3 rfl)))
  · refine wk_iconst F dX1_piecesInReach_8 ic_0 (pc' := 9) rfl ?_
    exact hret _ _ _ dX1_piecesInReach_9 rfl (Eq.symm (by rw [f1_piecesInReach] <;> exact (st_pos c3 rfl)))
def f1_highestSetting (σ : PS) (p1 : Int32) : Int32 := (if p1 = (2 : Int32) then (100 : Int32) else (30 : Int32))
set_option maxHeartbeats 4000000 in
set_option maxRecDepth 100000 in
theorem c1_highestSetting (l : Launch) (D : va_G) (cI cP : ClassId) (hs : Nat → Nat) (σ : PS) (p1 : Int32) : CP l yX1_highestSetting wsX1_highestSetting ({ frames := 0, cells := 0, slots := 0, locals := 0 } : Room) D (cty cI cP) (wPool cI hs) σ [.ref (hs 0), .int p1] (f1_highestSetting σ p1) := by
  refine CP.of (cc := cX1_highestSetting) (maxL := 2) (rt := .int) (own := RX1) (lv0 := [(0, .ref (hs 0)), (1, .int p1)]) pnX1 rfl rfl (Nat.le_of_ble_eq_true rfl) rfl (fun p e s m args below meth c A Q F hret => ?_)
  refine wk_iload_n F dX1_highestSetting_0 rfl 1 rfl (pc' := 1) rfl ?_
  refine wk_iconst F dX1_highestSetting_1 ic_2 (pc' := 2) rfl ?_
  refine wk_icmp_ne (tgt := 10) F dX1_highestSetting_2 (by decide) (pc' := 5) rfl (fun c1 => ?_) (fun c1 => ?_)
  · refine wk_bipush F dX1_highestSetting_10 bp_30 (pc' := 12) rfl ?_
    exact hret _ _ _ dX1_highestSetting_12 rfl (Eq.symm (by rw [f1_highestSetting] <;> exact (st_neg c1 rfl)))
  · refine wk_bipush F dX1_highestSetting_5 bp_100 (pc' := 7) rfl ?_
    refine wk_goto (tgt := 12) F dX1_highestSetting_7 (by decide) ?_
    exact hret _ _ _ dX1_highestSetting_12 rfl (Eq.symm (by rw [f1_highestSetting] <;> exact (st_pos c1 rfl)))
def f1_lowestFreePiece_L2 (σ : PS) : Nat → Nat → Int32
  | 0, i => (-1 : Int32)
  | n + 1, i => (if (σ 8 i) = 0 then nI i else f1_lowestFreePiece_L2 σ n (i + 1))
def f1_lowestFreePiece (σ : PS) : Int32 := f1_lowestFreePiece_L2 σ 30 0
set_option maxHeartbeats 4000000 in
set_option maxRecDepth 100000 in
theorem c1_lowestFreePiece (l : Launch) (D : va_G) (cI cP : ClassId) (hs : Nat → Nat) (σ : PS) : CP l yX1_lowestFreePiece wsX1_lowestFreePiece ({ frames := 0, cells := 0, slots := 0, locals := 0 } : Room) D (cty cI cP) (wPool cI hs) σ [.ref (hs 0)] (f1_lowestFreePiece σ) := by
  refine CP.of (cc := cX1_lowestFreePiece) (maxL := 2) (rt := .int) (own := RX1) (lv0 := [(0, .ref (hs 0))]) pnX1 rfl rfl (Nat.le_of_ble_eq_true rfl) rfl (fun p e s m args below meth c A Q F hret => ?_)
  have w_1 := F.at (x := Cond.fieldLink RX1 36 "ThinVolumes$Pool" "owners" "[I") 1 rfl
  have k_1 : ∀ w ∈ wsX10, w ∈ wsX1_lowestFreePiece := fun _ h => List.mem_cons_of_mem _ (List.mem_append_right _ (h))
  have L2 : ∀ (n : Nat) (i : Nat), i + n = 30 → f1_lowestFreePiece_L2 σ n i = f1_lowestFreePiece σ → Wk p l e ({ frames := 0, cells := 0, slots := 0, locals := 0 } : Room) s m args below meth c 2 D A 0 0 Q (wPool cI hs σ) [(0, .ref (hs 0)), (1, .int (nI i))] 2 [] := by
    intro n
    induction n with
    | zero =>
      intro i hi hp
      refine wk_iload_n F dX1_lowestFreePiece_2 rfl 1 rfl (pc' := 3) rfl ?_
      refine wk_bipush F dX1_lowestFreePiece_3 bp_30 (pc' := 5) rfl ?_
      refine wk_icmp_ge (tgt := 25) F dX1_lowestFreePiece_5 (by decide) (pc' := 8) rfl (fun _ => ?_) (fun c => absurd ((nI_leI (a := 30) (b := i) (by omega) (by omega)).mpr (by omega)) c)
      refine wk_iconst F dX1_lowestFreePiece_25 ic_m1 (pc' := 26) rfl ?_
      exact hret _ _ _ dX1_lowestFreePiece_26 rfl (Eq.trans (Eq.symm (by rw [f1_lowestFreePiece_L2] <;> exact rfl)) hp)
    | succ n ih =>
      intro i hi hp
      refine wk_iload_n F dX1_lowestFreePiece_2 rfl 1 rfl (pc' := 3) rfl ?_
      refine wk_bipush F dX1_lowestFreePiece_3 bp_30 (pc' := 5) rfl ?_
      refine wk_icmp_ge (tgt := 25) F dX1_lowestFreePiece_5 (by decide) (pc' := 8) rfl (fun c => absurd ((nI_leI (a := 30) (b := i) (by omega) (by omega)).mp c) (by omega)) (fun _ => ?_)
      refine wk_aload_n F dX1_lowestFreePiece_8 rfl 0 rfl (pc' := 9) rfl ?_
      refine wk_get (C := RX1) (T := TX1) (N := 14) F 0 rfl rfl k_1 8 (Nat.le_of_ble_eq_true rfl) w_1 rfl dX1_lowestFreePiece_9 (pc' := 12) rfl ?_
      refine wk_iload_n F dX1_lowestFreePiece_12 rfl 1 rfl (pc' := 13) rfl ?_
      refine wk_iald_n (i := i) F 9 0 rfl rfl (by omega) (Nat.le_of_ble_eq_true rfl) dX1_lowestFreePiece_13 (pc' := 14) rfl ?_
      refine wk_if_ne (tgt := 19) F dX1_lowestFreePiece_14 (by decide) (pc' := 17) rfl (fun c1 => ?_) (fun c1 => ?_)
      · refine wk_iinc (k := 1) (v := nI (i + 1)) (lv' := [(1, .int (nI (i + 1))), (0, .ref (hs 0))]) F dX1_lowestFreePiece_19 rfl (nI_inc i) (Nat.le_of_ble_eq_true rfl) rfl (pc' := 22) rfl ?_
        refine wk_goto (tgt := 2) F dX1_lowestFreePiece_22 (by decide) ?_
        refine wk_lv [1, 0] rfl ?_
        exact ih (i + 1) (by omega) (Eq.trans (Eq.symm (by rw [f1_lowestFreePiece_L2] <;> exact (st_neg c1 rfl))) hp)
      · refine wk_iload_n F dX1_lowestFreePiece_17 rfl 1 rfl (pc' := 18) rfl ?_
        exact hret _ _ _ dX1_lowestFreePiece_18 rfl (Eq.trans (Eq.symm (by rw [f1_lowestFreePiece_L2] <;> exact (st_pos c1 rfl))) hp)
  refine wk_iconst F dX1_lowestFreePiece_0 ic_0 (pc' := 1) rfl ?_
  refine wk_istore_n (lv' := [(1, .int (0 : Int32)), (0, .ref (hs 0))]) F dX1_lowestFreePiece_1 rfl (Nat.le_of_ble_eq_true rfl) rfl (pc' := 2) rfl ?_
  refine wk_lv [1, 0] rfl ?_
  exact L2 30 0 (by omega) (Eq.symm (by rw [f1_lowestFreePiece] <;> exact rfl))
