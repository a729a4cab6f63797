def f1_lives (σ : PS) (p1 : Int32) : Int32 := (if p1 < 0 then (0 : Int32) else (if (8 : Int32) ≤ p1 then (0 : Int32) else (if (σ 0 p1.toNatClampNeg) ≤ 0 then (0 : Int32) else (1 : Int32))))
set_option maxHeartbeats 4000000 in
set_option maxRecDepth 100000 in
theorem c1_lives (l : Launch) (D : va_G) (cI cP : ClassId) (hs : Nat → Nat) (σ : PS) (p1 : Int32) : CP l yX1_lives wsX1_lives ({ frames := 0, cells := 0, slots := 0, locals := 0 } : Room) D (cty cI cP) (wPool cI hs) σ [.ref (hs 0), .int p1] (f1_lives σ p1) := by
  refine CP.of (cc := cX1_lives) (maxL := 2) (rt := .boolean) (own := RX1) (lv0 := [(0, .ref (hs 0)), (1, .int p1)]) pnX1 rfl rfl (Nat.le_of_ble_eq_true rfl) rfl (fun p e s m args below meth c A Q F hret => ?_)
  have w_1 := F.at (x := Cond.fieldLink RX1 9 "ThinVolumes$Pool" "sizes" "[I") 1 rfl
  have k_1 : ∀ w ∈ wsX10, w ∈ wsX1_lives := fun _ h => List.mem_cons_of_mem _ (List.mem_append_right _ (h))
  refine wk_iload_n F dX1_lives_0 rfl 1 rfl (pc' := 1) rfl ?_
  refine wk_if_lt (tgt := 23) F dX1_lives_1 (by decide) (pc' := 4) rfl (fun c1 => ?_) (fun c1 => ?_)
  · refine wk_iconst F dX1_lives_23 ic_0 (pc' := 24) rfl ?_
    exact hret _ _ _ dX1_lives_24 rfl (by simp only [f1_lives, if_pos c1])
  · refine wk_iload_n F dX1_lives_4 rfl 1 rfl (pc' := 5) rfl ?_
    refine wk_bipush F dX1_lives_5 bp_8 (pc' := 7) rfl ?_
    refine wk_icmp_ge (tgt := 23) F dX1_lives_7 (by decide) (pc' := 10) rfl (fun c2 => ?_) (fun c2 => ?_)
    · refine wk_iconst F dX1_lives_23 ic_0 (pc' := 24) rfl ?_
      exact hret _ _ _ dX1_lives_24 rfl (by simp only [f1_lives, if_neg c1, if_pos c2])
    · refine wk_aload_n F dX1_lives_10 rfl 0 rfl (pc' := 11) rfl ?_
      refine wk_get (C := RX1) (T := TX1) (N := 14) F 0 rfl rfl k_1 0 (Nat.le_of_ble_eq_true rfl) w_1 rfl dX1_lives_11 (pc' := 14) rfl ?_
      refine wk_iload_n F dX1_lives_14 rfl 1 rfl (pc' := 15) rfl ?_
      refine wk_iald F 1 0 rfl rfl (vin c1 c2 (Nat.le_of_ble_eq_true rfl)) dX1_lives_15 (pc' := 16) rfl ?_
      refine wk_if_le (tgt := 23) F dX1_lives_16 (by decide) (pc' := 19) rfl (fun c3 => ?_) (fun c3 => ?_)
      · refine wk_iconst F dX1_lives_23 ic_0 (pc' := 24) rfl ?_
        exact hret _ _ _ dX1_lives_24 rfl (by simp only [f1_lives, if_neg c1, if_neg c2, if_pos c3])
      · refine wk_iconst F dX1_lives_19 ic_1 (pc' := 20) rfl ?_
        refine wk_goto (tgt := 24) F dX1_lives_20 (by decide) ?_
        exact hret _ _ _ dX1_lives_24 rfl (by simp only [f1_lives, if_neg c1, if_neg c2, if_neg c3])
theorem lives_in {σ : PS} {x : Int32} (h : ¬ f1_lives σ x = 0) : vp_in x 8 := by
  unfold f1_lives at h
  split at h
  · exact absurd rfl h
  · split at h
    · exact absurd rfl h
    · exact vin (by assumption) (by assumption) (by decide)
def f1_hasPlace (σ : PS) (p1 : Int32) (p2 : Int32) : Int32 := (if (f1_lives σ p1) = 0 then (0 : Int32) else (if p2 < 0 then (0 : Int32) else (if (σ 0 p1.toNatClampNeg) ≤ p2 then (0 : Int32) else (if (40 : Int32) ≤ p2 then (0 : Int32) else (1 : Int32)))))
set_option maxHeartbeats 4000000 in
set_option maxRecDepth 100000 in
theorem c1_hasPlace (l : Launch) (D : va_G) (cI cP : ClassId) (hs : Nat → Nat) (σ : PS) (p1 : Int32) (p2 : Int32) : CP l yX1_hasPlace wsX1_hasPlace ({ frames := 1, cells := 0, slots := 0, locals := 21 } : Room) D (cty cI cP) (wPool cI hs) σ [.ref (hs 0), .int p1, .int p2] (f1_hasPlace σ p1 p2) := by
  refine CP.of (cc := cX1_hasPlace) (maxL := 3) (rt := .boolean) (own := RX1) (lv0 := [(0, .ref (hs 0)), (1, .int p1), (2, .int p2)]) pnX1 rfl rfl (Nat.le_of_ble_eq_true rfl) rfl (fun p e s m args below meth c A Q F hret => ?_)
  have w_1 := F.at (x := Cond.fieldLink RX1 9 "ThinVolumes$Pool" "sizes" "[I") 1 rfl
  have k_1 : ∀ w ∈ wsX10, w ∈ wsX1_hasPlace := fun _ h => List.mem_cons_of_mem _ (List.mem_append_right _ (h))
  refine wk_aload_n F dX1_hasPlace_0 rfl 0 rfl (pc' := 1) rfl ?_
  refine wk_iload_n F dX1_hasPlace_1 rfl 1 rfl (pc' := 2) rfl ?_
  refine wk_same_p F (c1_lives l D cI cP hs σ p1) (cwV 1 F.hts gX1_hasPlace_X1_lives rfl rfl rfl hdX1_lives ⟨Nat.le_of_ble_eq_true rfl, Nat.le_of_ble_eq_true rfl⟩) 0 1 rfl rfl rfl rfl (Nat.le_of_ble_eq_true rfl) dX1_hasPlace_2 ⟨Nat.zero_le _, Nat.zero_le _⟩ (pc' := 5) rfl ?_
  refine wk_if_eq (tgt := 32) F dX1_hasPlace_5 (by decide) (pc' := 8) rfl (fun c1 => ?_) (fun c1 => ?_)
  · refine wk_iconst F dX1_hasPlace_32 ic_0 (pc' := 33) rfl ?_
    exact hret _ _ _ dX1_hasPlace_33 rfl (by simp only [f1_hasPlace, if_pos c1])
  · refine wk_iload_n F dX1_hasPlace_8 rfl 2 rfl (pc' := 9) rfl ?_
    refine wk_if_lt (tgt := 32) F dX1_hasPlace_9 (by decide) (pc' := 12) rfl (fun c2 => ?_) (fun c2 => ?_)
    · refine wk_iconst F dX1_hasPlace_32 ic_0 (pc' := 33) rfl ?_
      exact hret _ _ _ dX1_hasPlace_33 rfl (by simp only [f1_hasPlace, if_neg c1, if_pos c2])
    · refine wk_iload_n F dX1_hasPlace_12 rfl 2 rfl (pc' := 13) rfl ?_
      refine wk_aload_n F dX1_hasPlace_13 rfl 0 rfl (pc' := 14) rfl ?_
      refine wk_get (C := RX1) (T := TX1) (N := 14) F 0 rfl rfl k_1 0 (Nat.le_of_ble_eq_true rfl) w_1 rfl dX1_hasPlace_14 (pc' := 17) rfl ?_
      refine wk_iload_n F dX1_hasPlace_17 rfl 1 rfl (pc' := 18) rfl ?_
      refine wk_iald F 1 0 rfl rfl (lives_in c1) dX1_hasPlace_18 (pc' := 19) rfl ?_
      refine wk_icmp_ge (tgt := 32) F dX1_hasPlace_19 (by decide) (pc' := 22) rfl (fun c3 => ?_) (fun c3 => ?_)
      · refine wk_iconst F dX1_hasPlace_32 ic_0 (pc' := 33) rfl ?_
        exact hret _ _ _ dX1_hasPlace_33 rfl (by simp only [f1_hasPlace, if_neg c1, if_neg c2, if_pos c3])
      · refine wk_iload_n F dX1_hasPlace_22 rfl 2 rfl (pc' := 23) rfl ?_
        refine wk_bipush F dX1_hasPlace_23 bp_40 (pc' := 25) rfl ?_
        refine wk_icmp_ge (tgt := 32) F dX1_hasPlace_25 (by decide) (pc' := 28) rfl (fun c4 => ?_) (fun c4 => ?_)
        · refine wk_iconst F dX1_hasPlace_32 ic_0 (pc' := 33) rfl ?_
          exact hret _ _ _ dX1_hasPlace_33 rfl (by simp only [f1_hasPlace, if_neg c1, if_neg c2, if_neg c3, if_pos c4])
        · refine wk_iconst F dX1_hasPlace_28 ic_1 (pc' := 29) rfl ?_
          refine wk_goto (tgt := 33) F dX1_hasPlace_29 (by decide) ?_
          exact hret _ _ _ dX1_hasPlace_33 rfl (by simp only [f1_hasPlace, if_neg c1, if_neg c2, if_neg c3, if_neg c4])
def f1_isPiece (σ : PS) (p1 : Int32) : Int32 := (if p1 < 0 then (0 : Int32) else (if (30 : Int32) ≤ p1 then (0 : Int32) else (1 : Int32)))
set_option maxHeartbeats 4000000 in
set_option maxRecDepth 100000 in
theorem c1_isPiece (l : Launch) (D : va_G) (cI cP : ClassId) (hs : Nat → Nat) (σ : PS) (p1 : Int32) : CP l yX1_isPiece wsX1_isPiece ({ frames := 0, cells := 0, slots := 0, locals := 0 } : Room) D (cty cI cP) (wPool cI hs) σ [.ref (hs 0), .int p1] (f1_isPiece σ p1) := by
  refine CP.of (cc := cX1_isPiece) (maxL := 2) (rt := .boolean) (own := RX1) (lv0 := [(0, .ref (hs 0)), (1, .int p1)]) pnX1 rfl rfl (Nat.le_of_ble_eq_true rfl) rfl (fun p e s m args below meth c A Q F hret => ?_)
  refine wk_iload_n F dX1_isPiece_0 rfl 1 rfl (pc' := 1) rfl ?_
  refine wk_if_lt (tgt := 14) F dX1_isPiece_1 (by decide) (pc' := 4) rfl (fun c1 => ?_) (fun c1 => ?_)
  · refine wk_iconst F dX1_isPiece_14 ic_0 (pc' := 15) rfl ?_
    exact hret _ _ _ dX1_isPiece_15 rfl (by simp only [f1_isPiece, if_pos c1])
  · refine wk_iload_n F dX1_isPiece_4 rfl 1 rfl (pc' := 5) rfl ?_
    refine wk_bipush F dX1_isPiece_5 bp_30 (pc' := 7) rfl ?_
    refine wk_icmp_ge (tgt := 14) F dX1_isPiece_7 (by decide) (pc' := 10) rfl (fun c2 => ?_) (fun c2 => ?_)
    · refine wk_iconst F dX1_isPiece_14 ic_0 (pc' := 15) rfl ?_
      exact hret _ _ _ dX1_isPiece_15 rfl (by simp only [f1_isPiece, if_neg c1, if_pos c2])
    · refine wk_iconst F dX1_isPiece_10 ic_1 (pc' := 11) rfl ?_
      refine wk_goto (tgt := 15) F dX1_isPiece_11 (by decide) ?_
      exact hret _ _ _ dX1_isPiece_15 rfl (by simp only [f1_isPiece, if_neg c1, if_neg c2])
def f1_volumesThatLive_L4 (σ : PS) : Nat → Nat → Int32 → Int32
  | 0, i, x1 => x1
  | n + 1, i, x1 => (if (f1_lives σ (nI i)) = 0 then f1_volumesThatLive_L4 σ n (i + 1) x1 else f1_volumesThatLive_L4 σ n (i + 1) (x1 + 1))
def f1_volumesThatLive (σ : PS) : Int32 := ((fun (y3 : Int32) => y3) (f1_volumesThatLive_L4 σ 8 0 (0 : Int32)))
set_option maxHeartbeats 4000000 in
set_option maxRecDepth 100000 in
theorem c1_volumesThatLive (l : Launch) (D : va_G) (cI cP : ClassId) (hs : Nat → Nat) (σ : PS) : CP l yX1_volumesThatLive wsX1_volumesThatLive ({ frames := 1, cells := 0, slots := 0, locals := 21 } : Room) D (cty cI cP) (wPool cI hs) σ [.ref (hs 0)] (f1_volumesThatLive σ) := by
  refine CP.of (cc := cX1_volumesThatLive) (maxL := 3) (rt := .int) (own := RX1) (lv0 := [(0, .ref (hs 0))]) pnX1 rfl rfl (Nat.le_of_ble_eq_true rfl) rfl (fun p e s m args below meth c A Q F hret => ?_)
  have L4 : ∀ (n : Nat) (i : Nat) (x1 : Int32), i + n = 8 → (∀ (y1 : Int32), f1_volumesThatLive_L4 σ n i x1 = y1 → Wk p l e ({ frames := 1, cells := 0, slots := 0, locals := 21 } : Room) s m args below meth c 3 D A 0 0 Q (wPool cI hs σ) [(1, .int y1)] 27 []) → Wk p l e ({ frames := 1, cells := 0, slots := 0, locals := 21 } : Room) s m args below meth c 3 D A 0 0 Q (wPool cI hs σ) [(0, .ref (hs 0)), (1, .int x1), (2, .int (nI i))] 4 [] := by
    intro n
    induction n with
    | zero =>
      intro i x1 hi kx
      refine wk_iload_n F dX1_volumesThatLive_4 rfl 2 rfl (pc' := 5) rfl ?_
      refine wk_bipush F dX1_volumesThatLive_5 bp_8 (pc' := 7) rfl ?_
      refine wk_icmp_ge (tgt := 27) F dX1_volumesThatLive_7 (by decide) (pc' := 10) rfl (fun _ => ?_) (fun c => absurd ((nI_leI (a := 8) (b := i) (by omega) (by omega)).mpr (by omega)) c)
      refine wk_lv [1] rfl ?_
      exact kx x1 (by simp only [f1_volumesThatLive_L4])
    | succ n ih =>
      intro i x1 hi kx
      refine wk_iload_n F dX1_volumesThatLive_4 rfl 2 rfl (pc' := 5) rfl ?_
      refine wk_bipush F dX1_volumesThatLive_5 bp_8 (pc' := 7) rfl ?_
      refine wk_icmp_ge (tgt := 27) F dX1_volumesThatLive_7 (by decide) (pc' := 10) rfl (fun c => absurd ((nI_leI (a := 8) (b := i) (by omega) (by omega)).mp c) (by omega)) (fun _ => ?_)
      refine wk_aload_n F dX1_volumesThatLive_10 rfl 0 rfl (pc' := 11) rfl ?_
      refine wk_iload_n F dX1_volumesThatLive_11 rfl 2 rfl (pc' := 12) rfl ?_
      refine wk_same_p F (c1_lives l D cI cP hs σ (nI i)) (cwV 1 F.hts gX1_volumesThatLive_X1_lives rfl rfl rfl hdX1_lives ⟨Nat.le_of_ble_eq_true rfl, Nat.le_of_ble_eq_true rfl⟩) 0 1 rfl rfl rfl rfl (Nat.le_of_ble_eq_true rfl) dX1_volumesThatLive_12 ⟨Nat.zero_le _, Nat.zero_le _⟩ (pc' := 15) rfl ?_
      refine wk_if_eq (tgt := 21) F dX1_volumesThatLive_15 (by decide) (pc' := 18) rfl (fun c1 => ?_) (fun c1 => ?_)
      · refine wk_iinc (k := 2) (v := nI (i + 1)) (lv' := [(2, .int (nI (i + 1))), (0, .ref (hs 0)), (1, .int x1)]) F dX1_volumesThatLive_21 rfl (nI_inc i) (Nat.le_of_ble_eq_true rfl) rfl (pc' := 24) rfl ?_
        refine wk_goto (tgt := 4) F dX1_volumesThatLive_24 (by decide) ?_
        refine wk_lv [1, 2, 0] rfl ?_
        exact ih (i + 1) x1 (by omega) (fun y1_ h_ => kx y1_ (Eq.trans (by simp only [f1_volumesThatLive_L4, if_pos c1]) h_))
      · refine wk_iinc (k := 1) (v := x1 + 1) (lv' := [(1, .int (x1 + 1)), (0, .ref (hs 0)), (2, .int (nI i))]) F dX1_volumesThatLive_18 rfl rfl (Nat.le_of_ble_eq_true rfl) rfl (pc' := 21) rfl ?_
        refine wk_iinc (k := 2) (v := nI (i + 1)) (lv' := [(2, .int (nI (i + 1))), (1, .int (x1 + 1)), (0, .ref (hs 0))]) F dX1_volumesThatLive_21 rfl (nI_inc i) (Nat.le_of_ble_eq_true rfl) rfl (pc' := 24) rfl ?_
        refine wk_goto (tgt := 4) F dX1_volumesThatLive_24 (by decide) ?_
        refine wk_lv [2, 1, 0] rfl ?_
        exact ih (i + 1) (x1 + 1) (by omega) (fun y1_ h_ => kx y1_ (Eq.trans (by simp only [f1_volumesThatLive_L4, if_neg c1]) h_))
  refine wk_iconst F dX1_volumesThatLive_0 ic_0 (pc' := 1) rfl ?_
  refine wk_istore_n (lv' := [(1, .int (0 : Int32)), (0, .ref (hs 0))]) F dX1_volumesThatLive_1 rfl (Nat.le_of_ble_eq_true rfl) rfl (pc' := 2) rfl ?_
  refine wk_iconst F dX1_volumesThatLive_2 ic_0 (pc' := 3) rfl ?_
  refine wk_istore_n (lv' := [(2, .int (0 : Int32)), (1, .int (0 : Int32)), (0, .ref (hs 0))]) F dX1_volumesThatLive_3 rfl (Nat.le_of_ble_eq_true rfl) rfl (pc' := 4) rfl ?_
  refine wk_lv [2, 1, 0] rfl ?_
  refine L4 8 0 (0 : Int32) (by omega) (fun y3 h2 => ?_)
  refine wk_iload_n F dX1_volumesThatLive_27 rfl 0 rfl (pc' := 28) rfl ?_
  exact hret _ _ _ dX1_volumesThatLive_28 rfl (by simp only [f1_volumesThatLive, h2])
