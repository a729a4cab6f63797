def f1_warnIfLevelRose (σ : PS) (p1 : Int32) : PS := (if (f1_levelWith σ (f1_available σ)) ≤ p1 then σ else (sq (f4_add σ (0 : Int32) (-1 : Int32) (f1_available σ)) (fun (u2 : PS) => u2)))
set_option maxHeartbeats 4000000 in
set_option maxRecDepth 100000 in
theorem c1_warnIfLevelRose (l : Launch) (D : va_G) (cI cP : ClassId) (hs : Nat → Nat) (σ : PS) (p1 : Int32) : CV l yX1_warnIfLevelRose wsX1_warnIfLevelRose ({ frames := 2, cells := 0, slots := 0, locals := 83 } : Room) D (cty cI cP) (wPool cI hs σ) (wPool cI hs) [.ref (hs 0), .int p1] 0 0 (fun u => f1_warnIfLevelRose σ p1 = u) := by
  refine CV.of (cc := cX1_warnIfLevelRose) (maxL := 3) (own := RX1) (lv0 := [(0, .ref (hs 0)), (1, .int p1)]) pnX1 rfl rfl (Nat.le_of_ble_eq_true rfl) rfl (fun p e s m args below meth c A Q F hmn hret => ?_)
  have w_1 := F.at (x := Cond.fieldLink RX1 45 "ThinVolumes$Pool" "warnings" "LThinVolumes$Warnings;") 1 rfl
  have k_1 : ∀ w ∈ wsX10, w ∈ wsX1_warnIfLevelRose := fun _ h => List.mem_cons_of_mem _ (List.mem_append_left _ (List.mem_append_right _ (h)))
  refine wk_aload_n F dX1_warnIfLevelRose_0 rfl 0 rfl (pc' := 1) rfl ?_
  refine wk_same_p F (c1_available l D cI cP hs σ) (cwV 0 F.hts gX1_warnIfLevelRose_X1_available rfl rfl rfl hdX1_available ⟨Nat.le_of_ble_eq_true rfl, Nat.le_of_ble_eq_true rfl⟩) 0 1 rfl rfl rfl rfl (Nat.le_of_ble_eq_true rfl) dX1_warnIfLevelRose_1 ⟨Nat.zero_le _, Nat.zero_le _⟩ (pc' := 4) rfl ?_
  refine wk_istore_n (lv' := [(2, .int (f1_available σ)), (0, .ref (hs 0)), (1, .int p1)]) F dX1_warnIfLevelRose_4 rfl (Nat.le_of_ble_eq_true rfl) rfl (pc' := 5) rfl ?_
  refine wk_aload_n F dX1_warnIfLevelRose_5 rfl 1 rfl (pc' := 6) rfl ?_
  refine wk_iload_n F dX1_warnIfLevelRose_6 rfl 0 rfl (pc' := 7) rfl ?_
  refine wk_same_p F (c1_levelWith l D cI cP hs σ (f1_available σ)) (cwV 1 F.hts gX1_warnIfLevelRose_X1_levelWith rfl rfl rfl hdX1_levelWith ⟨Nat.le_of_ble_eq_true rfl, Nat.le_of_ble_eq_true rfl⟩) 0 1 rfl rfl rfl rfl (Nat.le_of_ble_eq_true rfl) dX1_warnIfLevelRose_7 ⟨Nat.zero_le _, Nat.zero_le _⟩ (pc' := 10) rfl ?_
  refine wk_iload_n F dX1_warnIfLevelRose_10 rfl 2 rfl (pc' := 11) rfl ?_
  refine wk_icmp_le (tgt := 24) F dX1_warnIfLevelRose_11 (by decide) (pc' := 14) rfl (fun c1 => ?_) (fun c1 => ?_)
  · exact hret _ _ _ dX1_warnIfLevelRose_24 (by rw [f1_warnIfLevelRose] <;> exact (st_pos c1 rfl))
  · refine wk_aload_n F dX1_warnIfLevelRose_14 rfl 1 rfl (pc' := 15) rfl ?_
    refine wk_get (C := RX1) (T := TX1) (N := 14) F 0 rfl rfl k_1 10 (Nat.le_of_ble_eq_true rfl) w_1 rfl dX1_warnIfLevelRose_15 (pc' := 18) rfl ?_
    refine wk_iconst F dX1_warnIfLevelRose_18 ic_0 (pc' := 19) rfl ?_
    refine wk_iconst F dX1_warnIfLevelRose_19 ic_m1 (pc' := 20) rfl ?_
    refine wk_iload_n F dX1_warnIfLevelRose_20 rfl 0 rfl (pc' := 21) rfl ?_
    refine wk_sub_v (w' := wPool cI hs) (wr := wPool11 cI hs σ) F (c4_add l D cI cP hs σ (0 : Int32) (-1 : Int32) (f1_available σ)) (cwV 3 F.hts gX1_warnIfLevelRose_X4_add rfl rfl rfl hdX4_add ⟨Nat.le_of_ble_eq_true rfl, Nat.le_of_ble_eq_true rfl⟩) [11, 12, 13, 14] [0, 1, 2, 3, 4, 5, 6, 7, 8, 9, 10] hCW hRW rfl rfl (by decide) 0 4 rfl rfl rfl rfl (Nat.le_of_ble_eq_true rfl) dX1_warnIfLevelRose_21 ⟨Nat.zero_le _, Nat.zero_le _⟩ (pc' := 24) rfl hw_add (fun u2 h3 => ?_)
    exact hret _ _ _ dX1_warnIfLevelRose_24 (by rw [f1_warnIfLevelRose] <;> exact (st_neg c1 (st_let h3 rfl)))
def f1_openVolume_L16 (p1 : Int32) : Nat → Nat → PS → Int32 × PS
  | 0, i, u => ((-1000003 : Int32), u)
  | n + 1, i, u => (if (f1_lives u (nI i)) = 0 then (sq (wr u 0 i p1) (fun (u2 : PS) => (sq (wr u2 1 i (50 : Int32)) (fun (u4 : PS) => (sq (wr u4 2 i (0 : Int32)) (fun (u6 : PS) => (sq (wr u6 3 i (-1 : Int32)) (fun (u8 : PS) => (sq (wr u8 4 i (0 : Int32)) (fun (u10 : PS) => (sq (wr u10 5 i (0 : Int32)) (fun (u12 : PS) => (nI i, u12))))))))))))) else f1_openVolume_L16 p1 n (i + 1) u)
def f1_openVolume (σ : PS) (p1 : Int32) : Int32 × PS := (if p1 < (1 : Int32) then ((-1000001 : Int32), σ) else (if p1 ≤ (40 : Int32) then f1_openVolume_L16 p1 8 0 σ else ((-1000001 : Int32), σ)))
set_option maxHeartbeats 4000000 in
set_option maxRecDepth 100000 in
theorem c1_openVolume (l : Launch) (D : va_G) (cI cP : ClassId) (hs : Nat → Nat) (σ : PS) (p1 : Int32) : CI l yX1_openVolume wsX1_openVolume ({ frames := 1, cells := 0, slots := 0, locals := 21 } : Room) D (cty cI cP) (wPool cI hs σ) (wPool cI hs) [.ref (hs 0), .int p1] 0 0 (fun r u => f1_openVolume σ p1 = (r, u)) := by
  refine CI.of (cc := cX1_openVolume) (maxL := 3) (rt := .int) (own := RX1) (lv0 := [(0, .ref (hs 0)), (1, .int p1)]) pnX1 rfl rfl (Nat.le_of_ble_eq_true rfl) rfl (fun p e s m args below meth c A Q F hret => ?_)
  have w_8 := F.at (x := Cond.constant RX1 125 (-1000003)) 8 rfl
  have w_2 := F.at (x := Cond.fieldLink RX1 9 "ThinVolumes$Pool" "sizes" "[I") 2 rfl
  have w_3 := F.at (x := Cond.fieldLink RX1 15 "ThinVolumes$Pool" "manners" "[I") 3 rfl
  have w_4 := F.at (x := Cond.fieldLink RX1 18 "ThinVolumes$Pool" "promises" "[I") 4 rfl
  have w_5 := F.at (x := Cond.fieldLink RX1 21 "ThinVolumes$Pool" "parents" "[I") 5 rfl
  have w_6 := F.at (x := Cond.fieldLink RX1 24 "ThinVolumes$Pool" "refusalsOf" "[I") 6 rfl
  have w_7 := F.at (x := Cond.fieldLink RX1 27 "ThinVolumes$Pool" "piecesGotBy" "[I") 7 rfl
  have w_1 := F.at (x := Cond.constant RX1 124 (-1000001)) 1 rfl
  have k_1 : ∀ w ∈ wsX10, w ∈ wsX1_openVolume := fun _ h => List.mem_cons_of_mem _ (List.mem_append_right _ (h))
  have L16 : ∀ (n : Nat) (i : Nat) (u : PS), i + n = 8 → f1_openVolume_L16 p1 n i u = f1_openVolume σ p1 → Wk p l e ({ frames := 1, cells := 0, slots := 0, locals := 21 } : Room) s m args below meth c 3 D A 0 0 Q (wPool cI hs u) [(0, .ref (hs 0)), (1, .int p1), (2, .int (nI i))] 16 [] := by
    intro n
    induction n with
    | zero =>
      intro i u hi hp
      refine wk_iload_n F dX1_openVolume_16 rfl 2 rfl (pc' := 17) rfl ?_
      refine wk_bipush F dX1_openVolume_17 bp_8 (pc' := 19) rfl ?_
      refine wk_icmp_ge (tgt := 81) F dX1_openVolume_19 (by decide) (pc' := 22) rfl (fun _ => ?_) (fun c => absurd ((nI_leI (a := 8) (b := i) (by omega) (by omega)).mpr (by omega)) c)
      refine wk_ldc F dX1_openVolume_81 w_8 (pc' := 83) rfl ?_
      exact hret _ _ _ _ dX1_openVolume_83 rfl (Eq.trans hp.symm (by rw [f1_openVolume_L16] <;> exact rfl))
    | succ n ih =>
      intro i u hi hp
      refine wk_iload_n F dX1_openVolume_16 rfl 2 rfl (pc' := 17) rfl ?_
      refine wk_bipush F dX1_openVolume_17 bp_8 (pc' := 19) rfl ?_
      refine wk_icmp_ge (tgt := 81) F dX1_openVolume_19 (by decide) (pc' := 22) rfl (fun c => absurd ((nI_leI (a := 8) (b := i) (by omega) (by omega)).mp c) (by omega)) (fun _ => ?_)
      refine wk_aload_n F dX1_openVolume_22 rfl 0 rfl (pc' := 23) rfl ?_
      refine wk_iload_n F dX1_openVolume_23 rfl 2 rfl (pc' := 24) rfl ?_
      refine wk_same_p F (c1_lives l D cI cP hs u (nI i)) (cwV 1 F.hts gX1_openVolume_X1_lives rfl rfl rfl hdX1_lives ⟨Nat.le_of_ble_eq_true rfl, Nat.le_of_ble_eq_true rfl⟩) 0 1 rfl rfl rfl rfl (Nat.le_of_ble_eq_true rfl) dX1_openVolume_24 ⟨Nat.zero_le _, Nat.zero_le _⟩ (pc' := 27) rfl ?_
      refine wk_if_ne (tgt := 75) F dX1_openVolume_27 (by decide) (pc' := 30) rfl (fun c1 => ?_) (fun c1 => ?_)
      · refine wk_iinc (k := 2) (v := nI (i + 1)) (lv' := [(2, .int (nI (i + 1))), (0, .ref (hs 0)), (1, .int p1)]) F dX1_openVolume_75 rfl (nI_inc i) (Nat.le_of_ble_eq_true rfl) rfl (pc' := 78) rfl ?_
        refine wk_goto (tgt := 16) F dX1_openVolume_78 (by decide) ?_
        refine wk_lv [1, 2, 0] rfl ?_
        exact ih (i + 1) u (by omega) (Eq.trans (Eq.symm (by rw [f1_openVolume_L16] <;> exact (st_neg c1 rfl))) hp)
      · refine wk_aload_n F dX1_openVolume_30 rfl 0 rfl (pc' := 31) rfl ?_
        refine wk_get (C := RX1) (T := TX1) (N := 14) F 0 rfl rfl k_1 0 (Nat.le_of_ble_eq_true rfl) w_2 rfl dX1_openVolume_31 (pc' := 34) rfl ?_
        refine wk_iload_n F dX1_openVolume_34 rfl 2 rfl (pc' := 35) rfl ?_
        refine wk_iload_n F dX1_openVolume_35 rfl 1 rfl (pc' := 36) rfl ?_
        refine wk_iastu_n (wg := wPool cI hs) (f0 := wr u 0 i p1) (i := i) F 1 0 rfl rfl aP_0 (by omega) (Nat.le_of_ble_eq_true rfl) dX1_openVolume_36 (pc' := 37) rfl (fun u2 h3 => ?_)
        refine wk_aload_n F dX1_openVolume_37 rfl 0 rfl (pc' := 38) rfl ?_
        refine wk_get (C := RX1) (T := TX1) (N := 14) F 0 rfl rfl k_1 1 (Nat.le_of_ble_eq_true rfl) w_3 rfl dX1_openVolume_38 (pc' := 41) rfl ?_
        refine wk_iload_n F dX1_openVolume_41 rfl 2 rfl (pc' := 42) rfl ?_
        refine wk_bipush F dX1_openVolume_42 bp_50 (pc' := 44) rfl ?_
        refine wk_iastu_n (wg := wPool cI hs) (f0 := wr u2 1 i (50 : Int32)) (i := i) F 2 0 rfl rfl aP_1 (by omega) (Nat.le_of_ble_eq_true rfl) dX1_openVolume_44 (pc' := 45) rfl (fun u4 h5 => ?_)
        refine wk_aload_n F dX1_openVolume_45 rfl 0 rfl (pc' := 46) rfl ?_
        refine wk_get (C := RX1) (T := TX1) (N := 14) F 0 rfl rfl k_1 2 (Nat.le_of_ble_eq_true rfl) w_4 rfl dX1_openVolume_46 (pc' := 49) rfl ?_
        refine wk_iload_n F dX1_openVolume_49 rfl 2 rfl (pc' := 50) rfl ?_
        refine wk_iconst F dX1_openVolume_50 ic_0 (pc' := 51) rfl ?_
        refine wk_iastu_n (wg := wPool cI hs) (f0 := wr u4 2 i (0 : Int32)) (i := i) F 3 0 rfl rfl aP_2 (by omega) (Nat.le_of_ble_eq_true rfl) dX1_openVolume_51 (pc' := 52) rfl (fun u6 h7 => ?_)
        refine wk_aload_n F dX1_openVolume_52 rfl 0 rfl (pc' := 53) rfl ?_
        refine wk_get (C := RX1) (T := TX1) (N := 14) F 0 rfl rfl k_1 3 (Nat.le_of_ble_eq_true rfl) w_5 rfl dX1_openVolume_53 (pc' := 56) rfl ?_
        refine wk_iload_n F dX1_openVolume_56 rfl 2 rfl (pc' := 57) rfl ?_
        refine wk_iconst F dX1_openVolume_57 ic_m1 (pc' := 58) rfl ?_
        refine wk_iastu_n (wg := wPool cI hs) (f0 := wr u6 3 i (-1 : Int32)) (i := i) F 4 0 rfl rfl aP_3 (by omega) (Nat.le_of_ble_eq_true rfl) dX1_openVolume_58 (pc' := 59) rfl (fun u8 h9 => ?_)
        refine wk_aload_n F dX1_openVolume_59 rfl 0 rfl (pc' := 60) rfl ?_
        refine wk_get (C := RX1) (T := TX1) (N := 14) F 0 rfl rfl k_1 4 (Nat.le_of_ble_eq_true rfl) w_6 rfl dX1_openVolume_60 (pc' := 63) rfl ?_
        refine wk_iload_n F dX1_openVolume_63 rfl 2 rfl (pc' := 64) rfl ?_
        refine wk_iconst F dX1_openVolume_64 ic_0 (pc' := 65) rfl ?_
        refine wk_iastu_n (wg := wPool cI hs) (f0 := wr u8 4 i (0 : Int32)) (i := i) F 5 0 rfl rfl aP_4 (by omega) (Nat.le_of_ble_eq_true rfl) dX1_openVolume_65 (pc' := 66) rfl (fun u10 h11 => ?_)
        refine wk_aload_n F dX1_openVolume_66 rfl 0 rfl (pc' := 67) rfl ?_
        refine wk_get (C := RX1) (T := TX1) (N := 14) F 0 rfl rfl k_1 5 (Nat.le_of_ble_eq_true rfl) w_7 rfl dX1_openVolume_67 (pc' := 70) rfl ?_
        refine wk_iload_n F dX1_openVolume_70 rfl 2 rfl (pc' := 71) rfl ?_
        refine wk_iconst F dX1_openVolume_71 ic_0 (pc' := 72) rfl ?_
        refine wk_iastu_n (wg := wPool cI hs) (f0 := wr u10 5 i (0 : Int32)) (i := i) F 6 0 rfl rfl aP_5 (by omega) (Nat.le_of_ble_eq_true rfl) dX1_openVolume_72 (pc' := 73) rfl (fun u12 h13 => ?_)
        refine wk_iload_n F dX1_openVolume_73 rfl 2 rfl (pc' := 74) rfl ?_
        exact hret _ _ _ _ dX1_openVolume_74 rfl (Eq.trans hp.symm (by rw [f1_openVolume_L16] <;> exact (st_pos c1 (st_let h3 (st_let h5 (st_let h7 (st_let h9 (st_let h11 (st_let h13 rfl)))))))))
  refine wk_iload_n F dX1_openVolume_0 rfl 1 rfl (pc' := 1) rfl ?_
  refine wk_iconst F dX1_openVolume_1 ic_1 (pc' := 2) rfl ?_
  refine wk_icmp_lt (tgt := 11) F dX1_openVolume_2 (by decide) (pc' := 5) rfl (fun c14 => ?_) (fun c14 => ?_)
  · refine wk_ldc F dX1_openVolume_11 w_1 (pc' := 13) rfl ?_
    exact hret _ _ _ _ dX1_openVolume_13 rfl (by rw [f1_openVolume] <;> exact (st_pos c14 rfl))
  · refine wk_iload_n F dX1_openVolume_5 rfl 1 rfl (pc' := 6) rfl ?_
    refine wk_bipush F dX1_openVolume_6 bp_40 (pc' := 8) rfl ?_
    refine wk_icmp_le (tgt := 14) F dX1_openVolume_8 (by decide) (pc' := 11) rfl (fun c15 => ?_) (fun c15 => ?_)
    · refine wk_iconst F dX1_openVolume_14 ic_0 (pc' := 15) rfl ?_
      refine wk_istore_n (lv' := [(2, .int (0 : Int32)), (0, .ref (hs 0)), (1, .int p1)]) F dX1_openVolume_15 rfl (Nat.le_of_ble_eq_true rfl) rfl (pc' := 16) rfl ?_
      refine wk_lv [1, 2, 0] rfl ?_
      exact L16 8 0 σ (by omega) (Eq.symm (by rw [f1_openVolume] <;> exact (st_neg c14 (st_pos c15 rfl))))
    · refine wk_ldc F dX1_openVolume_11 w_1 (pc' := 13) rfl ?_
      exact hret _ _ _ _ dX1_openVolume_13 rfl (by rw [f1_openVolume] <;> exact (st_neg c14 (st_neg c15 rfl)))
def f1_loosen (σ : PS) (p1 : Int32) (p2 : Int32) : Int32 × PS := (if (f1_isPiece σ (f1_pieceAt σ p1 p2)) = 0 then ((0 : Int32), σ) else (sq (wr σ 6 ((p1 * (40 : Int32)) + p2).toNatClampNeg (-1 : Int32)) (fun (u2 : PS) => (sq (wr u2 8 (f1_pieceAt σ p1 p2).toNatClampNeg ((u2 8 (f1_pieceAt σ p1 p2).toNatClampNeg) - (1 : Int32))) (fun (u4 : PS) => (if (u4 8 (f1_pieceAt σ p1 p2).toNatClampNeg) ≤ 0 then (sq (wr u4 13 2 ((u4 13 2) + (1 : Int32))) (fun (u7 : PS) => ((1 : Int32), u7))) else ((0 : Int32), u4)))))))
set_option maxHeartbeats 4000000 in
set_option maxRecDepth 100000 in
theorem c1_loosen (l : Launch) (D : va_G) (cI cP : ClassId) (hs : Nat → Nat) (σ : PS) (p1 : Int32) (p2 : Int32) : CI l yX1_loosen wsX1_loosen ({ frames := 3, cells := 0, slots := 0, locals := 65 } : Room) D (cty cI cP) (wPool cI hs σ) (wPool cI hs) [.ref (hs 0), .int p1, .int p2] 0 0 (fun r u => f1_loosen σ p1 p2 = (r, u)) := by
  refine CI.of (cc := cX1_loosen) (maxL := 4) (rt := .int) (own := RX1) (lv0 := [(0, .ref (hs 0)), (1, .int p1), (2, .int p2)]) pnX1 rfl rfl (Nat.le_of_ble_eq_true rfl) rfl (fun p e s m args below meth c A Q F hret => ?_)
  have w_1 := F.at (x := Cond.fieldLink RX1 30 "ThinVolumes$Pool" "spots" "[I") 1 rfl
  have w_2 := F.at (x := Cond.fieldLink RX1 36 "ThinVolumes$Pool" "owners" "[I") 2 rfl
  have w_3 := F.at (x := Cond.fieldLink RX1 66 "ThinVolumes$Pool" "piecesFreed" "I") 3 rfl
  have k_1 : ∀ w ∈ wsX10, w ∈ wsX1_loosen := fun _ h => List.mem_cons_of_mem _ (List.mem_append_right _ (h))
  refine wk_aload_n F dX1_loosen_0 rfl 0 rfl (pc' := 1) rfl ?_
  refine wk_iload_n F dX1_loosen_1 rfl 1 rfl (pc' := 2) rfl ?_
  refine wk_iload_n F dX1_loosen_2 rfl 2 rfl (pc' := 3) rfl ?_
  refine wk_same_p F (c1_pieceAt l D cI cP hs σ p1 p2) (cwV 2 F.hts gX1_loosen_X1_pieceAt rfl rfl rfl hdX1_pieceAt ⟨Nat.le_of_ble_eq_true rfl, Nat.le_of_ble_eq_true rfl⟩) 0 1 rfl rfl rfl rfl (Nat.le_of_ble_eq_true rfl) dX1_loosen_3 ⟨Nat.zero_le _, Nat.zero_le _⟩ (pc' := 6) rfl ?_
  refine wk_istore_n (lv' := [(3, .int (f1_pieceAt σ p1 p2)), (0, .ref (hs 0)), (1, .int p1), (2, .int p2)]) F dX1_loosen_6 rfl (Nat.le_of_ble_eq_true rfl) rfl (pc' := 7) rfl ?_
  refine wk_aload_n F dX1_loosen_7 rfl 1 rfl (pc' := 8) rfl ?_
  refine wk_iload_n F dX1_loosen_8 rfl 0 rfl (pc' := 9) rfl ?_
  refine wk_same_p F (c1_isPiece l D cI cP hs σ (f1_pieceAt σ p1 p2)) (cwV 1 F.hts gX1_loosen_X1_isPiece rfl rfl rfl hdX1_isPiece ⟨Nat.le_of_ble_eq_true rfl, Nat.le_of_ble_eq_true rfl⟩) 0 1 rfl rfl rfl rfl (Nat.le_of_ble_eq_true rfl) dX1_loosen_9 ⟨Nat.zero_le _, Nat.zero_le _⟩ (pc' := 12) rfl ?_
  refine wk_if_ne (tgt := 17) F dX1_loosen_12 (by decide) (pc' := 15) rfl (fun c1 => ?_) (fun c1 => ?_)
  · refine wk_aload_n F dX1_loosen_17 rfl 1 rfl (pc' := 18) rfl ?_
    refine wk_get (C := RX1) (T := TX1) (N := 14) F 0 rfl rfl k_1 6 (Nat.le_of_ble_eq_true rfl) w_1 rfl dX1_loosen_18 (pc' := 21) rfl ?_
    refine wk_iload_n F dX1_loosen_21 rfl 2 rfl (pc' := 22) rfl ?_
    refine wk_bipush F dX1_loosen_22 bp_40 (pc' := 24) rfl ?_
    refine wk_imul F dX1_loosen_24 (pc' := 25) rfl ?_
    refine wk_iload_n F dX1_loosen_25 rfl 3 rfl (pc' := 26) rfl ?_
    refine wk_iadd F dX1_loosen_26 (pc' := 27) rfl ?_
    refine wk_iconst F dX1_loosen_27 ic_m1 (pc' := 28) rfl ?_
    refine wk_iastu (wg := wPool cI hs) (f0 := wr σ 6 ((p1 * (40 : Int32)) + p2).toNatClampNeg (-1 : Int32)) F 7 0 rfl rfl aP_6 (ix_spot (hasPlace_v (pieceAt_has c1)) (hasPlace_p (pieceAt_has c1))) dX1_loosen_28 (pc' := 29) rfl (fun u2 h3 => ?_)
    refine wk_aload_n F dX1_loosen_29 rfl 1 rfl (pc' := 30) rfl ?_
    refine wk_get (C := RX1) (T := TX1) (N := 14) F 0 rfl rfl k_1 8 (Nat.le_of_ble_eq_true rfl) w_2 rfl dX1_loosen_30 (pc' := 33) rfl ?_
    refine wk_iload_n F dX1_loosen_33 rfl 0 rfl (pc' := 34) rfl ?_
    refine wk_dup2 F dX1_loosen_34 rfl rfl (pc' := 35) rfl ?_
    refine wk_iald F 9 0 rfl rfl (isPiece_in c1) dX1_loosen_35 (pc' := 36) rfl ?_
    refine wk_iconst F dX1_loosen_36 ic_1 (pc' := 37) rfl ?_
    refine wk_isub F dX1_loosen_37 (pc' := 38) rfl ?_
    refine wk_iastu (wg := wPool cI hs) (f0 := wr u2 8 (f1_pieceAt σ p1 p2).toNatClampNeg ((u2 8 (f1_pieceAt σ p1 p2).toNatClampNeg) - (1 : Int32))) F 9 0 rfl rfl aP_8 (isPiece_in c1) dX1_loosen_38 (pc' := 39) rfl (fun u4 h5 => ?_)
    refine wk_aload_n F dX1_loosen_39 rfl 1 rfl (pc' := 40) rfl ?_
    refine wk_get (C := RX1) (T := TX1) (N := 14) F 0 rfl rfl k_1 8 (Nat.le_of_ble_eq_true rfl) w_2 rfl dX1_loosen_40 (pc' := 43) rfl ?_
    refine wk_iload_n F dX1_loosen_43 rfl 0 rfl (pc' := 44) rfl ?_
    refine wk_iald F 9 0 rfl rfl (isPiece_in c1) dX1_loosen_44 (pc' := 45) rfl ?_
    refine wk_if_le (tgt := 50) F dX1_loosen_45 (by decide) (pc' := 48) rfl (fun c6 => ?_) (fun c6 => ?_)
    · refine wk_aload_n F dX1_loosen_50 rfl 1 rfl (pc' := 51) rfl ?_
      refine wk_dup F dX1_loosen_51 rfl (pc' := 52) rfl ?_
      refine wk_get (C := RX1) (T := TX1) (N := 14) F 0 rfl rfl k_1 13 (Nat.le_of_ble_eq_true rfl) w_3 rfl dX1_loosen_52 (pc' := 55) rfl ?_
      refine wk_iconst F dX1_loosen_55 ic_1 (pc' := 56) rfl ?_
      refine wk_iadd F dX1_loosen_56 (pc' := 57) rfl ?_
      refine wk_putu (wg := wPool cI hs) (f0 := wr u4 13 2 ((u4 13 2) + (1 : Int32))) (C := RX1) (T := TX1) (N := 14) (ty0 := tyX1) F 0 rfl rfl k_1 tyX1_ok nmX1 13 (Nat.le_of_ble_eq_true rfl) w_3 rfl rfl rfl (Nat.le_of_ble_eq_true rfl) sP_2 dX1_loosen_57 (pc' := 60) rfl (fun u7 h8 => ?_)
      refine wk_iconst F dX1_loosen_60 ic_1 (pc' := 61) rfl ?_
      exact hret _ _ _ _ dX1_loosen_61 rfl (by rw [f1_loosen] <;> exact (st_neg c1 (st_let h3 (st_let h5 (st_pos c6 (st_let h8 rfl))))))
    · refine wk_iconst F dX1_loosen_48 ic_0 (pc' := 49) rfl ?_
      exact hret _ _ _ _ dX1_loosen_49 rfl (by rw [f1_loosen] <;> exact (st_neg c1 (st_let h3 (st_let h5 (st_neg c6 rfl)))))
  · refine wk_iconst F dX1_loosen_15 ic_0 (pc' := 16) rfl ?_
    exact hret _ _ _ _ dX1_loosen_16 rfl (by rw [f1_loosen] <;> exact (st_pos c1 rfl))
def f1_cloneVolume_L41 (p1 : Int32) (y2 : Int32) : Nat → Nat → PS → PS
  | 0, i, u => u
  | n + 1, i, u => (if (f1_isPiece u (f1_pieceAt u p1 (nI i))) = 0 then f1_cloneVolume_L41 p1 y2 n (i + 1) u else (sq (wr u 6 ((y2 * (40 : Int32)) + (nI i)).toNatClampNeg (f1_pieceAt u p1 (nI i))) (fun (u2 : PS) => (sq (wr u2 8 (f1_pieceAt u p1 (nI i)).toNatClampNeg ((u2 8 (f1_pieceAt u p1 (nI i)).toNatClampNeg) + (1 : Int32))) (fun (u4 : PS) => f1_cloneVolume_L41 p1 y2 n (i + 1) u4)))))
def f1_cloneVolume (σ : PS) (p1 : Int32) : Int32 × PS := (if (f1_lives σ p1) = 0 then ((-1000001 : Int32), σ) else (sq2 (f1_openVolume σ (σ 0 p1.toNatClampNeg)) (fun (r8 : Int32) (u7 : PS) => (if (f1_lives u7 r8) = 0 then (r8, u7) else (sq (wr u7 3 r8.toNatClampNeg p1) (fun (u11 : PS) => (sq (f1_cloneVolume_L41 p1 r8 40 0 u11) (fun (u14 : PS) => (r8, u14)))))))))
set_option maxHeartbeats 4000000 in
set_option maxRecDepth 100000 in
theorem c1_cloneVolume (l : Launch) (D : va_G) (cI cP : ClassId) (hs : Nat → Nat) (σ : PS) (p1 : Int32) : CI l yX1_cloneVolume wsX1_cloneVolume ({ frames := 3, cells := 0, slots := 0, locals := 65 } : Room) D (cty cI cP) (wPool cI hs σ) (wPool cI hs) [.ref (hs 0), .int p1] 0 0 (fun r u => f1_cloneVolume σ p1 = (r, u)) := by
  refine CI.of (cc := cX1_cloneVolume) (maxL := 5) (rt := .int) (own := RX1) (lv0 := [(0, .ref (hs 0)), (1, .int p1)]) pnX1 rfl rfl (Nat.le_of_ble_eq_true rfl) rfl (fun p e s m args below meth c A Q F hret => ?_)
  have w_4 := F.at (x := Cond.fieldLink RX1 30 "ThinVolumes$Pool" "spots" "[I") 4 rfl
  have w_5 := F.at (x := Cond.fieldLink RX1 36 "ThinVolumes$Pool" "owners" "[I") 5 rfl
  have w_2 := F.at (x := Cond.fieldLink RX1 9 "ThinVolumes$Pool" "sizes" "[I") 2 rfl
  have w_3 := F.at (x := Cond.fieldLink RX1 21 "ThinVolumes$Pool" "parents" "[I") 3 rfl
  have w_1 := F.at (x := Cond.constant RX1 124 (-1000001)) 1 rfl
  have k_1 : ∀ w ∈ wsX10, w ∈ wsX1_cloneVolume := fun _ h => List.mem_cons_of_mem _ (List.mem_append_right _ (h))
  have L41 : ∀ (y2 : Int32) (n : Nat) (i : Nat) (u : PS), i + n = 40 → vp_in y2 8 → (∀ (uu : PS), f1_cloneVolume_L41 p1 y2 n i u = uu → Wk p l e ({ frames := 3, cells := 0, slots := 0, locals := 65 } : Room) s m args below meth c 5 D A 0 0 Q (wPool cI hs uu) [(2, .int y2)] 94 []) → Wk p l e ({ frames := 3, cells := 0, slots := 0, locals := 65 } : Room) s m args below meth c 5 D A 0 0 Q (wPool cI hs u) [(0, .ref (hs 0)), (1, .int p1), (2, .int y2), (3, .int (nI i))] 41 [] := by
    intro y2 n
    induction n with
    | zero =>
      intro i u hi hv0 kx
      refine wk_iload_n F dX1_cloneVolume_41 rfl 3 rfl (pc' := 42) rfl ?_
      refine wk_bipush F dX1_cloneVolume_42 bp_40 (pc' := 44) rfl ?_
      refine wk_icmp_ge (tgt := 94) F dX1_cloneVolume_44 (by decide) (pc' := 47) rfl (fun _ => ?_) (fun c => absurd ((nI_leI (a := 40) (b := i) (by omega) (by omega)).mpr (by omega)) c)
      refine wk_lv [2] rfl ?_
      exact kx u (by rw [f1_cloneVolume_L41] <;> exact rfl)
    | succ n ih =>
      intro i u hi hv0 kx
      refine wk_iload_n F dX1_cloneVolume_41 rfl 3 rfl (pc' := 42) rfl ?_
      refine wk_bipush F dX1_cloneVolume_42 bp_40 (pc' := 44) rfl ?_
      refine wk_icmp_ge (tgt := 94) F dX1_cloneVolume_44 (by decide) (pc' := 47) rfl (fun c => absurd ((nI_leI (a := 40) (b := i) (by omega) (by omega)).mp c) (by omega)) (fun _ => ?_)
      refine wk_aload_n F dX1_cloneVolume_47 rfl 0 rfl (pc' := 48) rfl ?_
      refine wk_iload_n F dX1_cloneVolume_48 rfl 1 rfl (pc' := 49) rfl ?_
      refine wk_iload_n F dX1_cloneVolume_49 rfl 3 rfl (pc' := 50) rfl ?_
      refine wk_same_p F (c1_pieceAt l D cI cP hs u p1 (nI i)) (cwV 2 F.hts gX1_cloneVolume_X1_pieceAt rfl rfl rfl hdX1_pieceAt ⟨Nat.le_of_ble_eq_true rfl, Nat.le_of_ble_eq_true rfl⟩) 0 1 rfl rfl rfl rfl (Nat.le_of_ble_eq_true rfl) dX1_cloneVolume_50 ⟨Nat.zero_le _, Nat.zero_le _⟩ (pc' := 53) rfl ?_
      refine wk_istore (lv' := [(4, .int (f1_pieceAt u p1 (nI i))), (0, .ref (hs 0)), (1, .int p1), (2, .int y2), (3, .int (nI i))]) F dX1_cloneVolume_53 (Nat.le_of_ble_eq_true rfl) rfl (pc' := 55) rfl ?_
      refine wk_aload_n F dX1_cloneVolume_55 rfl 1 rfl (pc' := 56) rfl ?_
      refine wk_iload F dX1_cloneVolume_56 0 rfl (pc' := 58) rfl ?_
      refine wk_same_p F (c1_isPiece l D cI cP hs u (f1_pieceAt u p1 (nI i))) (cwV 1 F.hts gX1_cloneVolume_X1_isPiece rfl rfl rfl hdX1_isPiece ⟨Nat.le_of_ble_eq_true rfl, Nat.le_of_ble_eq_true rfl⟩) 0 1 rfl rfl rfl rfl (Nat.le_of_ble_eq_true rfl) dX1_cloneVolume_58 ⟨Nat.zero_le _, Nat.zero_le _⟩ (pc' := 61) rfl ?_
      refine wk_if_eq (tgt := 88) F dX1_cloneVolume_61 (by decide) (pc' := 64) rfl (fun c1 => ?_) (fun c1 => ?_)
      · refine wk_iinc (k := 4) (v := nI (i + 1)) (lv' := [(3, .int (nI (i + 1))), (4, .int (f1_pieceAt u p1 (nI i))), (0, .ref (hs 0)), (1, .int p1), (2, .int y2)]) F dX1_cloneVolume_88 rfl (nI_inc i) (Nat.le_of_ble_eq_true rfl) rfl (pc' := 91) rfl ?_
        refine wk_goto (tgt := 41) F dX1_cloneVolume_91 (by decide) ?_
        refine wk_lv [2, 3, 4, 0] rfl ?_
        exact ih (i + 1) u (by omega) hv0 (fun u_ h_ => kx u_ (Eq.trans (by rw [f1_cloneVolume_L41] <;> exact (st_pos c1 rfl)) h_))
      · refine wk_aload_n F dX1_cloneVolume_64 rfl 1 rfl (pc' := 65) rfl ?_
        refine wk_get (C := RX1) (T := TX1) (N := 14) F 0 rfl rfl k_1 6 (Nat.le_of_ble_eq_true rfl) w_4 rfl dX1_cloneVolume_65 (pc' := 68) rfl ?_
        refine wk_iload_n F dX1_cloneVolume_68 rfl 3 rfl (pc' := 69) rfl ?_
        refine wk_bipush F dX1_cloneVolume_69 bp_40 (pc' := 71) rfl ?_
        refine wk_imul F dX1_cloneVolume_71 (pc' := 72) rfl ?_
        refine wk_iload_n F dX1_cloneVolume_72 rfl 4 rfl (pc' := 73) rfl ?_
        refine wk_iadd F dX1_cloneVolume_73 (pc' := 74) rfl ?_
        refine wk_iload F dX1_cloneVolume_74 0 rfl (pc' := 76) rfl ?_
        refine wk_iastu (wg := wPool cI hs) (f0 := wr u 6 ((y2 * (40 : Int32)) + (nI i)).toNatClampNeg (f1_pieceAt u p1 (nI i))) F 7 0 rfl rfl aP_6 (ix_spot hv0 (vp_in_nI (n := i) (N := 40) (by omega) (Nat.le_of_ble_eq_true rfl))) dX1_cloneVolume_76 (pc' := 77) rfl (fun u2 h3 => ?_)
        refine wk_aload_n F dX1_cloneVolume_77 rfl 1 rfl (pc' := 78) rfl ?_
        refine wk_get (C := RX1) (T := TX1) (N := 14) F 0 rfl rfl k_1 8 (Nat.le_of_ble_eq_true rfl) w_5 rfl dX1_cloneVolume_78 (pc' := 81) rfl ?_
        refine wk_iload F dX1_cloneVolume_81 0 rfl (pc' := 83) rfl ?_
        refine wk_dup2 F dX1_cloneVolume_83 rfl rfl (pc' := 84) rfl ?_
        refine wk_iald F 9 0 rfl rfl (isPiece_in c1) dX1_cloneVolume_84 (pc' := 85) rfl ?_
        refine wk_iconst F dX1_cloneVolume_85 ic_1 (pc' := 86) rfl ?_
        refine wk_iadd F dX1_cloneVolume_86 (pc' := 87) rfl ?_
        refine wk_iastu (wg := wPool cI hs) (f0 := wr u2 8 (f1_pieceAt u p1 (nI i)).toNatClampNeg ((u2 8 (f1_pieceAt u p1 (nI i)).toNatClampNeg) + (1 : Int32))) F 9 0 rfl rfl aP_8 (isPiece_in c1) dX1_cloneVolume_87 (pc' := 88) rfl (fun u4 h5 => ?_)
        refine wk_iinc (k := 4) (v := nI (i + 1)) (lv' := [(3, .int (nI (i + 1))), (4, .int (f1_pieceAt u p1 (nI i))), (0, .ref (hs 0)), (1, .int p1), (2, .int y2)]) F dX1_cloneVolume_88 rfl (nI_inc i) (Nat.le_of_ble_eq_true rfl) rfl (pc' := 91) rfl ?_
        refine wk_goto (tgt := 41) F dX1_cloneVolume_91 (by decide) ?_
        refine wk_lv [2, 3, 4, 0] rfl ?_
        exact ih (i + 1) u4 (by omega) hv0 (fun u_ h_ => kx u_ (Eq.trans (by rw [f1_cloneVolume_L41] <;> exact (st_neg c1 (st_let h3 (st_let h5 rfl)))) h_))
  refine wk_aload_n F dX1_cloneVolume_0 rfl 0 rfl (pc' := 1) rfl ?_
  refine wk_iload_n F dX1_cloneVolume_1 rfl 1 rfl (pc' := 2) rfl ?_
  refine wk_same_p F (c1_lives l D cI cP hs σ p1) (cwV 1 F.hts gX1_cloneVolume_X1_lives rfl rfl rfl hdX1_lives ⟨Nat.le_of_ble_eq_true rfl, Nat.le_of_ble_eq_true rfl⟩) 0 1 rfl rfl rfl rfl (Nat.le_of_ble_eq_true rfl) dX1_cloneVolume_2 ⟨Nat.zero_le _, Nat.zero_le _⟩ (pc' := 5) rfl ?_
  refine wk_if_ne (tgt := 11) F dX1_cloneVolume_5 (by decide) (pc' := 8) rfl (fun c6 => ?_) (fun c6 => ?_)
  · refine wk_aload_n F dX1_cloneVolume_11 rfl 0 rfl (pc' := 12) rfl ?_
    refine wk_aload_n F dX1_cloneVolume_12 rfl 0 rfl (pc' := 13) rfl ?_
    refine wk_get (C := RX1) (T := TX1) (N := 14) F 0 rfl rfl k_1 0 (Nat.le_of_ble_eq_true rfl) w_2 rfl dX1_cloneVolume_13 (pc' := 16) rfl ?_
    refine wk_iload_n F dX1_cloneVolume_16 rfl 1 rfl (pc' := 17) rfl ?_
    refine wk_iald F 1 0 rfl rfl (lives_in c6) dX1_cloneVolume_17 (pc' := 18) rfl ?_
    refine wk_same_i F (c1_openVolume l D cI cP hs σ (σ 0 p1.toNatClampNeg)) (cwV 1 F.hts gX1_cloneVolume_X1_openVolume rfl rfl rfl hdX1_openVolume ⟨Nat.le_of_ble_eq_true rfl, Nat.le_of_ble_eq_true rfl⟩) 0 1 rfl rfl rfl rfl (Nat.le_of_ble_eq_true rfl) dX1_cloneVolume_18 ⟨Nat.zero_le _, Nat.zero_le _⟩ (pc' := 21) rfl (fun r8 u7 h9 => ?_)
    refine wk_istore_n (lv' := [(2, .int r8), (0, .ref (hs 0)), (1, .int p1)]) F dX1_cloneVolume_21 rfl (Nat.le_of_ble_eq_true rfl) rfl (pc' := 22) rfl ?_
    refine wk_aload_n F dX1_cloneVolume_22 rfl 1 rfl (pc' := 23) rfl ?_
    refine wk_iload_n F dX1_cloneVolume_23 rfl 0 rfl (pc' := 24) rfl ?_
    refine wk_same_p F (c1_lives l D cI cP hs u7 r8) (cwV 1 F.hts gX1_cloneVolume_X1_lives rfl rfl rfl hdX1_lives ⟨Nat.le_of_ble_eq_true rfl, Nat.le_of_ble_eq_true rfl⟩) 0 1 rfl rfl rfl rfl (Nat.le_of_ble_eq_true rfl) dX1_cloneVolume_24 ⟨Nat.zero_le _, Nat.zero_le _⟩ (pc' := 27) rfl ?_
    refine wk_if_ne (tgt := 32) F dX1_cloneVolume_27 (by decide) (pc' := 30) rfl (fun c10 => ?_) (fun c10 => ?_)
    · refine wk_aload_n F dX1_cloneVolume_32 rfl 1 rfl (pc' := 33) rfl ?_
      refine wk_get (C := RX1) (T := TX1) (N := 14) F 0 rfl rfl k_1 3 (Nat.le_of_ble_eq_true rfl) w_3 rfl dX1_cloneVolume_33 (pc' := 36) rfl ?_
      refine wk_iload_n F dX1_cloneVolume_36 rfl 0 rfl (pc' := 37) rfl ?_
      refine wk_iload_n F dX1_cloneVolume_37 rfl 2 rfl (pc' := 38) rfl ?_
      refine wk_iastu (wg := wPool cI hs) (f0 := wr u7 3 r8.toNatClampNeg p1) F 4 0 rfl rfl aP_3 (lives_in c10) dX1_cloneVolume_38 (pc' := 39) rfl (fun u11 h12 => ?_)
      refine wk_iconst F dX1_cloneVolume_39 ic_0 (pc' := 40) rfl ?_
      refine wk_istore_n (lv' := [(3, .int (0 : Int32)), (2, .int r8), (0, .ref (hs 0)), (1, .int p1)]) F dX1_cloneVolume_40 rfl (Nat.le_of_ble_eq_true rfl) rfl (pc' := 41) rfl ?_
      refine wk_lv [2, 3, 1, 0] rfl ?_
      refine L41 r8 40 0 u11 (by omega) (lives_in c10) (fun u14 h13 => ?_)
      refine wk_iload_n F dX1_cloneVolume_94 rfl 0 rfl (pc' := 95) rfl ?_
      exact hret _ _ _ _ dX1_cloneVolume_95 rfl (by rw [f1_cloneVolume] <;> exact (st_neg c6 (st_match h9 (st_neg c10 (st_let h12 (st_let h13 rfl))))))
    · refine wk_iload_n F dX1_cloneVolume_30 rfl 0 rfl (pc' := 31) rfl ?_
      exact hret _ _ _ _ dX1_cloneVolume_31 rfl (by rw [f1_cloneVolume] <;> exact (st_neg c6 (st_match h9 (st_pos c10 rfl))))
  · refine wk_ldc F dX1_cloneVolume_8 w_1 (pc' := 10) rfl ?_
    exact hret _ _ _ _ dX1_cloneVolume_10 rfl (by rw [f1_cloneVolume] <;> exact (st_pos c6 rfl))
def f1_dropVolume_L15 (p1 : Int32) : Nat → Nat → Int32 → PS → Int32 × PS
  | 0, i, x2, u => (x2, u)
  | n + 1, i, x2, u => (sq2 (f1_loosen u p1 (nI i)) (fun (r2 : Int32) (u1 : PS) => f1_dropVolume_L15 p1 n (i + 1) (x2 + r2) u1))
def f1_dropVolume_L38 (p1 : Int32) : Nat → Nat → PS → PS
  | 0, i, u => u
  | n + 1, i, u => (if (u 3 i) = p1 then (sq (wr u 3 i (u 3 p1.toNatClampNeg)) (fun (u5 : PS) => f1_dropVolume_L38 p1 n (i + 1) u5)) else f1_dropVolume_L38 p1 n (i + 1) u)
def f1_dropVolume (σ : PS) (p1 : Int32) : Int32 × PS := (if (f1_lives σ p1) = 0 then ((-1000001 : Int32), σ) else (sq2 (f1_dropVolume_L15 p1 40 0 (0 : Int32) σ) (fun (y9 : Int32) (u10 : PS) => (sq (f1_dropVolume_L38 p1 8 0 u10) (fun (u12 : PS) => (sq (wr u12 3 p1.toNatClampNeg (-1 : Int32)) (fun (u13 : PS) => (sq (wr u13 2 p1.toNatClampNeg (0 : Int32)) (fun (u15 : PS) => (sq (wr u15 0 p1.toNatClampNeg (0 : Int32)) (fun (u17 : PS) => (y9, u17))))))))))))
set_option maxHeartbeats 4000000 in
set_option maxRecDepth 100000 in
theorem c1_dropVolume (l : Launch) (D : va_G) (cI cP : ClassId) (hs : Nat → Nat) (σ : PS) (p1 : Int32) : CI l yX1_dropVolume wsX1_dropVolume ({ frames := 4, cells := 0, slots := 0, locals := 88 } : Room) D (cty cI cP) (wPool cI hs σ) (wPool cI hs) [.ref (hs 0), .int p1] 0 0 (fun r u => f1_dropVolume σ p1 = (r, u)) := by
  refine CI.of (cc := cX1_dropVolume) (maxL := 4) (rt := .int) (own := RX1) (lv0 := [(0, .ref (hs 0)), (1, .int p1)]) pnX1 rfl rfl (Nat.le_of_ble_eq_true rfl) rfl (fun p e s m args below meth c A Q F hret => ?_)
  have w_2 := F.at (x := Cond.fieldLink RX1 21 "ThinVolumes$Pool" "parents" "[I") 2 rfl
  have w_3 := F.at (x := Cond.fieldLink RX1 18 "ThinVolumes$Pool" "promises" "[I") 3 rfl
  have w_4 := F.at (x := Cond.fieldLink RX1 9 "ThinVolumes$Pool" "sizes" "[I") 4 rfl
  have w_1 := F.at (x := Cond.constant RX1 124 (-1000001)) 1 rfl
  have k_1 : ∀ w ∈ wsX10, w ∈ wsX1_dropVolume := fun _ h => List.mem_cons_of_mem _ (List.mem_append_right _ (h))
  have L15 : ∀ (n : Nat) (i : Nat) (x2 : Int32) (u : PS), i + n = 40 → (∀ (y2 : Int32) (uu : PS), f1_dropVolume_L15 p1 n i x2 u = (y2, uu) → Wk p l e ({ frames := 4, cells := 0, slots := 0, locals := 88 } : Room) s m args below meth c 4 D A 0 0 Q (wPool cI hs uu) [(0, .ref (hs 0)), (1, .int p1), (2, .int y2)] 36 []) → Wk p l e ({ frames := 4, cells := 0, slots := 0, locals := 88 } : Room) s m args below meth c 4 D A 0 0 Q (wPool cI hs u) [(0, .ref (hs 0)), (1, .int p1), (2, .int x2), (3, .int (nI i))] 15 [] := by
    intro n
    induction n with
    | zero =>
      intro i x2 u hi kx
      refine wk_iload_n F dX1_dropVolume_15 rfl 3 rfl (pc' := 16) rfl ?_
      refine wk_bipush F dX1_dropVolume_16 bp_40 (pc' := 18) rfl ?_
      refine wk_icmp_ge (tgt := 36) F dX1_dropVolume_18 (by decide) (pc' := 21) rfl (fun _ => ?_) (fun c => absurd ((nI_leI (a := 40) (b := i) (by omega) (by omega)).mpr (by omega)) c)
      refine wk_lv [0, 1, 2] rfl ?_
      exact kx x2 u (by rw [f1_dropVolume_L15] <;> exact rfl)
    | succ n ih =>
      intro i x2 u hi kx
      refine wk_iload_n F dX1_dropVolume_15 rfl 3 rfl (pc' := 16) rfl ?_
      refine wk_bipush F dX1_dropVolume_16 bp_40 (pc' := 18) rfl ?_
      refine wk_icmp_ge (tgt := 36) F dX1_dropVolume_18 (by decide) (pc' := 21) rfl (fun c => absurd ((nI_leI (a := 40) (b := i) (by omega) (by omega)).mp c) (by omega)) (fun _ => ?_)
      refine wk_iload_n F dX1_dropVolume_21 rfl 2 rfl (pc' := 22) rfl ?_
      refine wk_aload_n F dX1_dropVolume_22 rfl 0 rfl (pc' := 23) rfl ?_
      refine wk_iload_n F dX1_dropVolume_23 rfl 1 rfl (pc' := 24) rfl ?_
      refine wk_iload_n F dX1_dropVolume_24 rfl 3 rfl (pc' := 25) rfl ?_
      refine wk_same_i F (c1_loosen l D cI cP hs u p1 (nI i)) (cwV 2 F.hts gX1_dropVolume_X1_loosen rfl rfl rfl hdX1_loosen ⟨Nat.le_of_ble_eq_true rfl, Nat.le_of_ble_eq_true rfl⟩) 0 1 rfl rfl rfl rfl (Nat.le_of_ble_eq_true rfl) dX1_dropVolume_25 ⟨Nat.zero_le _, Nat.zero_le _⟩ (pc' := 28) rfl (fun r2 u1 h3 => ?_)
      refine wk_iadd F dX1_dropVolume_28 (pc' := 29) rfl ?_
      refine wk_istore_n (lv' := [(2, .int (x2 + r2)), (0, .ref (hs 0)), (1, .int p1), (3, .int (nI i))]) F dX1_dropVolume_29 rfl (Nat.le_of_ble_eq_true rfl) rfl (pc' := 30) rfl ?_
      refine wk_iinc (k := 3) (v := nI (i + 1)) (lv' := [(3, .int (nI (i + 1))), (2, .int (x2 + r2)), (0, .ref (hs 0)), (1, .int p1)]) F dX1_dropVolume_30 rfl (nI_inc i) (Nat.le_of_ble_eq_true rfl) rfl (pc' := 33) rfl ?_
      refine wk_goto (tgt := 15) F dX1_dropVolume_33 (by decide) ?_
      refine wk_lv [2, 3, 1, 0] rfl ?_
      exact ih (i + 1) (x2 + r2) u1 (by omega) (fun y2_ u_ h_ => kx y2_ u_ (Eq.trans (by rw [f1_dropVolume_L15] <;> exact (st_match h3 rfl)) h_))
  have L38 : ∀ (y2 : Int32) (n : Nat) (i : Nat) (u : PS), i + n = 8 → vp_in p1 8 → (∀ (uu : PS), f1_dropVolume_L38 p1 n i u = uu → Wk p l e ({ frames := 4, cells := 0, slots := 0, locals := 88 } : Room) s m args below meth c 4 D A 0 0 Q (wPool cI hs uu) [(0, .ref (hs 0)), (1, .int p1), (2, .int y2)] 72 []) → Wk p l e ({ frames := 4, cells := 0, slots := 0, locals := 88 } : Room) s m args below meth c 4 D A 0 0 Q (wPool cI hs u) [(0, .ref (hs 0)), (1, .int p1), (2, .int y2), (3, .int (nI i))] 38 [] := by
    intro y2 n
    induction n with
    | zero =>
      intro i u hi hv0 kx
      refine wk_iload_n F dX1_dropVolume_38 rfl 3 rfl (pc' := 39) rfl ?_
      refine wk_bipush F dX1_dropVolume_39 bp_8 (pc' := 41) rfl ?_
      refine wk_icmp_ge (tgt := 72) F dX1_dropVolume_41 (by decide) (pc' := 44) rfl (fun _ => ?_) (fun c => absurd ((nI_leI (a := 8) (b := i) (by omega) (by omega)).mpr (by omega)) c)
      refine wk_lv [0, 1, 2] rfl ?_
      exact kx u (by rw [f1_dropVolume_L38] <;> exact rfl)
    | succ n ih =>
      intro i u hi hv0 kx
      refine wk_iload_n F dX1_dropVolume_38 rfl 3 rfl (pc' := 39) rfl ?_
      refine wk_bipush F dX1_dropVolume_39 bp_8 (pc' := 41) rfl ?_
      refine wk_icmp_ge (tgt := 72) F dX1_dropVolume_41 (by decide) (pc' := 44) rfl (fun c => absurd ((nI_leI (a := 8) (b := i) (by omega) (by omega)).mp c) (by omega)) (fun _ => ?_)
      refine wk_aload_n F dX1_dropVolume_44 rfl 0 rfl (pc' := 45) rfl ?_
      refine wk_get (C := RX1) (T := TX1) (N := 14) F 0 rfl rfl k_1 3 (Nat.le_of_ble_eq_true rfl) w_2 rfl dX1_dropVolume_45 (pc' := 48) rfl ?_
      refine wk_iload_n F dX1_dropVolume_48 rfl 3 rfl (pc' := 49) rfl ?_
      refine wk_iald_n (i := i) F 4 0 rfl rfl (by omega) (Nat.le_of_ble_eq_true rfl) dX1_dropVolume_49 (pc' := 50) rfl ?_
      refine wk_iload_n F dX1_dropVolume_50 rfl 1 rfl (pc' := 51) rfl ?_
      refine wk_icmp_ne (tgt := 66) F dX1_dropVolume_51 (by decide) (pc' := 54) rfl (fun c4 => ?_) (fun c4 => ?_)
      · refine wk_iinc (k := 3) (v := nI (i + 1)) (lv' := [(3, .int (nI (i + 1))), (0, .ref (hs 0)), (1, .int p1), (2, .int y2)]) F dX1_dropVolume_66 rfl (nI_inc i) (Nat.le_of_ble_eq_true rfl) rfl (pc' := 69) rfl ?_
        refine wk_goto (tgt := 38) F dX1_dropVolume_69 (by decide) ?_
        refine wk_lv [1, 2, 3, 0] rfl ?_
        exact ih (i + 1) u (by omega) hv0 (fun u_ h_ => kx u_ (Eq.trans (by rw [f1_dropVolume_L38] <;> exact (st_neg c4 rfl)) h_))
      · refine wk_aload_n F dX1_dropVolume_54 rfl 0 rfl (pc' := 55) rfl ?_
        refine wk_get (C := RX1) (T := TX1) (N := 14) F 0 rfl rfl k_1 3 (Nat.le_of_ble_eq_true rfl) w_2 rfl dX1_dropVolume_55 (pc' := 58) rfl ?_
        refine wk_iload_n F dX1_dropVolume_58 rfl 3 rfl (pc' := 59) rfl ?_
        refine wk_aload_n F dX1_dropVolume_59 rfl 0 rfl (pc' := 60) rfl ?_
        refine wk_get (C := RX1) (T := TX1) (N := 14) F 0 rfl rfl k_1 3 (Nat.le_of_ble_eq_true rfl) w_2 rfl dX1_dropVolume_60 (pc' := 63) rfl ?_
        refine wk_iload_n F dX1_dropVolume_63 rfl 1 rfl (pc' := 64) rfl ?_
        refine wk_iald F 4 0 rfl rfl hv0 dX1_dropVolume_64 (pc' := 65) rfl ?_
        refine wk_iastu_n (wg := wPool cI hs) (f0 := wr u 3 i (u 3 p1.toNatClampNeg)) (i := i) F 4 0 rfl rfl aP_3 (by omega) (Nat.le_of_ble_eq_true rfl) dX1_dropVolume_65 (pc' := 66) rfl (fun u5 h6 => ?_)
        refine wk_iinc (k := 3) (v := nI (i + 1)) (lv' := [(3, .int (nI (i + 1))), (0, .ref (hs 0)), (1, .int p1), (2, .int y2)]) F dX1_dropVolume_66 rfl (nI_inc i) (Nat.le_of_ble_eq_true rfl) rfl (pc' := 69) rfl ?_
        refine wk_goto (tgt := 38) F dX1_dropVolume_69 (by decide) ?_
        refine wk_lv [1, 2, 3, 0] rfl ?_
        exact ih (i + 1) u5 (by omega) hv0 (fun u_ h_ => kx u_ (Eq.trans (by rw [f1_dropVolume_L38] <;> exact (st_pos c4 (st_let h6 rfl))) h_))
  refine wk_aload_n F dX1_dropVolume_0 rfl 0 rfl (pc' := 1) rfl ?_
  refine wk_iload_n F dX1_dropVolume_1 rfl 1 rfl (pc' := 2) rfl ?_
  refine wk_same_p F (c1_lives l D cI cP hs σ p1) (cwV 1 F.hts gX1_dropVolume_X1_lives rfl rfl rfl hdX1_lives ⟨Nat.le_of_ble_eq_true rfl, Nat.le_of_ble_eq_true rfl⟩) 0 1 rfl rfl rfl rfl (Nat.le_of_ble_eq_true rfl) dX1_dropVolume_2 ⟨Nat.zero_le _, Nat.zero_le _⟩ (pc' := 5) rfl ?_
  refine wk_if_ne (tgt := 11) F dX1_dropVolume_5 (by decide) (pc' := 8) rfl (fun c7 => ?_) (fun c7 => ?_)
  · refine wk_iconst F dX1_dropVolume_11 ic_0 (pc' := 12) rfl ?_
    refine wk_istore_n (lv' := [(2, .int (0 : Int32)), (0, .ref (hs 0)), (1, .int p1)]) F dX1_dropVolume_12 rfl (Nat.le_of_ble_eq_true rfl) rfl (pc' := 13) rfl ?_
    refine wk_iconst F dX1_dropVolume_13 ic_0 (pc' := 14) rfl ?_
    refine wk_istore_n (lv' := [(3, .int (0 : Int32)), (2, .int (0 : Int32)), (0, .ref (hs 0)), (1, .int p1)]) F dX1_dropVolume_14 rfl (Nat.le_of_ble_eq_true rfl) rfl (pc' := 15) rfl ?_
    refine wk_lv [2, 3, 1, 0] rfl ?_
    refine L15 40 0 (0 : Int32) σ (by omega) (fun y9 u10 h8 => ?_)
    refine wk_iconst F dX1_dropVolume_36 ic_0 (pc' := 37) rfl ?_
    refine wk_istore_n (lv' := [(3, .int (0 : Int32)), (0, .ref (hs 0)), (1, .int p1), (2, .int y9)]) F dX1_dropVolume_37 rfl (Nat.le_of_ble_eq_true rfl) rfl (pc' := 38) rfl ?_
    refine wk_lv [1, 2, 3, 0] rfl ?_
    refine L38 y9 8 0 u10 (by omega) (lives_in c7) (fun u12 h11 => ?_)
    refine wk_aload_n F dX1_dropVolume_72 rfl 0 rfl (pc' := 73) rfl ?_
    refine wk_get (C := RX1) (T := TX1) (N := 14) F 0 rfl rfl k_1 3 (Nat.le_of_ble_eq_true rfl) w_2 rfl dX1_dropVolume_73 (pc' := 76) rfl ?_
    refine wk_iload_n F dX1_dropVolume_76 rfl 1 rfl (pc' := 77) rfl ?_
    refine wk_iconst F dX1_dropVolume_77 ic_m1 (pc' := 78) rfl ?_
    refine wk_iastu (wg := wPool cI hs) (f0 := wr u12 3 p1.toNatClampNeg (-1 : Int32)) F 4 0 rfl rfl aP_3 (lives_in c7) dX1_dropVolume_78 (pc' := 79) rfl (fun u13 h14 => ?_)
    refine wk_aload_n F dX1_dropVolume_79 rfl 0 rfl (pc' := 80) rfl ?_
    refine wk_get (C := RX1) (T := TX1) (N := 14) F 0 rfl rfl k_1 2 (Nat.le_of_ble_eq_true rfl) w_3 rfl dX1_dropVolume_80 (pc' := 83) rfl ?_
    refine wk_iload_n F dX1_dropVolume_83 rfl 1 rfl (pc' := 84) rfl ?_
    refine wk_iconst F dX1_dropVolume_84 ic_0 (pc' := 85) rfl ?_
    refine wk_iastu (wg := wPool cI hs) (f0 := wr u13 2 p1.toNatClampNeg (0 : Int32)) F 3 0 rfl rfl aP_2 (lives_in c7) dX1_dropVolume_85 (pc' := 86) rfl (fun u15 h16 => ?_)
    refine wk_aload_n F dX1_dropVolume_86 rfl 0 rfl (pc' := 87) rfl ?_
    refine wk_get (C := RX1) (T := TX1) (N := 14) F 0 rfl rfl k_1 0 (Nat.le_of_ble_eq_true rfl) w_4 rfl dX1_dropVolume_87 (pc' := 90) rfl ?_
    refine wk_iload_n F dX1_dropVolume_90 rfl 1 rfl (pc' := 91) rfl ?_
    refine wk_iconst F dX1_dropVolume_91 ic_0 (pc' := 92) rfl ?_
    refine wk_iastu (wg := wPool cI hs) (f0 := wr u15 0 p1.toNatClampNeg (0 : Int32)) F 1 0 rfl rfl aP_0 (lives_in c7) dX1_dropVolume_92 (pc' := 93) rfl (fun u17 h18 => ?_)
    refine wk_iload_n F dX1_dropVolume_93 rfl 2 rfl (pc' := 94) rfl ?_
    exact hret _ _ _ _ dX1_dropVolume_94 rfl (by rw [f1_dropVolume] <;> exact (st_neg c7 (st_match h8 (st_let h11 (st_let h14 (st_let h16 (st_let h18 rfl)))))))
  · refine wk_ldc F dX1_dropVolume_8 w_1 (pc' := 10) rfl ?_
    exact hret _ _ _ _ dX1_dropVolume_10 rfl (by rw [f1_dropVolume] <;> exact (st_pos c7 rfl))
def f1_changePromise (σ : PS) (p1 : Int32) (p2 : Int32) : Int32 × PS := (if (f1_lives σ p1) = 0 then ((-1000001 : Int32), σ) else (if p2 < 0 then ((-1000001 : Int32), σ) else (if p2 ≤ (30 : Int32) then (if (((f1_allPromises σ) - (σ 2 p1.toNatClampNeg)) + p2) ≤ (f1_freePieces σ) then (sq (wr σ 2 p1.toNatClampNeg p2) (fun (u5 : PS) => (sq (f1_warnIfLevelRose u5 (f1_level σ)) (fun (u7 : PS) => (σ 2 p1.toNatClampNeg, u7))))) else ((-1000002 : Int32), σ)) else ((-1000001 : Int32), σ))))
set_option maxHeartbeats 4000000 in
set_option maxRecDepth 100000 in
theorem c1_changePromise (l : Launch) (D : va_G) (cI cP : ClassId) (hs : Nat → Nat) (σ : PS) (p1 : Int32) (p2 : Int32) : CI l yX1_changePromise wsX1_changePromise ({ frames := 3, cells := 0, slots := 0, locals := 105 } : Room) D (cty cI cP) (wPool cI hs σ) (wPool cI hs) [.ref (hs 0), .int p1, .int p2] 0 0 (fun r u => f1_changePromise σ p1 p2 = (r, u)) := by
  refine CI.of (cc := cX1_changePromise) (maxL := 5) (rt := .int) (own := RX1) (lv0 := [(0, .ref (hs 0)), (1, .int p1), (2, .int p2)]) pnX1 rfl rfl (Nat.le_of_ble_eq_true rfl) rfl (fun p e s m args below meth c A Q F hret => ?_)
  have w_1 := F.at (x := Cond.constant RX1 124 (-1000001)) 1 rfl
  have w_2 := F.at (x := Cond.fieldLink RX1 18 "ThinVolumes$Pool" "promises" "[I") 2 rfl
  have w_3 := F.at (x := Cond.constant RX1 132 (-1000002)) 3 rfl
  have k_1 : ∀ w ∈ wsX10, w ∈ wsX1_changePromise := fun _ h => List.mem_cons_of_mem _ (List.mem_append_left _ (List.mem_append_right _ (h)))
  refine wk_aload_n F dX1_changePromise_0 rfl 0 rfl (pc' := 1) rfl ?_
  refine wk_iload_n F dX1_changePromise_1 rfl 1 rfl (pc' := 2) rfl ?_
  refine wk_same_p F (c1_lives l D cI cP hs σ p1) (cwV 1 F.hts gX1_changePromise_X1_lives rfl rfl rfl hdX1_lives ⟨Nat.le_of_ble_eq_true rfl, Nat.le_of_ble_eq_true rfl⟩) 0 1 rfl rfl rfl rfl (Nat.le_of_ble_eq_true rfl) dX1_changePromise_2 ⟨Nat.zero_le _, Nat.zero_le _⟩ (pc' := 5) rfl ?_
  refine wk_if_eq (tgt := 18) F dX1_changePromise_5 (by decide) (pc' := 8) rfl (fun c1 => ?_) (fun c1 => ?_)
  · refine wk_ldc F dX1_changePromise_18 w_1 (pc' := 20) rfl ?_
    exact hret _ _ _ _ dX1_changePromise_20 rfl (by rw [f1_changePromise] <;> exact (st_pos c1 rfl))
  · refine wk_iload_n F dX1_changePromise_8 rfl 2 rfl (pc' := 9) rfl ?_
    refine wk_if_lt (tgt := 18) F dX1_changePromise_9 (by decide) (pc' := 12) rfl (fun c2 => ?_) (fun c2 => ?_)
    · refine wk_ldc F dX1_changePromise_18 w_1 (pc' := 20) rfl ?_
      exact hret _ _ _ _ dX1_changePromise_20 rfl (by rw [f1_changePromise] <;> exact (st_neg c1 (st_pos c2 rfl)))
    · refine wk_iload_n F dX1_changePromise_12 rfl 2 rfl (pc' := 13) rfl ?_
      refine wk_bipush F dX1_changePromise_13 bp_30 (pc' := 15) rfl ?_
      refine wk_icmp_le (tgt := 21) F dX1_changePromise_15 (by decide) (pc' := 18) rfl (fun c3 => ?_) (fun c3 => ?_)
      · refine wk_aload_n F dX1_changePromise_21 rfl 0 rfl (pc' := 22) rfl ?_
        refine wk_get (C := RX1) (T := TX1) (N := 14) F 0 rfl rfl k_1 2 (Nat.le_of_ble_eq_true rfl) w_2 rfl dX1_changePromise_22 (pc' := 25) rfl ?_
        refine wk_iload_n F dX1_changePromise_25 rfl 1 rfl (pc' := 26) rfl ?_
        refine wk_iald F 3 0 rfl rfl (lives_in c1) dX1_changePromise_26 (pc' := 27) rfl ?_
        refine wk_istore_n (lv' := [(3, .int (σ 2 p1.toNatClampNeg)), (0, .ref (hs 0)), (1, .int p1), (2, .int p2)]) F dX1_changePromise_27 rfl (Nat.le_of_ble_eq_true rfl) rfl (pc' := 28) rfl ?_
        refine wk_aload_n F dX1_changePromise_28 rfl 1 rfl (pc' := 29) rfl ?_
        refine wk_same_p F (c1_allPromises l D cI cP hs σ) (cwV 0 F.hts gX1_changePromise_X1_allPromises rfl rfl rfl hdX1_allPromises ⟨Nat.le_of_ble_eq_true rfl, Nat.le_of_ble_eq_true rfl⟩) 0 1 rfl rfl rfl rfl (Nat.le_of_ble_eq_true rfl) dX1_changePromise_29 ⟨Nat.zero_le _, Nat.zero_le _⟩ (pc' := 32) rfl ?_
        refine wk_iload_n F dX1_changePromise_32 rfl 0 rfl (pc' := 33) rfl ?_
        refine wk_isub F dX1_changePromise_33 (pc' := 34) rfl ?_
        refine wk_iload_n F dX1_changePromise_34 rfl 3 rfl (pc' := 35) rfl ?_
        refine wk_iadd F dX1_changePromise_35 (pc' := 36) rfl ?_
        refine wk_aload_n F dX1_changePromise_36 rfl 1 rfl (pc' := 37) rfl ?_
        refine wk_same_p F (c1_freePieces l D cI cP hs σ) (cwV 0 F.hts gX1_changePromise_X1_freePieces rfl rfl rfl hdX1_freePieces ⟨Nat.le_of_ble_eq_true rfl, Nat.le_of_ble_eq_true rfl⟩) 0 1 rfl rfl rfl rfl (Nat.le_of_ble_eq_true rfl) dX1_changePromise_37 ⟨Nat.zero_le _, Nat.zero_le _⟩ (pc' := 40) rfl ?_
        refine wk_icmp_le (tgt := 46) F dX1_changePromise_40 (by decide) (pc' := 43) rfl (fun c4 => ?_) (fun c4 => ?_)
        · refine wk_aload_n F dX1_changePromise_46 rfl 1 rfl (pc' := 47) rfl ?_
          refine wk_same_p F (c1_level l D cI cP hs σ) (cwV 0 F.hts gX1_changePromise_X1_level rfl rfl rfl hdX1_level ⟨Nat.le_of_ble_eq_true rfl, Nat.le_of_ble_eq_true rfl⟩) 0 1 rfl rfl rfl rfl (Nat.le_of_ble_eq_true rfl) dX1_changePromise_47 ⟨Nat.zero_le _, Nat.zero_le _⟩ (pc' := 50) rfl ?_
          refine wk_istore (lv' := [(4, .int (f1_level σ)), (3, .int (σ 2 p1.toNatClampNeg)), (0, .ref (hs 0)), (1, .int p1), (2, .int p2)]) F dX1_changePromise_50 (Nat.le_of_ble_eq_true rfl) rfl (pc' := 52) rfl ?_
          refine wk_aload_n F dX1_changePromise_52 rfl 2 rfl (pc' := 53) rfl ?_
          refine wk_get (C := RX1) (T := TX1) (N := 14) F 0 rfl rfl k_1 2 (Nat.le_of_ble_eq_true rfl) w_2 rfl dX1_changePromise_53 (pc' := 56) rfl ?_
          refine wk_iload_n F dX1_changePromise_56 rfl 3 rfl (pc' := 57) rfl ?_
          refine wk_iload_n F dX1_changePromise_57 rfl 4 rfl (pc' := 58) rfl ?_
          refine wk_iastu (wg := wPool cI hs) (f0 := wr σ 2 p1.toNatClampNeg p2) F 3 0 rfl rfl aP_2 (lives_in c1) dX1_changePromise_58 (pc' := 59) rfl (fun u5 h6 => ?_)
          refine wk_aload_n F dX1_changePromise_59 rfl 2 rfl (pc' := 60) rfl ?_
          refine wk_iload F dX1_changePromise_60 0 rfl (pc' := 62) rfl ?_
          refine wk_same_v F (c1_warnIfLevelRose l D cI cP hs u5 (f1_level σ)) (cwV 1 F.hts gX1_changePromise_X1_warnIfLevelRose rfl rfl rfl hdX1_warnIfLevelRose ⟨Nat.le_of_ble_eq_true rfl, Nat.le_of_ble_eq_true rfl⟩) 0 1 rfl rfl rfl rfl (Nat.le_of_ble_eq_true rfl) dX1_changePromise_62 ⟨Nat.zero_le _, Nat.zero_le _⟩ (pc' := 65) rfl (fun u7 h8 => ?_)
          refine wk_iload_n F dX1_changePromise_65 rfl 1 rfl (pc' := 66) rfl ?_
          exact hret _ _ _ _ dX1_changePromise_66 rfl (by rw [f1_changePromise] <;> exact (st_neg c1 (st_neg c2 (st_pos c3 (st_pos c4 (st_let h6 (st_let h8 rfl)))))))
        · refine wk_ldc F dX1_changePromise_43 w_3 (pc' := 45) rfl ?_
          exact hret _ _ _ _ dX1_changePromise_45 rfl (by rw [f1_changePromise] <;> exact (st_neg c1 (st_neg c2 (st_pos c3 (st_neg c4 rfl)))))
      · refine wk_ldc F dX1_changePromise_18 w_1 (pc' := 20) rfl ?_
        exact hret _ _ _ _ dX1_changePromise_20 rfl (by rw [f1_changePromise] <;> exact (st_neg c1 (st_neg c2 (st_neg c3 rfl))))
def f1_changeSetting (σ : PS) (p1 : Int32) (p2 : Int32) : Int32 × PS := (if p1 < 0 then ((-1000001 : Int32), σ) else (if (3 : Int32) ≤ p1 then ((-1000001 : Int32), σ) else (if p2 < 0 then ((-1000001 : Int32), σ) else (if p2 ≤ (f1_highestSetting σ p1) then (sq (wr σ 9 p1.toNatClampNeg p2) (fun (u5 : PS) => (sq (f1_warnIfLevelRose u5 (f1_level σ)) (fun (u7 : PS) => (σ 9 p1.toNatClampNeg, u7))))) else ((-1000001 : Int32), σ)))))
set_option maxHeartbeats 4000000 in
set_option maxRecDepth 100000 in
theorem c1_changeSetting (l : Launch) (D : va_G) (cI cP : ClassId) (hs : Nat → Nat) (σ : PS) (p1 : Int32) (p2 : Int32) : CI l yX1_changeSetting wsX1_changeSetting ({ frames := 3, cells := 0, slots := 0, locals := 105 } : Room) D (cty cI cP) (wPool cI hs σ) (wPool cI hs) [.ref (hs 0), .int p1, .int p2] 0 0 (fun r u => f1_changeSetting σ p1 p2 = (r, u)) := by
  refine CI.of (cc := cX1_changeSetting) (maxL := 5) (rt := .int) (own := RX1) (lv0 := [(0, .ref (hs 0)), (1, .int p1), (2, .int p2)]) pnX1 rfl rfl (Nat.le_of_ble_eq_true rfl) rfl (fun p e s m args below meth c A Q F hret => ?_)
  have w_1 := F.at (x := Cond.constant RX1 124 (-1000001)) 1 rfl
  have w_2 := F.at (x := Cond.fieldLink RX1 39 "ThinVolumes$Pool" "settings" "[I") 2 rfl
  have k_1 : ∀ w ∈ wsX10, w ∈ wsX1_changeSetting := fun _ h => List.mem_cons_of_mem _ (List.mem_append_left _ (List.mem_append_right _ (h)))
  refine wk_iload_n F dX1_changeSetting_0 rfl 1 rfl (pc' := 1) rfl ?_
  refine wk_if_lt (tgt := 22) F dX1_changeSetting_1 (by decide) (pc' := 4) rfl (fun c1 => ?_) (fun c1 => ?_)
  · refine wk_ldc F dX1_changeSetting_22 w_1 (pc' := 24) rfl ?_
    exact hret _ _ _ _ dX1_changeSetting_24 rfl (by rw [f1_changeSetting] <;> exact (st_pos c1 rfl))
  · refine wk_iload_n F dX1_changeSetting_4 rfl 1 rfl (pc' := 5) rfl ?_
    refine wk_iconst F dX1_changeSetting_5 ic_3 (pc' := 6) rfl ?_
    refine wk_icmp_ge (tgt := 22) F dX1_changeSetting_6 (by decide) (pc' := 9) rfl (fun c2 => ?_) (fun c2 => ?_)
    · refine wk_ldc F dX1_changeSetting_22 w_1 (pc' := 24) rfl ?_
      exact hret _ _ _ _ dX1_changeSetting_24 rfl (by rw [f1_changeSetting] <;> exact (st_neg c1 (st_pos c2 rfl)))
    · refine wk_iload_n F dX1_changeSetting_9 rfl 2 rfl (pc' := 10) rfl ?_
      refine wk_if_lt (tgt := 22) F dX1_changeSetting_10 (by decide) (pc' := 13) rfl (fun c3 => ?_) (fun c3 => ?_)
      · refine wk_ldc F dX1_changeSetting_22 w_1 (pc' := 24) rfl ?_
        exact hret _ _ _ _ dX1_changeSetting_24 rfl (by rw [f1_changeSetting] <;> exact (st_neg c1 (st_neg c2 (st_pos c3 rfl))))
      · refine wk_iload_n F dX1_changeSetting_13 rfl 2 rfl (pc' := 14) rfl ?_
        refine wk_aload_n F dX1_changeSetting_14 rfl 0 rfl (pc' := 15) rfl ?_
        refine wk_iload_n F dX1_changeSetting_15 rfl 1 rfl (pc' := 16) rfl ?_
        refine wk_same_p F (c1_highestSetting l D cI cP hs σ p1) (cwV 1 F.hts gX1_changeSetting_X1_highestSetting rfl rfl rfl hdX1_highestSetting ⟨Nat.le_of_ble_eq_true rfl, Nat.le_of_ble_eq_true rfl⟩) 0 1 rfl rfl rfl rfl (Nat.le_of_ble_eq_true rfl) dX1_changeSetting_16 ⟨Nat.zero_le _, Nat.zero_le _⟩ (pc' := 19) rfl ?_
        refine wk_icmp_le (tgt := 25) F dX1_changeSetting_19 (by decide) (pc' := 22) rfl (fun c4 => ?_) (fun c4 => ?_)
        · refine wk_aload_n F dX1_changeSetting_25 rfl 0 rfl (pc' := 26) rfl ?_
          refine wk_get (C := RX1) (T := TX1) (N := 14) F 0 rfl rfl k_1 9 (Nat.le_of_ble_eq_true rfl) w_2 rfl dX1_changeSetting_26 (pc' := 29) rfl ?_
          refine wk_iload_n F dX1_changeSetting_29 rfl 1 rfl (pc' := 30) rfl ?_
          refine wk_iald F 10 0 rfl rfl (vin c1 c2 (Nat.le_of_ble_eq_true rfl)) dX1_changeSetting_30 (pc' := 31) rfl ?_
          refine wk_istore_n (lv' := [(3, .int (σ 9 p1.toNatClampNeg)), (0, .ref (hs 0)), (1, .int p1), (2, .int p2)]) F dX1_changeSetting_31 rfl (Nat.le_of_ble_eq_true rfl) rfl (pc' := 32) rfl ?_
          refine wk_aload_n F dX1_changeSetting_32 rfl 1 rfl (pc' := 33) rfl ?_
          refine wk_same_p F (c1_level l D cI cP hs σ) (cwV 0 F.hts gX1_changeSetting_X1_level rfl rfl rfl hdX1_level ⟨Nat.le_of_ble_eq_true rfl, Nat.le_of_ble_eq_true rfl⟩) 0 1 rfl rfl rfl rfl (Nat.le_of_ble_eq_true rfl) dX1_changeSetting_33 ⟨Nat.zero_le _, Nat.zero_le _⟩ (pc' := 36) rfl ?_
          refine wk_istore (lv' := [(4, .int (f1_level σ)), (3, .int (σ 9 p1.toNatClampNeg)), (0, .ref (hs 0)), (1, .int p1), (2, .int p2)]) F dX1_changeSetting_36 (Nat.le_of_ble_eq_true rfl) rfl (pc' := 38) rfl ?_
          refine wk_aload_n F dX1_changeSetting_38 rfl 2 rfl (pc' := 39) rfl ?_
          refine wk_get (C := RX1) (T := TX1) (N := 14) F 0 rfl rfl k_1 9 (Nat.le_of_ble_eq_true rfl) w_2 rfl dX1_changeSetting_39 (pc' := 42) rfl ?_
          refine wk_iload_n F dX1_changeSetting_42 rfl 3 rfl (pc' := 43) rfl ?_
          refine wk_iload_n F dX1_changeSetting_43 rfl 4 rfl (pc' := 44) rfl ?_
          refine wk_iastu (wg := wPool cI hs) (f0 := wr σ 9 p1.toNatClampNeg p2) F 10 0 rfl rfl aP_9 (vin c1 c2 (Nat.le_of_ble_eq_true rfl)) dX1_changeSetting_44 (pc' := 45) rfl (fun u5 h6 => ?_)
          refine wk_aload_n F dX1_changeSetting_45 rfl 2 rfl (pc' := 46) rfl ?_
          refine wk_iload F dX1_changeSetting_46 0 rfl (pc' := 48) rfl ?_
          refine wk_same_v F (c1_warnIfLevelRose l D cI cP hs u5 (f1_level σ)) (cwV 1 F.hts gX1_changeSetting_X1_warnIfLevelRose rfl rfl rfl hdX1_warnIfLevelRose ⟨Nat.le_of_ble_eq_true rfl, Nat.le_of_ble_eq_true rfl⟩) 0 1 rfl rfl rfl rfl (Nat.le_of_ble_eq_true rfl) dX1_changeSetting_48 ⟨Nat.zero_le _, Nat.zero_le _⟩ (pc' := 51) rfl (fun u7 h8 => ?_)
          refine wk_iload_n F dX1_changeSetting_51 rfl 1 rfl (pc' := 52) rfl ?_
          exact hret _ _ _ _ dX1_changeSetting_52 rfl (by rw [f1_changeSetting] <;> exact (st_neg c1 (st_neg c2 (st_neg c3 (st_pos c4 (st_let h6 (st_let h8 rfl)))))))
        · refine wk_ldc F dX1_changeSetting_22 w_1 (pc' := 24) rfl ?_
          exact hret _ _ _ _ dX1_changeSetting_24 rfl (by rw [f1_changeSetting] <;> exact (st_neg c1 (st_neg c2 (st_neg c3 (st_neg c4 rfl)))))
def f1_refuse (σ : PS) (p1 : Int32) : PS := (sq (wr σ 1 p1.toNatClampNeg (if ((σ 1 p1.toNatClampNeg) - (1 : Int32)) < (0 : Int32) then (0 : Int32) else ((σ 1 p1.toNatClampNeg) - (1 : Int32)))) (fun (u1 : PS) => (sq (wr u1 4 p1.toNatClampNeg ((u1 4 p1.toNatClampNeg) + (1 : Int32))) (fun (u3 : PS) => (sq (wr u3 13 0 ((u3 13 0) + (1 : Int32))) (fun (u5 : PS) => (sq (f4_add u5 (1 : Int32) p1 (f1_available u5)) (fun (u7 : PS) => u7))))))))
set_option maxHeartbeats 4000000 in
set_option maxRecDepth 100000 in
theorem c1_refuse (l : Launch) (D : va_G) (cI cP : ClassId) (hs : Nat → Nat) (σ : PS) (p1 : Int32) (hp_p1 : vp_in p1 8) : CV l yX1_refuse wsX1_refuse ({ frames := 2, cells := 0, slots := 0, locals := 83 } : Room) D (cty cI cP) (wPool cI hs σ) (wPool cI hs) [.ref (hs 0), .int p1] 0 0 (fun u => f1_refuse σ p1 = u) := by
  refine CV.of (cc := cX1_refuse) (maxL := 2) (own := RX1) (lv0 := [(0, .ref (hs 0)), (1, .int p1)]) pnX1 rfl rfl (Nat.le_of_ble_eq_true rfl) rfl (fun p e s m args below meth c A Q F hmn hret => ?_)
  have w_1 := F.at (x := Cond.fieldLink RX1 15 "ThinVolumes$Pool" "manners" "[I") 1 rfl
  have w_2 := F.at (x := Cond.methodLink RX1 91 Lib.Math.max.name) 2 rfl
  have w_3 := F.at (x := Cond.static Lib.Math.max.name) 3 rfl
  have w_4 := F.at (x := Cond.initialized "java/lang/Math") 4 rfl
  have w_5 := F.at (x := Cond.code Lib.Math.max.name Lib.Math.max.code 2 (some .int)) 5 rfl
  have w_6 := F.at (x := Cond.fieldLink RX1 24 "ThinVolumes$Pool" "refusalsOf" "[I") 6 rfl
  have w_7 := F.at (x := Cond.fieldLink RX1 59 "ThinVolumes$Pool" "refusals" "I") 7 rfl
  have w_8 := F.at (x := Cond.fieldLink RX1 45 "ThinVolumes$Pool" "warnings" "LThinVolumes$Warnings;") 8 rfl
  have k_1 : ∀ w ∈ wsX10, w ∈ wsX1_refuse := fun _ h => List.mem_cons_of_mem _ (List.mem_append_left _ (List.mem_append_right _ (h)))
  refine wk_aload_n F dX1_refuse_0 rfl 0 rfl (pc' := 1) rfl ?_
  refine wk_get (C := RX1) (T := TX1) (N := 14) F 0 rfl rfl k_1 1 (Nat.le_of_ble_eq_true rfl) w_1 rfl dX1_refuse_1 (pc' := 4) rfl ?_
  refine wk_iload_n F dX1_refuse_4 rfl 1 rfl (pc' := 5) rfl ?_
  refine wk_aload_n F dX1_refuse_5 rfl 0 rfl (pc' := 6) rfl ?_
  refine wk_get (C := RX1) (T := TX1) (N := 14) F 0 rfl rfl k_1 1 (Nat.le_of_ble_eq_true rfl) w_1 rfl dX1_refuse_6 (pc' := 9) rfl ?_
  refine wk_iload_n F dX1_refuse_9 rfl 1 rfl (pc' := 10) rfl ?_
  refine wk_iald F 2 0 rfl rfl hp_p1 dX1_refuse_10 (pc' := 11) rfl ?_
  refine wk_iconst F dX1_refuse_11 ic_1 (pc' := 12) rfl ?_
  refine wk_isub F dX1_refuse_12 (pc' := 13) rfl ?_
  refine wk_iconst F dX1_refuse_13 ic_0 (pc' := 14) rfl ?_
  refine wk_mmax F w_2 w_3 w_4 w_5 (Nat.le_of_ble_eq_true rfl) (Nat.le_of_ble_eq_true rfl) (Nat.zero_le _) (Nat.zero_le _) dX1_refuse_14 (pc' := 17) rfl ?_
  refine wk_iastu (wg := wPool cI hs) (f0 := wr σ 1 p1.toNatClampNeg (if ((σ 1 p1.toNatClampNeg) - (1 : Int32)) < (0 : Int32) then (0 : Int32) else ((σ 1 p1.toNatClampNeg) - (1 : Int32)))) F 2 0 rfl rfl aP_1 hp_p1 dX1_refuse_17 (pc' := 18) rfl (fun u1 h2 => ?_)
  refine wk_aload_n F dX1_refuse_18 rfl 0 rfl (pc' := 19) rfl ?_
  refine wk_get (C := RX1) (T := TX1) (N := 14) F 0 rfl rfl k_1 4 (Nat.le_of_ble_eq_true rfl) w_6 rfl dX1_refuse_19 (pc' := 22) rfl ?_
  refine wk_iload_n F dX1_refuse_22 rfl 1 rfl (pc' := 23) rfl ?_
  refine wk_dup2 F dX1_refuse_23 rfl rfl (pc' := 24) rfl ?_
  refine wk_iald F 5 0 rfl rfl hp_p1 dX1_refuse_24 (pc' := 25) rfl ?_
  refine wk_iconst F dX1_refuse_25 ic_1 (pc' := 26) rfl ?_
  refine wk_iadd F dX1_refuse_26 (pc' := 27) rfl ?_
  refine wk_iastu (wg := wPool cI hs) (f0 := wr u1 4 p1.toNatClampNeg ((u1 4 p1.toNatClampNeg) + (1 : Int32))) F 5 0 rfl rfl aP_4 hp_p1 dX1_refuse_27 (pc' := 28) rfl (fun u3 h4 => ?_)
  refine wk_aload_n F dX1_refuse_28 rfl 0 rfl (pc' := 29) rfl ?_
  refine wk_dup F dX1_refuse_29 rfl (pc' := 30) rfl ?_
  refine wk_get (C := RX1) (T := TX1) (N := 14) F 0 rfl rfl k_1 11 (Nat.le_of_ble_eq_true rfl) w_7 rfl dX1_refuse_30 (pc' := 33) rfl ?_
  refine wk_iconst F dX1_refuse_33 ic_1 (pc' := 34) rfl ?_
  refine wk_iadd F dX1_refuse_34 (pc' := 35) rfl ?_
  refine wk_putu (wg := wPool cI hs) (f0 := wr u3 13 0 ((u3 13 0) + (1 : Int32))) (C := RX1) (T := TX1) (N := 14) (ty0 := tyX1) F 0 rfl rfl k_1 tyX1_ok nmX1 11 (Nat.le_of_ble_eq_true rfl) w_7 rfl rfl rfl (Nat.le_of_ble_eq_true rfl) sP_0 dX1_refuse_35 (pc' := 38) rfl (fun u5 h6 => ?_)
  refine wk_aload_n F dX1_refuse_38 rfl 0 rfl (pc' := 39) rfl ?_
  refine wk_get (C := RX1) (T := TX1) (N := 14) F 0 rfl rfl k_1 10 (Nat.le_of_ble_eq_true rfl) w_8 rfl dX1_refuse_39 (pc' := 42) rfl ?_
  refine wk_iconst F dX1_refuse_42 ic_1 (pc' := 43) rfl ?_
  refine wk_iload_n F dX1_refuse_43 rfl 1 rfl (pc' := 44) rfl ?_
  refine wk_aload_n F dX1_refuse_44 rfl 0 rfl (pc' := 45) rfl ?_
  refine wk_same_p F (c1_available l D cI cP hs u5) (cwV 0 F.hts gX1_refuse_X1_available rfl rfl rfl hdX1_available ⟨Nat.le_of_ble_eq_true rfl, Nat.le_of_ble_eq_true rfl⟩) 0 1 rfl rfl rfl rfl (Nat.le_of_ble_eq_true rfl) dX1_refuse_45 ⟨Nat.zero_le _, Nat.zero_le _⟩ (pc' := 48) rfl ?_
  refine wk_sub_v (w' := wPool cI hs) (wr := wPool11 cI hs u5) F (c4_add l D cI cP hs u5 (1 : Int32) p1 (f1_available u5)) (cwV 3 F.hts gX1_refuse_X4_add rfl rfl rfl hdX4_add ⟨Nat.le_of_ble_eq_true rfl, Nat.le_of_ble_eq_true rfl⟩) [11, 12, 13, 14] [0, 1, 2, 3, 4, 5, 6, 7, 8, 9, 10] hCW hRW rfl rfl (by decide) 0 4 rfl rfl rfl rfl (Nat.le_of_ble_eq_true rfl) dX1_refuse_48 ⟨Nat.zero_le _, Nat.zero_le _⟩ (pc' := 51) rfl hw_add (fun u7 h8 => ?_)
  exact hret _ _ _ dX1_refuse_51 (by rw [f1_refuse] <;> exact (st_let h2 (st_let h4 (st_let h6 (st_let h8 rfl)))))
def f1_bookPiece (σ : PS) (p1 : Int32) (p2 : Int32) (p3 : Int32) : PS := (sq (wr σ 5 p1.toNatClampNeg ((σ 5 p1.toNatClampNeg) + (1 : Int32))) (fun (u1 : PS) => (sq (wr u1 13 1 ((u1 13 1) + (1 : Int32))) (fun (u3 : PS) => (if p2 = 0 then (sq (wr u3 1 p1.toNatClampNeg (f1_mannersBehindUnpromised u3 (u3 1 p1.toNatClampNeg) p3)) (fun (u11 : PS) => (sq (f1_warnIfLevelRose u11 p3) (fun (u13 : PS) => u13)))) else (sq (wr u3 2 p1.toNatClampNeg ((u3 2 p1.toNatClampNeg) - (1 : Int32))) (fun (u6 : PS) => (if (u6 2 p1.toNatClampNeg) = 0 then (sq (f4_add u6 (2 : Int32) p1 (f1_available u6)) (fun (u9 : PS) => u9)) else u6))))))))
set_option maxHeartbeats 4000000 in
set_option maxRecDepth 100000 in
theorem c1_bookPiece (l : Launch) (D : va_G) (cI cP : ClassId) (hs : Nat → Nat) (σ : PS) (p1 : Int32) (p2 : Int32) (p3 : Int32) (hp_p1 : vp_in p1 8) : CV l yX1_bookPiece wsX1_bookPiece ({ frames := 3, cells := 0, slots := 0, locals := 105 } : Room) D (cty cI cP) (wPool cI hs σ) (wPool cI hs) [.ref (hs 0), .int p1, .int p2, .int p3] 0 0 (fun u => f1_bookPiece σ p1 p2 p3 = u) := by
  refine CV.of (cc := cX1_bookPiece) (maxL := 4) (own := RX1) (lv0 := [(0, .ref (hs 0)), (1, .int p1), (2, .int p2), (3, .int p3)]) pnX1 rfl rfl (Nat.le_of_ble_eq_true rfl) rfl (fun p e s m args below meth c A Q F hmn hret => ?_)
  have w_1 := F.at (x := Cond.fieldLink RX1 27 "ThinVolumes$Pool" "piecesGotBy" "[I") 1 rfl
  have w_2 := F.at (x := Cond.fieldLink RX1 63 "ThinVolumes$Pool" "piecesGot" "I") 2 rfl
  have w_4 := F.at (x := Cond.fieldLink RX1 18 "ThinVolumes$Pool" "promises" "[I") 4 rfl
  have w_5 := F.at (x := Cond.fieldLink RX1 45 "ThinVolumes$Pool" "warnings" "LThinVolumes$Warnings;") 5 rfl
  have w_3 := F.at (x := Cond.fieldLink RX1 15 "ThinVolumes$Pool" "manners" "[I") 3 rfl
  have k_1 : ∀ w ∈ wsX10, w ∈ wsX1_bookPiece := fun _ h => List.mem_cons_of_mem _ (List.mem_append_left _ (List.mem_append_right _ (h)))
  refine wk_aload_n F dX1_bookPiece_0 rfl 0 rfl (pc' := 1) rfl ?_
  refine wk_get (C := RX1) (T := TX1) (N := 14) F 0 rfl rfl k_1 5 (Nat.le_of_ble_eq_true rfl) w_1 rfl dX1_bookPiece_1 (pc' := 4) rfl ?_
  refine wk_iload_n F dX1_bookPiece_4 rfl 1 rfl (pc' := 5) rfl ?_
  refine wk_dup2 F dX1_bookPiece_5 rfl rfl (pc' := 6) rfl ?_
  refine wk_iald F 6 0 rfl rfl hp_p1 dX1_bookPiece_6 (pc' := 7) rfl ?_
  refine wk_iconst F dX1_bookPiece_7 ic_1 (pc' := 8) rfl ?_
  refine wk_iadd F dX1_bookPiece_8 (pc' := 9) rfl ?_
  refine wk_iastu (wg := wPool cI hs) (f0 := wr σ 5 p1.toNatClampNeg ((σ 5 p1.toNatClampNeg) + (1 : Int32))) F 6 0 rfl rfl aP_5 hp_p1 dX1_bookPiece_9 (pc' := 10) rfl (fun u1 h2 => ?_)
  refine wk_aload_n F dX1_bookPiece_10 rfl 0 rfl (pc' := 11) rfl ?_
  refine wk_dup F dX1_bookPiece_11 rfl (pc' := 12) rfl ?_
  refine wk_get (C := RX1) (T := TX1) (N := 14) F 0 rfl rfl k_1 12 (Nat.le_of_ble_eq_true rfl) w_2 rfl dX1_bookPiece_12 (pc' := 15) rfl ?_
  refine wk_iconst F dX1_bookPiece_15 ic_1 (pc' := 16) rfl ?_
  refine wk_iadd F dX1_bookPiece_16 (pc' := 17) rfl ?_
  refine wk_putu (wg := wPool cI hs) (f0 := wr u1 13 1 ((u1 13 1) + (1 : Int32))) (C := RX1) (T := TX1) (N := 14) (ty0 := tyX1) F 0 rfl rfl k_1 tyX1_ok nmX1 12 (Nat.le_of_ble_eq_true rfl) w_2 rfl rfl rfl (Nat.le_of_ble_eq_true rfl) sP_1 dX1_bookPiece_17 (pc' := 20) rfl (fun u3 h4 => ?_)
  refine wk_iload_n F dX1_bookPiece_20 rfl 2 rfl (pc' := 21) rfl ?_
  refine wk_if_ne (tgt := 47) F dX1_bookPiece_21 (by decide) (pc' := 24) rfl (fun c5 => ?_) (fun c5 => ?_)
  · refine wk_aload_n F dX1_bookPiece_47 rfl 0 rfl (pc' := 48) rfl ?_
    refine wk_get (C := RX1) (T := TX1) (N := 14) F 0 rfl rfl k_1 2 (Nat.le_of_ble_eq_true rfl) w_4 rfl dX1_bookPiece_48 (pc' := 51) rfl ?_
    refine wk_iload_n F dX1_bookPiece_51 rfl 1 rfl (pc' := 52) rfl ?_
    refine wk_dup2 F dX1_bookPiece_52 rfl rfl (pc' := 53) rfl ?_
    refine wk_iald F 3 0 rfl rfl hp_p1 dX1_bookPiece_53 (pc' := 54) rfl ?_
    refine wk_iconst F dX1_bookPiece_54 ic_1 (pc' := 55) rfl ?_
    refine wk_isub F dX1_bookPiece_55 (pc' := 56) rfl ?_
    refine wk_iastu (wg := wPool cI hs) (f0 := wr u3 2 p1.toNatClampNeg ((u3 2 p1.toNatClampNeg) - (1 : Int32))) F 3 0 rfl rfl aP_2 hp_p1 dX1_bookPiece_56 (pc' := 57) rfl (fun u6 h7 => ?_)
    refine wk_aload_n F dX1_bookPiece_57 rfl 0 rfl (pc' := 58) rfl ?_
    refine wk_get (C := RX1) (T := TX1) (N := 14) F 0 rfl rfl k_1 2 (Nat.le_of_ble_eq_true rfl) w_4 rfl dX1_bookPiece_58 (pc' := 61) rfl ?_
    refine wk_iload_n F dX1_bookPiece_61 rfl 1 rfl (pc' := 62) rfl ?_
    refine wk_iald F 3 0 rfl rfl hp_p1 dX1_bookPiece_62 (pc' := 63) rfl ?_
    refine wk_if_ne (tgt := 79) F dX1_bookPiece_63 (by decide) (pc' := 66) rfl (fun c8 => ?_) (fun c8 => ?_)
    · exact hret _ _ _ dX1_bookPiece_79 (by rw [f1_bookPiece] <;> exact (st_let h2 (st_let h4 (st_neg c5 (st_let h7 (st_neg c8 rfl))))))
    · refine wk_aload_n F dX1_bookPiece_66 rfl 0 rfl (pc' := 67) rfl ?_
      refine wk_get (C := RX1) (T := TX1) (N := 14) F 0 rfl rfl k_1 10 (Nat.le_of_ble_eq_true rfl) w_5 rfl dX1_bookPiece_67 (pc' := 70) rfl ?_
      refine wk_iconst F dX1_bookPiece_70 ic_2 (pc' := 71) rfl ?_
      refine wk_iload_n F dX1_bookPiece_71 rfl 1 rfl (pc' := 72) rfl ?_
      refine wk_aload_n F dX1_bookPiece_72 rfl 0 rfl (pc' := 73) rfl ?_
      refine wk_same_p F (c1_available l D cI cP hs u6) (cwV 0 F.hts gX1_bookPiece_X1_available rfl rfl rfl hdX1_available ⟨Nat.le_of_ble_eq_true rfl, Nat.le_of_ble_eq_true rfl⟩) 0 1 rfl rfl rfl rfl (Nat.le_of_ble_eq_true rfl) dX1_bookPiece_73 ⟨Nat.zero_le _, Nat.zero_le _⟩ (pc' := 76) rfl ?_
      refine wk_sub_v (w' := wPool cI hs) (wr := wPool11 cI hs u6) F (c4_add l D cI cP hs u6 (2 : Int32) p1 (f1_available u6)) (cwV 3 F.hts gX1_bookPiece_X4_add rfl rfl rfl hdX4_add ⟨Nat.le_of_ble_eq_true rfl, Nat.le_of_ble_eq_true rfl⟩) [11, 12, 13, 14] [0, 1, 2, 3, 4, 5, 6, 7, 8, 9, 10] hCW hRW rfl rfl (by decide) 0 4 rfl rfl rfl rfl (Nat.le_of_ble_eq_true rfl) dX1_bookPiece_76 ⟨Nat.zero_le _, Nat.zero_le _⟩ (pc' := 79) rfl hw_add (fun u9 h10 => ?_)
      exact hret _ _ _ dX1_bookPiece_79 (by rw [f1_bookPiece] <;> exact (st_let h2 (st_let h4 (st_neg c5 (st_let h7 (st_pos c8 (st_let h10 rfl)))))))
  · refine wk_aload_n F dX1_bookPiece_24 rfl 0 rfl (pc' := 25) rfl ?_
    refine wk_get (C := RX1) (T := TX1) (N := 14) F 0 rfl rfl k_1 1 (Nat.le_of_ble_eq_true rfl) w_3 rfl dX1_bookPiece_25 (pc' := 28) rfl ?_
    refine wk_iload_n F dX1_bookPiece_28 rfl 1 rfl (pc' := 29) rfl ?_
    refine wk_aload_n F dX1_bookPiece_29 rfl 0 rfl (pc' := 30) rfl ?_
    refine wk_aload_n F dX1_bookPiece_30 rfl 0 rfl (pc' := 31) rfl ?_
    refine wk_get (C := RX1) (T := TX1) (N := 14) F 0 rfl rfl k_1 1 (Nat.le_of_ble_eq_true rfl) w_3 rfl dX1_bookPiece_31 (pc' := 34) rfl ?_
    refine wk_iload_n F dX1_bookPiece_34 rfl 1 rfl (pc' := 35) rfl ?_
    refine wk_iald F 2 0 rfl rfl hp_p1 dX1_bookPiece_35 (pc' := 36) rfl ?_
    refine wk_iload_n F dX1_bookPiece_36 rfl 3 rfl (pc' := 37) rfl ?_
    refine wk_same_p F (c1_mannersBehindUnpromised l D cI cP hs u3 (u3 1 p1.toNatClampNeg) p3) (cwV 2 F.hts gX1_bookPiece_X1_mannersBehindUnpromised rfl rfl rfl hdX1_mannersBehindUnpromised ⟨Nat.le_of_ble_eq_true rfl, Nat.le_of_ble_eq_true rfl⟩) 0 1 rfl rfl rfl rfl (Nat.le_of_ble_eq_true rfl) dX1_bookPiece_37 ⟨Nat.zero_le _, Nat.zero_le _⟩ (pc' := 40) rfl ?_
    refine wk_iastu (wg := wPool cI hs) (f0 := wr u3 1 p1.toNatClampNeg (f1_mannersBehindUnpromised u3 (u3 1 p1.toNatClampNeg) p3)) F 2 0 rfl rfl aP_1 hp_p1 dX1_bookPiece_40 (pc' := 41) rfl (fun u11 h12 => ?_)
    refine wk_aload_n F dX1_bookPiece_41 rfl 0 rfl (pc' := 42) rfl ?_
    refine wk_iload_n F dX1_bookPiece_42 rfl 3 rfl (pc' := 43) rfl ?_
    refine wk_same_v F (c1_warnIfLevelRose l D cI cP hs u11 p3) (cwV 1 F.hts gX1_bookPiece_X1_warnIfLevelRose rfl rfl rfl hdX1_warnIfLevelRose ⟨Nat.le_of_ble_eq_true rfl, Nat.le_of_ble_eq_true rfl⟩) 0 1 rfl rfl rfl rfl (Nat.le_of_ble_eq_true rfl) dX1_bookPiece_43 ⟨Nat.zero_le _, Nat.zero_le _⟩ (pc' := 46) rfl (fun u13 h14 => ?_)
    exact hret _ _ _ dX1_bookPiece_46 (by rw [f1_bookPiece] <;> exact (st_let h2 (st_let h4 (st_pos c5 (st_let h12 (st_let h14 rfl))))))
def f1_writePlace (σ : PS) (p1 : Int32) (p2 : Int32) (p3 : Int32) : Int32 × PS := (if (f1_hasPlace σ p1 p2) = 0 then ((-1000001 : Int32), σ) else (if p3 < 0 then ((-1000001 : Int32), σ) else (if p3 ≤ (99 : Int32) then (if (f1_isPiece σ (f1_pieceAt σ p1 p2)) = 0 then (if (σ 2 p1.toNatClampNeg) ≤ 0 then (if (f1_isPiece σ (f1_lowestFreePiece σ)) = 0 then (sq (f1_refuse σ p1) (fun (u7 : PS) => ((-1000005 : Int32), u7))) else (if (f1_wouldGetUnpromised σ p1 (σ 1 p1.toNatClampNeg) (f1_available σ)) = 0 then (sq (f1_refuse σ p1) (fun (u21 : PS) => ((-1000005 : Int32), u21))) else (sq2 (f1_loosen σ p1 p2) (fun (r11 : Int32) (u10 : PS) => (sq (wr u10 6 ((p1 * (40 : Int32)) + p2).toNatClampNeg (f1_lowestFreePiece σ)) (fun (u13 : PS) => (sq (wr u13 8 (f1_lowestFreePiece σ).toNatClampNeg (1 : Int32)) (fun (u15 : PS) => (sq (wr u15 7 (f1_lowestFreePiece σ).toNatClampNeg p3) (fun (u17 : PS) => (sq (f1_bookPiece u17 p1 (0 : Int32) (f1_level σ)) (fun (u19 : PS) => (f1_lowestFreePiece σ, u19))))))))))))) else (if (f1_isPiece σ (f1_lowestFreePiece σ)) = 0 then (sq (f1_refuse σ p1) (fun (u24 : PS) => ((-1000005 : Int32), u24))) else (sq2 (f1_loosen σ p1 p2) (fun (r27 : Int32) (u26 : PS) => (sq (wr u26 6 ((p1 * (40 : Int32)) + p2).toNatClampNeg (f1_lowestFreePiece σ)) (fun (u29 : PS) => (sq (wr u29 8 (f1_lowestFreePiece σ).toNatClampNeg (1 : Int32)) (fun (u31 : PS) => (sq (wr u31 7 (f1_lowestFreePiece σ).toNatClampNeg p3) (fun (u33 : PS) => (sq (f1_bookPiece u33 p1 (1 : Int32) (f1_level σ)) (fun (u35 : PS) => (f1_lowestFreePiece σ, u35))))))))))))) else (if (σ 8 (f1_pieceAt σ p1 p2).toNatClampNeg) = (1 : Int32) then (sq (wr σ 7 (f1_pieceAt σ p1 p2).toNatClampNeg p3) (fun (u70 : PS) => (f1_pieceAt σ p1 p2, u70))) else (if (σ 2 p1.toNatClampNeg) ≤ 0 then (if (f1_isPiece σ (f1_lowestFreePiece σ)) = 0 then (sq (f1_refuse σ p1) (fun (u40 : PS) => ((-1000005 : Int32), u40))) else (if (f1_wouldGetUnpromised σ p1 (σ 1 p1.toNatClampNeg) (f1_available σ)) = 0 then (sq (f1_refuse σ p1) (fun (u54 : PS) => ((-1000005 : Int32), u54))) else (sq2 (f1_loosen σ p1 p2) (fun (r44 : Int32) (u43 : PS) => (sq (wr u43 6 ((p1 * (40 : Int32)) + p2).toNatClampNeg (f1_lowestFreePiece σ)) (fun (u46 : PS) => (sq (wr u46 8 (f1_lowestFreePiece σ).toNatClampNeg (1 : Int32)) (fun (u48 : PS) => (sq (wr u48 7 (f1_lowestFreePiece σ).toNatClampNeg p3) (fun (u50 : PS) => (sq (f1_bookPiece u50 p1 (0 : Int32) (f1_level σ)) (fun (u52 : PS) => (f1_lowestFreePiece σ, u52))))))))))))) else (if (f1_isPiece σ (f1_lowestFreePiece σ)) = 0 then (sq (f1_refuse σ p1) (fun (u57 : PS) => ((-1000005 : Int32), u57))) else (sq2 (f1_loosen σ p1 p2) (fun (r60 : Int32) (u59 : PS) => (sq (wr u59 6 ((p1 * (40 : Int32)) + p2).toNatClampNeg (f1_lowestFreePiece σ)) (fun (u62 : PS) => (sq (wr u62 8 (f1_lowestFreePiece σ).toNatClampNeg (1 : Int32)) (fun (u64 : PS) => (sq (wr u64 7 (f1_lowestFreePiece σ).toNatClampNeg p3) (fun (u66 : PS) => (sq (f1_bookPiece u66 p1 (1 : Int32) (f1_level σ)) (fun (u68 : PS) => (f1_lowestFreePiece σ, u68))))))))))))))) else ((-1000001 : Int32), σ))))
set_option maxHeartbeats 4000000 in
set_option maxRecDepth 100000 in
theorem c1_writePlace (l : Launch) (D : va_G) (cI cP : ClassId) (hs : Nat → Nat) (σ : PS) (p1 : Int32) (p2 : Int32) (p3 : Int32) : CI l yX1_writePlace wsX1_writePlace ({ frames := 4, cells := 0, slots := 0, locals := 128 } : Room) D (cty cI cP) (wPool cI hs σ) (wPool cI hs) [.ref (hs 0), .int p1, .int p2, .int p3] 0 0 (fun r u => f1_writePlace σ p1 p2 p3 = (r, u)) := by
  refine CI.of (cc := cX1_writePlace) (maxL := 8) (rt := .int) (own := RX1) (lv0 := [(0, .ref (hs 0)), (1, .int p1), (2, .int p2), (3, .int p3)]) pnX1 rfl rfl (Nat.le_of_ble_eq_true rfl) rfl (fun p e s m args below meth c A Q F hret => ?_)
  have w_1 := F.at (x := Cond.constant RX1 124 (-1000001)) 1 rfl
  have w_4 := F.at (x := Cond.fieldLink RX1 18 "ThinVolumes$Pool" "promises" "[I") 4 rfl
  have w_6 := F.at (x := Cond.constant RX1 149 (-1000005)) 6 rfl
  have w_5 := F.at (x := Cond.fieldLink RX1 15 "ThinVolumes$Pool" "manners" "[I") 5 rfl
  have w_7 := F.at (x := Cond.fieldLink RX1 30 "ThinVolumes$Pool" "spots" "[I") 7 rfl
  have w_2 := F.at (x := Cond.fieldLink RX1 36 "ThinVolumes$Pool" "owners" "[I") 2 rfl
  have w_3 := F.at (x := Cond.fieldLink RX1 33 "ThinVolumes$Pool" "values" "[I") 3 rfl
  have k_1 : ∀ w ∈ wsX10, w ∈ wsX1_writePlace := fun _ h => List.mem_cons_of_mem _ (List.mem_append_left _ (List.mem_append_right _ (h)))
  refine wk_aload_n F dX1_writePlace_0 rfl 0 rfl (pc' := 1) rfl ?_
  refine wk_iload_n F dX1_writePlace_1 rfl 1 rfl (pc' := 2) rfl ?_
  refine wk_iload_n F dX1_writePlace_2 rfl 2 rfl (pc' := 3) rfl ?_
  refine wk_same_p F (c1_hasPlace l D cI cP hs σ p1 p2) (cwV 2 F.hts gX1_writePlace_X1_hasPlace rfl rfl rfl hdX1_hasPlace ⟨Nat.le_of_ble_eq_true rfl, Nat.le_of_ble_eq_true rfl⟩) 0 1 rfl rfl rfl rfl (Nat.le_of_ble_eq_true rfl) dX1_writePlace_3 ⟨Nat.zero_le _, Nat.zero_le _⟩ (pc' := 6) rfl ?_
  refine wk_if_eq (tgt := 19) F dX1_writePlace_6 (by decide) (pc' := 9) rfl (fun c1 => ?_) (fun c1 => ?_)
  · refine wk_ldc F dX1_writePlace_19 w_1 (pc' := 21) rfl ?_
    exact hret _ _ _ _ dX1_writePlace_21 rfl (by rw [f1_writePlace] <;> exact (st_pos c1 rfl))
  · refine wk_iload_n F dX1_writePlace_9 rfl 3 rfl (pc' := 10) rfl ?_
    refine wk_if_lt (tgt := 19) F dX1_writePlace_10 (by decide) (pc' := 13) rfl (fun c2 => ?_) (fun c2 => ?_)
    · refine wk_ldc F dX1_writePlace_19 w_1 (pc' := 21) rfl ?_
      exact hret _ _ _ _ dX1_writePlace_21 rfl (by rw [f1_writePlace] <;> exact (st_neg c1 (st_pos c2 rfl)))
    · refine wk_iload_n F dX1_writePlace_13 rfl 3 rfl (pc' := 14) rfl ?_
      refine wk_bipush F dX1_writePlace_14 bp_99 (pc' := 16) rfl ?_
      refine wk_icmp_le (tgt := 22) F dX1_writePlace_16 (by decide) (pc' := 19) rfl (fun c3 => ?_) (fun c3 => ?_)
      · refine wk_aload_n F dX1_writePlace_22 rfl 0 rfl (pc' := 23) rfl ?_
        refine wk_iload_n F dX1_writePlace_23 rfl 1 rfl (pc' := 24) rfl ?_
        refine wk_iload_n F dX1_writePlace_24 rfl 2 rfl (pc' := 25) rfl ?_
        refine wk_same_p F (c1_pieceAt l D cI cP hs σ p1 p2) (cwV 2 F.hts gX1_writePlace_X1_pieceAt rfl rfl rfl hdX1_pieceAt ⟨Nat.le_of_ble_eq_true rfl, Nat.le_of_ble_eq_true rfl⟩) 0 1 rfl rfl rfl rfl (Nat.le_of_ble_eq_true rfl) dX1_writePlace_25 ⟨Nat.zero_le _, Nat.zero_le _⟩ (pc' := 28) rfl ?_
        refine wk_istore (lv' := [(4, .int (f1_pieceAt σ p1 p2)), (0, .ref (hs 0)), (1, .int p1), (2, .int p2), (3, .int p3)]) F dX1_writePlace_28 (Nat.le_of_ble_eq_true rfl) rfl (pc' := 30) rfl ?_
        refine wk_aload_n F dX1_writePlace_30 rfl 1 rfl (pc' := 31) rfl ?_
        refine wk_iload F dX1_writePlace_31 0 rfl (pc' := 33) rfl ?_
        refine wk_same_p F (c1_isPiece l D cI cP hs σ (f1_pieceAt σ p1 p2)) (cwV 1 F.hts gX1_writePlace_X1_isPiece rfl rfl rfl hdX1_isPiece ⟨Nat.le_of_ble_eq_true rfl, Nat.le_of_ble_eq_true rfl⟩) 0 1 rfl rfl rfl rfl (Nat.le_of_ble_eq_true rfl) dX1_writePlace_33 ⟨Nat.zero_le _, Nat.zero_le _⟩ (pc' := 36) rfl ?_
        refine wk_if_eq (tgt := 61) F dX1_writePlace_36 (by decide) (pc' := 39) rfl (fun c4 => ?_) (fun c4 => ?_)
        · refine wk_aload_n F dX1_writePlace_61 rfl 1 rfl (pc' := 62) rfl ?_
          refine wk_same_p F (c1_lowestFreePiece l D cI cP hs σ) (cwV 0 F.hts gX1_writePlace_X1_lowestFreePiece rfl rfl rfl hdX1_lowestFreePiece ⟨Nat.le_of_ble_eq_true rfl, Nat.le_of_ble_eq_true rfl⟩) 0 1 rfl rfl rfl rfl (Nat.le_of_ble_eq_true rfl) dX1_writePlace_62 ⟨Nat.zero_le _, Nat.zero_le _⟩ (pc' := 65) rfl ?_
          refine wk_istore (lv' := [(5, .int (f1_lowestFreePiece σ)), (4, .int (f1_pieceAt σ p1 p2)), (0, .ref (hs 0)), (1, .int p1), (2, .int p2), (3, .int p3)]) F dX1_writePlace_65 (Nat.le_of_ble_eq_true rfl) rfl (pc' := 67) rfl ?_
          refine wk_aload_n F dX1_writePlace_67 rfl 2 rfl (pc' := 68) rfl ?_
          refine wk_get (C := RX1) (T := TX1) (N := 14) F 0 rfl rfl k_1 2 (Nat.le_of_ble_eq_true rfl) w_4 rfl dX1_writePlace_68 (pc' := 71) rfl ?_
          refine wk_iload_n F dX1_writePlace_71 rfl 3 rfl (pc' := 72) rfl ?_
          refine wk_iald F 3 0 rfl rfl (hasPlace_v c1) dX1_writePlace_72 (pc' := 73) rfl ?_
          refine wk_if_le (tgt := 80) F dX1_writePlace_73 (by decide) (pc' := 76) rfl (fun c5 => ?_) (fun c5 => ?_)
          · refine wk_iconst F dX1_writePlace_80 ic_0 (pc' := 81) rfl ?_
            refine wk_istore (lv' := [(6, .int (0 : Int32)), (5, .int (f1_lowestFreePiece σ)), (4, .int (f1_pieceAt σ p1 p2)), (0, .ref (hs 0)), (1, .int p1), (2, .int p2), (3, .int p3)]) F dX1_writePlace_81 (Nat.le_of_ble_eq_true rfl) rfl (pc' := 83) rfl ?_
            refine wk_aload_n F dX1_writePlace_83 rfl 3 rfl (pc' := 84) rfl ?_
            refine wk_iload F dX1_writePlace_84 1 rfl (pc' := 86) rfl ?_
            refine wk_same_p F (c1_isPiece l D cI cP hs σ (f1_lowestFreePiece σ)) (cwV 1 F.hts gX1_writePlace_X1_isPiece rfl rfl rfl hdX1_isPiece ⟨Nat.le_of_ble_eq_true rfl, Nat.le_of_ble_eq_true rfl⟩) 0 1 rfl rfl rfl rfl (Nat.le_of_ble_eq_true rfl) dX1_writePlace_86 ⟨Nat.zero_le _, Nat.zero_le _⟩ (pc' := 89) rfl ?_
            refine wk_if_eq (tgt := 115) F dX1_writePlace_89 (by decide) (pc' := 92) rfl (fun c6 => ?_) (fun c6 => ?_)
            · refine wk_aload_n F dX1_writePlace_115 rfl 3 rfl (pc' := 116) rfl ?_
              refine wk_iload_n F dX1_writePlace_116 rfl 4 rfl (pc' := 117) rfl ?_
              refine wk_same_v F (c1_refuse l D cI cP hs σ p1 (hasPlace_v c1)) (cwV 1 F.hts gX1_writePlace_X1_refuse rfl rfl rfl hdX1_refuse ⟨Nat.le_of_ble_eq_true rfl, Nat.le_of_ble_eq_true rfl⟩) 0 1 rfl rfl rfl rfl (Nat.le_of_ble_eq_true rfl) dX1_writePlace_117 ⟨Nat.zero_le _, Nat.zero_le _⟩ (pc' := 120) rfl (fun u7 h8 => ?_)
              refine wk_ldc F dX1_writePlace_120 w_6 (pc' := 122) rfl ?_
              exact hret _ _ _ _ dX1_writePlace_122 rfl (by rw [f1_writePlace] <;> exact (st_neg c1 (st_neg c2 (st_pos c3 (st_pos c4 (st_pos c5 (st_pos c6 (st_let h8 rfl))))))))
            · refine wk_iload F dX1_writePlace_92 0 rfl (pc' := 94) rfl ?_
              refine wk_if_ne (tgt := 123) F dX1_writePlace_94 (by decide) (pc' := 97) rfl (fun c => absurd (by decide) c) (fun _ => ?_)
              refine wk_aload_n F dX1_writePlace_97 rfl 3 rfl (pc' := 98) rfl ?_
              refine wk_iload_n F dX1_writePlace_98 rfl 4 rfl (pc' := 99) rfl ?_
              refine wk_aload_n F dX1_writePlace_99 rfl 3 rfl (pc' := 100) rfl ?_
              refine wk_get (C := RX1) (T := TX1) (N := 14) F 0 rfl rfl k_1 1 (Nat.le_of_ble_eq_true rfl) w_5 rfl dX1_writePlace_100 (pc' := 103) rfl ?_
              refine wk_iload_n F dX1_writePlace_103 rfl 4 rfl (pc' := 104) rfl ?_
              refine wk_iald F 2 0 rfl rfl (hasPlace_v c1) dX1_writePlace_104 (pc' := 105) rfl ?_
              refine wk_aload_n F dX1_writePlace_105 rfl 3 rfl (pc' := 106) rfl ?_
              refine wk_same_p F (c1_available l D cI cP hs σ) (cwV 0 F.hts gX1_writePlace_X1_available rfl rfl rfl hdX1_available ⟨Nat.le_of_ble_eq_true rfl, Nat.le_of_ble_eq_true rfl⟩) 0 1 rfl rfl rfl rfl (Nat.le_of_ble_eq_true rfl) dX1_writePlace_106 ⟨Nat.zero_le _, Nat.zero_le _⟩ (pc' := 109) rfl ?_
              refine wk_same_p F (c1_wouldGetUnpromised l D cI cP hs σ p1 (σ 1 p1.toNatClampNeg) (f1_available σ)) (cwV 3 F.hts gX1_writePlace_X1_wouldGetUnpromised rfl rfl rfl hdX1_wouldGetUnpromised ⟨Nat.le_of_ble_eq_true rfl, Nat.le_of_ble_eq_true rfl⟩) 0 1 rfl rfl rfl rfl (Nat.le_of_ble_eq_true rfl) dX1_writePlace_109 ⟨Nat.zero_le _, Nat.zero_le _⟩ (pc' := 112) rfl ?_
              refine wk_if_ne (tgt := 123) F dX1_writePlace_112 (by decide) (pc' := 115) rfl (fun c9 => ?_) (fun c9 => ?_)
              · refine wk_aload_n F dX1_writePlace_123 rfl 3 rfl (pc' := 124) rfl ?_
                refine wk_same_p F (c1_level l D cI cP hs σ) (cwV 0 F.hts gX1_writePlace_X1_level rfl rfl rfl hdX1_level ⟨Nat.le_of_ble_eq_true rfl, Nat.le_of_ble_eq_true rfl⟩) 0 1 rfl rfl rfl rfl (Nat.le_of_ble_eq_true rfl) dX1_writePlace_124 ⟨Nat.zero_le _, Nat.zero_le _⟩ (pc' := 127) rfl ?_
                refine wk_istore (lv' := [(7, .int (f1_level σ)), (6, .int (0 : Int32)), (5, .int (f1_lowestFreePiece σ)), (4, .int (f1_pieceAt σ p1 p2)), (0, .ref (hs 0)), (1, .int p1), (2, .int p2), (3, .int p3)]) F dX1_writePlace_127 (Nat.le_of_ble_eq_true rfl) rfl (pc' := 129) rfl ?_
                refine wk_aload_n F dX1_writePlace_129 rfl 4 rfl (pc' := 130) rfl ?_
                refine wk_iload_n F dX1_writePlace_130 rfl 5 rfl (pc' := 131) rfl ?_
                refine wk_iload_n F dX1_writePlace_131 rfl 6 rfl (pc' := 132) rfl ?_
                refine wk_same_i F (c1_loosen l D cI cP hs σ p1 p2) (cwV 2 F.hts gX1_writePlace_X1_loosen rfl rfl rfl hdX1_loosen ⟨Nat.le_of_ble_eq_true rfl, Nat.le_of_ble_eq_true rfl⟩) 0 1 rfl rfl rfl rfl (Nat.le_of_ble_eq_true rfl) dX1_writePlace_132 ⟨Nat.zero_le _, Nat.zero_le _⟩ (pc' := 135) rfl (fun r11 u10 h12 => ?_)
                refine wk_pop F dX1_writePlace_135 rfl (pc' := 136) rfl ?_
                refine wk_aload_n F dX1_writePlace_136 rfl 4 rfl (pc' := 137) rfl ?_
                refine wk_get (C := RX1) (T := TX1) (N := 14) F 0 rfl rfl k_1 6 (Nat.le_of_ble_eq_true rfl) w_7 rfl dX1_writePlace_137 (pc' := 140) rfl ?_
                refine wk_iload_n F dX1_writePlace_140 rfl 5 rfl (pc' := 141) rfl ?_
                refine wk_bipush F dX1_writePlace_141 bp_40 (pc' := 143) rfl ?_
                refine wk_imul F dX1_writePlace_143 (pc' := 144) rfl ?_
                refine wk_iload_n F dX1_writePlace_144 rfl 6 rfl (pc' := 145) rfl ?_
                refine wk_iadd F dX1_writePlace_145 (pc' := 146) rfl ?_
                refine wk_iload F dX1_writePlace_146 2 rfl (pc' := 148) rfl ?_
                refine wk_iastu (wg := wPool cI hs) (f0 := wr u10 6 ((p1 * (40 : Int32)) + p2).toNatClampNeg (f1_lowestFreePiece σ)) F 7 0 rfl rfl aP_6 (ix_spot (hasPlace_v c1) (hasPlace_p c1)) dX1_writePlace_148 (pc' := 149) rfl (fun u13 h14 => ?_)
                refine wk_aload_n F dX1_writePlace_149 rfl 4 rfl (pc' := 150) rfl ?_
                refine wk_get (C := RX1) (T := TX1) (N := 14) F 0 rfl rfl k_1 8 (Nat.le_of_ble_eq_true rfl) w_2 rfl dX1_writePlace_150 (pc' := 153) rfl ?_
                refine wk_iload F dX1_writePlace_153 2 rfl (pc' := 155) rfl ?_
                refine wk_iconst F dX1_writePlace_155 ic_1 (pc' := 156) rfl ?_
                refine wk_iastu (wg := wPool cI hs) (f0 := wr u13 8 (f1_lowestFreePiece σ).toNatClampNeg (1 : Int32)) F 9 0 rfl rfl aP_8 (isPiece_in c6) dX1_writePlace_156 (pc' := 157) rfl (fun u15 h16 => ?_)
                refine wk_aload_n F dX1_writePlace_157 rfl 4 rfl (pc' := 158) rfl ?_
                refine wk_get (C := RX1) (T := TX1) (N := 14) F 0 rfl rfl k_1 7 (Nat.le_of_ble_eq_true rfl) w_3 rfl dX1_writePlace_158 (pc' := 161) rfl ?_
                refine wk_iload F dX1_writePlace_161 2 rfl (pc' := 163) rfl ?_
                refine wk_iload_n F dX1_writePlace_163 rfl 7 rfl (pc' := 164) rfl ?_
                refine wk_iastu (wg := wPool cI hs) (f0 := wr u15 7 (f1_lowestFreePiece σ).toNatClampNeg p3) F 8 0 rfl rfl aP_7 (isPiece_in c6) dX1_writePlace_164 (pc' := 165) rfl (fun u17 h18 => ?_)
                refine wk_aload_n F dX1_writePlace_165 rfl 4 rfl (pc' := 166) rfl ?_
                refine wk_iload_n F dX1_writePlace_166 rfl 5 rfl (pc' := 167) rfl ?_
                refine wk_iload F dX1_writePlace_167 1 rfl (pc' := 169) rfl ?_
                refine wk_iload F dX1_writePlace_169 0 rfl (pc' := 171) rfl ?_
                refine wk_same_v F (c1_bookPiece l D cI cP hs u17 p1 (0 : Int32) (f1_level σ) (hasPlace_v c1)) (cwV 3 F.hts gX1_writePlace_X1_bookPiece rfl rfl rfl hdX1_bookPiece ⟨Nat.le_of_ble_eq_true rfl, Nat.le_of_ble_eq_true rfl⟩) 0 1 rfl rfl rfl rfl (Nat.le_of_ble_eq_true rfl) dX1_writePlace_171 ⟨Nat.zero_le _, Nat.zero_le _⟩ (pc' := 174) rfl (fun u19 h20 => ?_)
                refine wk_iload F dX1_writePlace_174 2 rfl (pc' := 176) rfl ?_
                exact hret _ _ _ _ dX1_writePlace_176 rfl (by rw [f1_writePlace] <;> exact (st_neg c1 (st_neg c2 (st_pos c3 (st_pos c4 (st_pos c5 (st_neg c6 (st_neg c9 (st_match h12 (st_let h14 (st_let h16 (st_let h18 (st_let h20 rfl)))))))))))))
              · refine wk_aload_n F dX1_writePlace_115 rfl 3 rfl (pc' := 116) rfl ?_
                refine wk_iload_n F dX1_writePlace_116 rfl 4 rfl (pc' := 117) rfl ?_
                refine wk_same_v F (c1_refuse l D cI cP hs σ p1 (hasPlace_v c1)) (cwV 1 F.hts gX1_writePlace_X1_refuse rfl rfl rfl hdX1_refuse ⟨Nat.le_of_ble_eq_true rfl, Nat.le_of_ble_eq_true rfl⟩) 0 1 rfl rfl rfl rfl (Nat.le_of_ble_eq_true rfl) dX1_writePlace_117 ⟨Nat.zero_le _, Nat.zero_le _⟩ (pc' := 120) rfl (fun u21 h22 => ?_)
                refine wk_ldc F dX1_writePlace_120 w_6 (pc' := 122) rfl ?_
                exact hret _ _ _ _ dX1_writePlace_122 rfl (by rw [f1_writePlace] <;> exact (st_neg c1 (st_neg c2 (st_pos c3 (st_pos c4 (st_pos c5 (st_neg c6 (st_pos c9 (st_let h22 rfl)))))))))
          · refine wk_iconst F dX1_writePlace_76 ic_1 (pc' := 77) rfl ?_
            refine wk_goto (tgt := 81) F dX1_writePlace_77 (by decide) ?_
            refine wk_istore (lv' := [(6, .int (1 : Int32)), (5, .int (f1_lowestFreePiece σ)), (4, .int (f1_pieceAt σ p1 p2)), (0, .ref (hs 0)), (1, .int p1), (2, .int p2), (3, .int p3)]) F dX1_writePlace_81 (Nat.le_of_ble_eq_true rfl) rfl (pc' := 83) rfl ?_
            refine wk_aload_n F dX1_writePlace_83 rfl 3 rfl (pc' := 84) rfl ?_
            refine wk_iload F dX1_writePlace_84 1 rfl (pc' := 86) rfl ?_
            refine wk_same_p F (c1_isPiece l D cI cP hs σ (f1_lowestFreePiece σ)) (cwV 1 F.hts gX1_writePlace_X1_isPiece rfl rfl rfl hdX1_isPiece ⟨Nat.le_of_ble_eq_true rfl, Nat.le_of_ble_eq_true rfl⟩) 0 1 rfl rfl rfl rfl (Nat.le_of_ble_eq_true rfl) dX1_writePlace_86 ⟨Nat.zero_le _, Nat.zero_le _⟩ (pc' := 89) rfl ?_
            refine wk_if_eq (tgt := 115) F dX1_writePlace_89 (by decide) (pc' := 92) rfl (fun c23 => ?_) (fun c23 => ?_)
            · refine wk_aload_n F dX1_writePlace_115 rfl 3 rfl (pc' := 116) rfl ?_
              refine wk_iload_n F dX1_writePlace_116 rfl 4 rfl (pc' := 117) rfl ?_
              refine wk_same_v F (c1_refuse l D cI cP hs σ p1 (hasPlace_v c1)) (cwV 1 F.hts gX1_writePlace_X1_refuse rfl rfl rfl hdX1_refuse ⟨Nat.le_of_ble_eq_true rfl, Nat.le_of_ble_eq_true rfl⟩) 0 1 rfl rfl rfl rfl (Nat.le_of_ble_eq_true rfl) dX1_writePlace_117 ⟨Nat.zero_le _, Nat.zero_le _⟩ (pc' := 120) rfl (fun u24 h25 => ?_)
              refine wk_ldc F dX1_writePlace_120 w_6 (pc' := 122) rfl ?_
              exact hret _ _ _ _ dX1_writePlace_122 rfl (by rw [f1_writePlace] <;> exact (st_neg c1 (st_neg c2 (st_pos c3 (st_pos c4 (st_neg c5 (st_pos c23 (st_let h25 rfl))))))))
            · refine wk_iload F dX1_writePlace_92 0 rfl (pc' := 94) rfl ?_
              refine wk_if_ne (tgt := 123) F dX1_writePlace_94 (by decide) (pc' := 97) rfl (fun _ => ?_) (fun c => absurd c (by decide))
              refine wk_aload_n F dX1_writePlace_123 rfl 3 rfl (pc' := 124) rfl ?_
              refine wk_same_p F (c1_level l D cI cP hs σ) (cwV 0 F.hts gX1_writePlace_X1_level rfl rfl rfl hdX1_level ⟨Nat.le_of_ble_eq_true rfl, Nat.le_of_ble_eq_true rfl⟩) 0 1 rfl rfl rfl rfl (Nat.le_of_ble_eq_true rfl) dX1_writePlace_124 ⟨Nat.zero_le _, Nat.zero_le _⟩ (pc' := 127) rfl ?_
              refine wk_istore (lv' := [(7, .int (f1_level σ)), (6, .int (1 : Int32)), (5, .int (f1_lowestFreePiece σ)), (4, .int (f1_pieceAt σ p1 p2)), (0, .ref (hs 0)), (1, .int p1), (2, .int p2), (3, .int p3)]) F dX1_writePlace_127 (Nat.le_of_ble_eq_true rfl) rfl (pc' := 129) rfl ?_
              refine wk_aload_n F dX1_writePlace_129 rfl 4 rfl (pc' := 130) rfl ?_
              refine wk_iload_n F dX1_writePlace_130 rfl 5 rfl (pc' := 131) rfl ?_
              refine wk_iload_n F dX1_writePlace_131 rfl 6 rfl (pc' := 132) rfl ?_
              refine wk_same_i F (c1_loosen l D cI cP hs σ p1 p2) (cwV 2 F.hts gX1_writePlace_X1_loosen rfl rfl rfl hdX1_loosen ⟨Nat.le_of_ble_eq_true rfl, Nat.le_of_ble_eq_true rfl⟩) 0 1 rfl rfl rfl rfl (Nat.le_of_ble_eq_true rfl) dX1_writePlace_132 ⟨Nat.zero_le _, Nat.zero_le _⟩ (pc' := 135) rfl (fun r27 u26 h28 => ?_)
              refine wk_pop F dX1_writePlace_135 rfl (pc' := 136) rfl ?_
              refine wk_aload_n F dX1_writePlace_136 rfl 4 rfl (pc' := 137) rfl ?_
              refine wk_get (C := RX1) (T := TX1) (N := 14) F 0 rfl rfl k_1 6 (Nat.le_of_ble_eq_true rfl) w_7 rfl dX1_writePlace_137 (pc' := 140) rfl ?_
              refine wk_iload_n F dX1_writePlace_140 rfl 5 rfl (pc' := 141) rfl ?_
              refine wk_bipush F dX1_writePlace_141 bp_40 (pc' := 143) rfl ?_
              refine wk_imul F dX1_writePlace_143 (pc' := 144) rfl ?_
              refine wk_iload_n F dX1_writePlace_144 rfl 6 rfl (pc' := 145) rfl ?_
              refine wk_iadd F dX1_writePlace_145 (pc' := 146) rfl ?_
              refine wk_iload F dX1_writePlace_146 2 rfl (pc' := 148) rfl ?_
              refine wk_iastu (wg := wPool cI hs) (f0 := wr u26 6 ((p1 * (40 : Int32)) + p2).toNatClampNeg (f1_lowestFreePiece σ)) F 7 0 rfl rfl aP_6 (ix_spot (hasPlace_v c1) (hasPlace_p c1)) dX1_writePlace_148 (pc' := 149) rfl (fun u29 h30 => ?_)
              refine wk_aload_n F dX1_writePlace_149 rfl 4 rfl (pc' := 150) rfl ?_
              refine wk_get (C := RX1) (T := TX1) (N := 14) F 0 rfl rfl k_1 8 (Nat.le_of_ble_eq_true rfl) w_2 rfl dX1_writePlace_150 (pc' := 153) rfl ?_
              refine wk_iload F dX1_writePlace_153 2 rfl (pc' := 155) rfl ?_
              refine wk_iconst F dX1_writePlace_155 ic_1 (pc' := 156) rfl ?_
              refine wk_iastu (wg := wPool cI hs) (f0 := wr u29 8 (f1_lowestFreePiece σ).toNatClampNeg (1 : Int32)) F 9 0 rfl rfl aP_8 (isPiece_in c23) dX1_writePlace_156 (pc' := 157) rfl (fun u31 h32 => ?_)
              refine wk_aload_n F dX1_writePlace_157 rfl 4 rfl (pc' := 158) rfl ?_
              refine wk_get (C := RX1) (T := TX1) (N := 14) F 0 rfl rfl k_1 7 (Nat.le_of_ble_eq_true rfl) w_3 rfl dX1_writePlace_158 (pc' := 161) rfl ?_
              refine wk_iload F dX1_writePlace_161 2 rfl (pc' := 163) rfl ?_
              refine wk_iload_n F dX1_writePlace_163 rfl 7 rfl (pc' := 164) rfl ?_
              refine wk_iastu (wg := wPool cI hs) (f0 := wr u31 7 (f1_lowestFreePiece σ).toNatClampNeg p3) F 8 0 rfl rfl aP_7 (isPiece_in c23) dX1_writePlace_164 (pc' := 165) rfl (fun u33 h34 => ?_)
              refine wk_aload_n F dX1_writePlace_165 rfl 4 rfl (pc' := 166) rfl ?_
              refine wk_iload_n F dX1_writePlace_166 rfl 5 rfl (pc' := 167) rfl ?_
              refine wk_iload F dX1_writePlace_167 1 rfl (pc' := 169) rfl ?_
              refine wk_iload F dX1_writePlace_169 0 rfl (pc' := 171) rfl ?_
              refine wk_same_v F (c1_bookPiece l D cI cP hs u33 p1 (1 : Int32) (f1_level σ) (hasPlace_v c1)) (cwV 3 F.hts gX1_writePlace_X1_bookPiece rfl rfl rfl hdX1_bookPiece ⟨Nat.le_of_ble_eq_true rfl, Nat.le_of_ble_eq_true rfl⟩) 0 1 rfl rfl rfl rfl (Nat.le_of_ble_eq_true rfl) dX1_writePlace_171 ⟨Nat.zero_le _, Nat.zero_le _⟩ (pc' := 174) rfl (fun u35 h36 => ?_)
              refine wk_iload F dX1_writePlace_174 2 rfl (pc' := 176) rfl ?_
              exact hret _ _ _ _ dX1_writePlace_176 rfl (by rw [f1_writePlace] <;> exact (st_neg c1 (st_neg c2 (st_pos c3 (st_pos c4 (st_neg c5 (st_neg c23 (st_match h28 (st_let h30 (st_let h32 (st_let h34 (st_let h36 rfl))))))))))))
        · refine wk_aload_n F dX1_writePlace_39 rfl 1 rfl (pc' := 40) rfl ?_
          refine wk_get (C := RX1) (T := TX1) (N := 14) F 0 rfl rfl k_1 8 (Nat.le_of_ble_eq_true rfl) w_2 rfl dX1_writePlace_40 (pc' := 43) rfl ?_
          refine wk_iload F dX1_writePlace_43 0 rfl (pc' := 45) rfl ?_
          refine wk_iald F 9 0 rfl rfl (isPiece_in c4) dX1_writePlace_45 (pc' := 46) rfl ?_
          refine wk_iconst F dX1_writePlace_46 ic_1 (pc' := 47) rfl ?_
          refine wk_icmp_ne (tgt := 61) F dX1_writePlace_47 (by decide) (pc' := 50) rfl (fun c37 => ?_) (fun c37 => ?_)
          · refine wk_aload_n F dX1_writePlace_61 rfl 1 rfl (pc' := 62) rfl ?_
            refine wk_same_p F (c1_lowestFreePiece l D cI cP hs σ) (cwV 0 F.hts gX1_writePlace_X1_lowestFreePiece rfl rfl rfl hdX1_lowestFreePiece ⟨Nat.le_of_ble_eq_true rfl, Nat.le_of_ble_eq_true rfl⟩) 0 1 rfl rfl rfl rfl (Nat.le_of_ble_eq_true rfl) dX1_writePlace_62 ⟨Nat.zero_le _, Nat.zero_le _⟩ (pc' := 65) rfl ?_
            refine wk_istore (lv' := [(5, .int (f1_lowestFreePiece σ)), (4, .int (f1_pieceAt σ p1 p2)), (0, .ref (hs 0)), (1, .int p1), (2, .int p2), (3, .int p3)]) F dX1_writePlace_65 (Nat.le_of_ble_eq_true rfl) rfl (pc' := 67) rfl ?_
            refine wk_aload_n F dX1_writePlace_67 rfl 2 rfl (pc' := 68) rfl ?_
            refine wk_get (C := RX1) (T := TX1) (N := 14) F 0 rfl rfl k_1 2 (Nat.le_of_ble_eq_true rfl) w_4 rfl dX1_writePlace_68 (pc' := 71) rfl ?_
            refine wk_iload_n F dX1_writePlace_71 rfl 3 rfl (pc' := 72) rfl ?_
            refine wk_iald F 3 0 rfl rfl (hasPlace_v c1) dX1_writePlace_72 (pc' := 73) rfl ?_
            refine wk_if_le (tgt := 80) F dX1_writePlace_73 (by decide) (pc' := 76) rfl (fun c38 => ?_) (fun c38 => ?_)
            · refine wk_iconst F dX1_writePlace_80 ic_0 (pc' := 81) rfl ?_
              refine wk_istore (lv' := [(6, .int (0 : Int32)), (5, .int (f1_lowestFreePiece σ)), (4, .int (f1_pieceAt σ p1 p2)), (0, .ref (hs 0)), (1, .int p1), (2, .int p2), (3, .int p3)]) F dX1_writePlace_81 (Nat.le_of_ble_eq_true rfl) rfl (pc' := 83) rfl ?_
              refine wk_aload_n F dX1_writePlace_83 rfl 3 rfl (pc' := 84) rfl ?_
              refine wk_iload F dX1_writePlace_84 1 rfl (pc' := 86) rfl ?_
              refine wk_same_p F (c1_isPiece l D cI cP hs σ (f1_lowestFreePiece σ)) (cwV 1 F.hts gX1_writePlace_X1_isPiece rfl rfl rfl hdX1_isPiece ⟨Nat.le_of_ble_eq_true rfl, Nat.le_of_ble_eq_true rfl⟩) 0 1 rfl rfl rfl rfl (Nat.le_of_ble_eq_true rfl) dX1_writePlace_86 ⟨Nat.zero_le _, Nat.zero_le _⟩ (pc' := 89) rfl ?_
              refine wk_if_eq (tgt := 115) F dX1_writePlace_89 (by decide) (pc' := 92) rfl (fun c39 => ?_) (fun c39 => ?_)
              · refine wk_aload_n F dX1_writePlace_115 rfl 3 rfl (pc' := 116) rfl ?_
                refine wk_iload_n F dX1_writePlace_116 rfl 4 rfl (pc' := 117) rfl ?_
                refine wk_same_v F (c1_refuse l D cI cP hs σ p1 (hasPlace_v c1)) (cwV 1 F.hts gX1_writePlace_X1_refuse rfl rfl rfl hdX1_refuse ⟨Nat.le_of_ble_eq_true rfl, Nat.le_of_ble_eq_true rfl⟩) 0 1 rfl rfl rfl rfl (Nat.le_of_ble_eq_true rfl) dX1_writePlace_117 ⟨Nat.zero_le _, Nat.zero_le _⟩ (pc' := 120) rfl (fun u40 h41 => ?_)
                refine wk_ldc F dX1_writePlace_120 w_6 (pc' := 122) rfl ?_
                exact hret _ _ _ _ dX1_writePlace_122 rfl (by rw [f1_writePlace] <;> exact (st_neg c1 (st_neg c2 (st_pos c3 (st_neg c4 (st_neg c37 (st_pos c38 (st_pos c39 (st_let h41 rfl)))))))))
              · refine wk_iload F dX1_writePlace_92 0 rfl (pc' := 94) rfl ?_
                refine wk_if_ne (tgt := 123) F dX1_writePlace_94 (by decide) (pc' := 97) rfl (fun c => absurd (by decide) c) (fun _ => ?_)
                refine wk_aload_n F dX1_writePlace_97 rfl 3 rfl (pc' := 98) rfl ?_
                refine wk_iload_n F dX1_writePlace_98 rfl 4 rfl (pc' := 99) rfl ?_
                refine wk_aload_n F dX1_writePlace_99 rfl 3 rfl (pc' := 100) rfl ?_
                refine wk_get (C := RX1) (T := TX1) (N := 14) F 0 rfl rfl k_1 1 (Nat.le_of_ble_eq_true rfl) w_5 rfl dX1_writePlace_100 (pc' := 103) rfl ?_
                refine wk_iload_n F dX1_writePlace_103 rfl 4 rfl (pc' := 104) rfl ?_
                refine wk_iald F 2 0 rfl rfl (hasPlace_v c1) dX1_writePlace_104 (pc' := 105) rfl ?_
                refine wk_aload_n F dX1_writePlace_105 rfl 3 rfl (pc' := 106) rfl ?_
                refine wk_same_p F (c1_available l D cI cP hs σ) (cwV 0 F.hts gX1_writePlace_X1_available rfl rfl rfl hdX1_available ⟨Nat.le_of_ble_eq_true rfl, Nat.le_of_ble_eq_true rfl⟩) 0 1 rfl rfl rfl rfl (Nat.le_of_ble_eq_true rfl) dX1_writePlace_106 ⟨Nat.zero_le _, Nat.zero_le _⟩ (pc' := 109) rfl ?_
                refine wk_same_p F (c1_wouldGetUnpromised l D cI cP hs σ p1 (σ 1 p1.toNatClampNeg) (f1_available σ)) (cwV 3 F.hts gX1_writePlace_X1_wouldGetUnpromised rfl rfl rfl hdX1_wouldGetUnpromised ⟨Nat.le_of_ble_eq_true rfl, Nat.le_of_ble_eq_true rfl⟩) 0 1 rfl rfl rfl rfl (Nat.le_of_ble_eq_true rfl) dX1_writePlace_109 ⟨Nat.zero_le _, Nat.zero_le _⟩ (pc' := 112) rfl ?_
                refine wk_if_ne (tgt := 123) F dX1_writePlace_112 (by decide) (pc' := 115) rfl (fun c42 => ?_) (fun c42 => ?_)
                · refine wk_aload_n F dX1_writePlace_123 rfl 3 rfl (pc' := 124) rfl ?_
                  refine wk_same_p F (c1_level l D cI cP hs σ) (cwV 0 F.hts gX1_writePlace_X1_level rfl rfl rfl hdX1_level ⟨Nat.le_of_ble_eq_true rfl, Nat.le_of_ble_eq_true rfl⟩) 0 1 rfl rfl rfl rfl (Nat.le_of_ble_eq_true rfl) dX1_writePlace_124 ⟨Nat.zero_le _, Nat.zero_le _⟩ (pc' := 127) rfl ?_
                  refine wk_istore (lv' := [(7, .int (f1_level σ)), (6, .int (0 : Int32)), (5, .int (f1_lowestFreePiece σ)), (4, .int (f1_pieceAt σ p1 p2)), (0, .ref (hs 0)), (1, .int p1), (2, .int p2), (3, .int p3)]) F dX1_writePlace_127 (Nat.le_of_ble_eq_true rfl) rfl (pc' := 129) rfl ?_
                  refine wk_aload_n F dX1_writePlace_129 rfl 4 rfl (pc' := 130) rfl ?_
                  refine wk_iload_n F dX1_writePlace_130 rfl 5 rfl (pc' := 131) rfl ?_
                  refine wk_iload_n F dX1_writePlace_131 rfl 6 rfl (pc' := 132) rfl ?_
                  refine wk_same_i F (c1_loosen l D cI cP hs σ p1 p2) (cwV 2 F.hts gX1_writePlace_X1_loosen rfl rfl rfl hdX1_loosen ⟨Nat.le_of_ble_eq_true rfl, Nat.le_of_ble_eq_true rfl⟩) 0 1 rfl rfl rfl rfl (Nat.le_of_ble_eq_true rfl) dX1_writePlace_132 ⟨Nat.zero_le _, Nat.zero_le _⟩ (pc' := 135) rfl (fun r44 u43 h45 => ?_)
                  refine wk_pop F dX1_writePlace_135 rfl (pc' := 136) rfl ?_
                  refine wk_aload_n F dX1_writePlace_136 rfl 4 rfl (pc' := 137) rfl ?_
                  refine wk_get (C := RX1) (T := TX1) (N := 14) F 0 rfl rfl k_1 6 (Nat.le_of_ble_eq_true rfl) w_7 rfl dX1_writePlace_137 (pc' := 140) rfl ?_
                  refine wk_iload_n F dX1_writePlace_140 rfl 5 rfl (pc' := 141) rfl ?_
                  refine wk_bipush F dX1_writePlace_141 bp_40 (pc' := 143) rfl ?_
                  refine wk_imul F dX1_writePlace_143 (pc' := 144) rfl ?_
                  refine wk_iload_n F dX1_writePlace_144 rfl 6 rfl (pc' := 145) rfl ?_
                  refine wk_iadd F dX1_writePlace_145 (pc' := 146) rfl ?_
                  refine wk_iload F dX1_writePlace_146 2 rfl (pc' := 148) rfl ?_
                  refine wk_iastu (wg := wPool cI hs) (f0 := wr u43 6 ((p1 * (40 : Int32)) + p2).toNatClampNeg (f1_lowestFreePiece σ)) F 7 0 rfl rfl aP_6 (ix_spot (hasPlace_v c1) (hasPlace_p c1)) dX1_writePlace_148 (pc' := 149) rfl (fun u46 h47 => ?_)
                  refine wk_aload_n F dX1_writePlace_149 rfl 4 rfl (pc' := 150) rfl ?_
                  refine wk_get (C := RX1) (T := TX1) (N := 14) F 0 rfl rfl k_1 8 (Nat.le_of_ble_eq_true rfl) w_2 rfl dX1_writePlace_150 (pc' := 153) rfl ?_
                  refine wk_iload F dX1_writePlace_153 2 rfl (pc' := 155) rfl ?_
                  refine wk_iconst F dX1_writePlace_155 ic_1 (pc' := 156) rfl ?_
                  refine wk_iastu (wg := wPool cI hs) (f0 := wr u46 8 (f1_lowestFreePiece σ).toNatClampNeg (1 : Int32)) F 9 0 rfl rfl aP_8 (isPiece_in c39) dX1_writePlace_156 (pc' := 157) rfl (fun u48 h49 => ?_)
                  refine wk_aload_n F dX1_writePlace_157 rfl 4 rfl (pc' := 158) rfl ?_
                  refine wk_get (C := RX1) (T := TX1) (N := 14) F 0 rfl rfl k_1 7 (Nat.le_of_ble_eq_true rfl) w_3 rfl dX1_writePlace_158 (pc' := 161) rfl ?_
                  refine wk_iload F dX1_writePlace_161 2 rfl (pc' := 163) rfl ?_
                  refine wk_iload_n F dX1_writePlace_163 rfl 7 rfl (pc' := 164) rfl ?_
                  refine wk_iastu (wg := wPool cI hs) (f0 := wr u48 7 (f1_lowestFreePiece σ).toNatClampNeg p3) F 8 0 rfl rfl aP_7 (isPiece_in c39) dX1_writePlace_164 (pc' := 165) rfl (fun u50 h51 => ?_)
                  refine wk_aload_n F dX1_writePlace_165 rfl 4 rfl (pc' := 166) rfl ?_
                  refine wk_iload_n F dX1_writePlace_166 rfl 5 rfl (pc' := 167) rfl ?_
                  refine wk_iload F dX1_writePlace_167 1 rfl (pc' := 169) rfl ?_
                  refine wk_iload F dX1_writePlace_169 0 rfl (pc' := 171) rfl ?_
                  refine wk_same_v F (c1_bookPiece l D cI cP hs u50 p1 (0 : Int32) (f1_level σ) (hasPlace_v c1)) (cwV 3 F.hts gX1_writePlace_X1_bookPiece rfl rfl rfl hdX1_bookPiece ⟨Nat.le_of_ble_eq_true rfl, Nat.le_of_ble_eq_true rfl⟩) 0 1 rfl rfl rfl rfl (Nat.le_of_ble_eq_true rfl) dX1_writePlace_171 ⟨Nat.zero_le _, Nat.zero_le _⟩ (pc' := 174) rfl (fun u52 h53 => ?_)
                  refine wk_iload F dX1_writePlace_174 2 rfl (pc' := 176) rfl ?_
                  exact hret _ _ _ _ dX1_writePlace_176 rfl (by rw [f1_writePlace] <;> exact (st_neg c1 (st_neg c2 (st_pos c3 (st_neg c4 (st_neg c37 (st_pos c38 (st_neg c39 (st_neg c42 (st_match h45 (st_let h47 (st_let h49 (st_let h51 (st_let h53 rfl))))))))))))))
                · refine wk_aload_n F dX1_writePlace_115 rfl 3 rfl (pc' := 116) rfl ?_
                  refine wk_iload_n F dX1_writePlace_116 rfl 4 rfl (pc' := 117) rfl ?_
                  refine wk_same_v F (c1_refuse l D cI cP hs σ p1 (hasPlace_v c1)) (cwV 1 F.hts gX1_writePlace_X1_refuse rfl rfl rfl hdX1_refuse ⟨Nat.le_of_ble_eq_true rfl, Nat.le_of_ble_eq_true rfl⟩) 0 1 rfl rfl rfl rfl (Nat.le_of_ble_eq_true rfl) dX1_writePlace_117 ⟨Nat.zero_le _, Nat.zero_le _⟩ (pc' := 120) rfl (fun u54 h55 => ?_)
                  refine wk_ldc F dX1_writePlace_120 w_6 (pc' := 122) rfl ?_
                  exact hret _ _ _ _ dX1_writePlace_122 rfl (by rw [f1_writePlace] <;> exact (st_neg c1 (st_neg c2 (st_pos c3 (st_neg c4 (st_neg c37 (st_pos c38 (st_neg c39 (st_pos c42 (st_let h55 rfl))))))))))
            · refine wk_iconst F dX1_writePlace_76 ic_1 (pc' := 77) rfl ?_
              refine wk_goto (tgt := 81) F dX1_writePlace_77 (by decide) ?_
              refine wk_istore (lv' := [(6, .int (1 : Int32)), (5, .int (f1_lowestFreePiece σ)), (4, .int (f1_pieceAt σ p1 p2)), (0, .ref (hs 0)), (1, .int p1), (2, .int p2), (3, .int p3)]) F dX1_writePlace_81 (Nat.le_of_ble_eq_true rfl) rfl (pc' := 83) rfl ?_
              refine wk_aload_n F dX1_writePlace_83 rfl 3 rfl (pc' := 84) rfl ?_
              refine wk_iload F dX1_writePlace_84 1 rfl (pc' := 86) rfl ?_
              refine wk_same_p F (c1_isPiece l D cI cP hs σ (f1_lowestFreePiece σ)) (cwV 1 F.hts gX1_writePlace_X1_isPiece rfl rfl rfl hdX1_isPiece ⟨Nat.le_of_ble_eq_true rfl, Nat.le_of_ble_eq_true rfl⟩) 0 1 rfl rfl rfl rfl (Nat.le_of_ble_eq_true rfl) dX1_writePlace_86 ⟨Nat.zero_le _, Nat.zero_le _⟩ (pc' := 89) rfl ?_
              refine wk_if_eq (tgt := 115) F dX1_writePlace_89 (by decide) (pc' := 92) rfl (fun c56 => ?_) (fun c56 => ?_)
              · refine wk_aload_n F dX1_writePlace_115 rfl 3 rfl (pc' := 116) rfl ?_
                refine wk_iload_n F dX1_writePlace_116 rfl 4 rfl (pc' := 117) rfl ?_
                refine wk_same_v F (c1_refuse l D cI cP hs σ p1 (hasPlace_v c1)) (cwV 1 F.hts gX1_writePlace_X1_refuse rfl rfl rfl hdX1_refuse ⟨Nat.le_of_ble_eq_true rfl, Nat.le_of_ble_eq_true rfl⟩) 0 1 rfl rfl rfl rfl (Nat.le_of_ble_eq_true rfl) dX1_writePlace_117 ⟨Nat.zero_le _, Nat.zero_le _⟩ (pc' := 120) rfl (fun u57 h58 => ?_)
                refine wk_ldc F dX1_writePlace_120 w_6 (pc' := 122) rfl ?_
                exact hret _ _ _ _ dX1_writePlace_122 rfl (by rw [f1_writePlace] <;> exact (st_neg c1 (st_neg c2 (st_pos c3 (st_neg c4 (st_neg c37 (st_neg c38 (st_pos c56 (st_let h58 rfl)))))))))
              · refine wk_iload F dX1_writePlace_92 0 rfl (pc' := 94) rfl ?_
                refine wk_if_ne (tgt := 123) F dX1_writePlace_94 (by decide) (pc' := 97) rfl (fun _ => ?_) (fun c => absurd c (by decide))
                refine wk_aload_n F dX1_writePlace_123 rfl 3 rfl (pc' := 124) rfl ?_
                refine wk_same_p F (c1_level l D cI cP hs σ) (cwV 0 F.hts gX1_writePlace_X1_level rfl rfl rfl hdX1_level ⟨Nat.le_of_ble_eq_true rfl, Nat.le_of_ble_eq_true rfl⟩) 0 1 rfl rfl rfl rfl (Nat.le_of_ble_eq_true rfl) dX1_writePlace_124 ⟨Nat.zero_le _, Nat.zero_le _⟩ (pc' := 127) rfl ?_
                refine wk_istore (lv' := [(7, .int (f1_level σ)), (6, .int (1 : Int32)), (5, .int (f1_lowestFreePiece σ)), (4, .int (f1_pieceAt σ p1 p2)), (0, .ref (hs 0)), (1, .int p1), (2, .int p2), (3, .int p3)]) F dX1_writePlace_127 (Nat.le_of_ble_eq_true rfl) rfl (pc' := 129) rfl ?_
                refine wk_aload_n F dX1_writePlace_129 rfl 4 rfl (pc' := 130) rfl ?_
                refine wk_iload_n F dX1_writePlace_130 rfl 5 rfl (pc' := 131) rfl ?_
                refine wk_iload_n F dX1_writePlace_131 rfl 6 rfl (pc' := 132) rfl ?_
                refine wk_same_i F (c1_loosen l D cI cP hs σ p1 p2) (cwV 2 F.hts gX1_writePlace_X1_loosen rfl rfl rfl hdX1_loosen ⟨Nat.le_of_ble_eq_true rfl, Nat.le_of_ble_eq_true rfl⟩) 0 1 rfl rfl rfl rfl (Nat.le_of_ble_eq_true rfl) dX1_writePlace_132 ⟨Nat.zero_le _, Nat.zero_le _⟩ (pc' := 135) rfl (fun r60 u59 h61 => ?_)
                refine wk_pop F dX1_writePlace_135 rfl (pc' := 136) rfl ?_
                refine wk_aload_n F dX1_writePlace_136 rfl 4 rfl (pc' := 137) rfl ?_
                refine wk_get (C := RX1) (T := TX1) (N := 14) F 0 rfl rfl k_1 6 (Nat.le_of_ble_eq_true rfl) w_7 rfl dX1_writePlace_137 (pc' := 140) rfl ?_
                refine wk_iload_n F dX1_writePlace_140 rfl 5 rfl (pc' := 141) rfl ?_
                refine wk_bipush F dX1_writePlace_141 bp_40 (pc' := 143) rfl ?_
                refine wk_imul F dX1_writePlace_143 (pc' := 144) rfl ?_
                refine wk_iload_n F dX1_writePlace_144 rfl 6 rfl (pc' := 145) rfl ?_
                refine wk_iadd F dX1_writePlace_145 (pc' := 146) rfl ?_
                refine wk_iload F dX1_writePlace_146 2 rfl (pc' := 148) rfl ?_
                refine wk_iastu (wg := wPool cI hs) (f0 := wr u59 6 ((p1 * (40 : Int32)) + p2).toNatClampNeg (f1_lowestFreePiece σ)) F 7 0 rfl rfl aP_6 (ix_spot (hasPlace_v c1) (hasPlace_p c1)) dX1_writePlace_148 (pc' := 149) rfl (fun u62 h63 => ?_)
                refine wk_aload_n F dX1_writePlace_149 rfl 4 rfl (pc' := 150) rfl ?_
                refine wk_get (C := RX1) (T := TX1) (N := 14) F 0 rfl rfl k_1 8 (Nat.le_of_ble_eq_true rfl) w_2 rfl dX1_writePlace_150 (pc' := 153) rfl ?_
                refine wk_iload F dX1_writePlace_153 2 rfl (pc' := 155) rfl ?_
                refine wk_iconst F dX1_writePlace_155 ic_1 (pc' := 156) rfl ?_
                refine wk_iastu (wg := wPool cI hs) (f0 := wr u62 8 (f1_lowestFreePiece σ).toNatClampNeg (1 : Int32)) F 9 0 rfl rfl aP_8 (isPiece_in c56) dX1_writePlace_156 (pc' := 157) rfl (fun u64 h65 => ?_)
                refine wk_aload_n F dX1_writePlace_157 rfl 4 rfl (pc' := 158) rfl ?_
                refine wk_get (C := RX1) (T := TX1) (N := 14) F 0 rfl rfl k_1 7 (Nat.le_of_ble_eq_true rfl) w_3 rfl dX1_writePlace_158 (pc' := 161) rfl ?_
                refine wk_iload F dX1_writePlace_161 2 rfl (pc' := 163) rfl ?_
                refine wk_iload_n F dX1_writePlace_163 rfl 7 rfl (pc' := 164) rfl ?_
                refine wk_iastu (wg := wPool cI hs) (f0 := wr u64 7 (f1_lowestFreePiece σ).toNatClampNeg p3) F 8 0 rfl rfl aP_7 (isPiece_in c56) dX1_writePlace_164 (pc' := 165) rfl (fun u66 h67 => ?_)
                refine wk_aload_n F dX1_writePlace_165 rfl 4 rfl (pc' := 166) rfl ?_
                refine wk_iload_n F dX1_writePlace_166 rfl 5 rfl (pc' := 167) rfl ?_
                refine wk_iload F dX1_writePlace_167 1 rfl (pc' := 169) rfl ?_
                refine wk_iload F dX1_writePlace_169 0 rfl (pc' := 171) rfl ?_
                refine wk_same_v F (c1_bookPiece l D cI cP hs u66 p1 (1 : Int32) (f1_level σ) (hasPlace_v c1)) (cwV 3 F.hts gX1_writePlace_X1_bookPiece rfl rfl rfl hdX1_bookPiece ⟨Nat.le_of_ble_eq_true rfl, Nat.le_of_ble_eq_true rfl⟩) 0 1 rfl rfl rfl rfl (Nat.le_of_ble_eq_true rfl) dX1_writePlace_171 ⟨Nat.zero_le _, Nat.zero_le _⟩ (pc' := 174) rfl (fun u68 h69 => ?_)
                refine wk_iload F dX1_writePlace_174 2 rfl (pc' := 176) rfl ?_
                exact hret _ _ _ _ dX1_writePlace_176 rfl (by rw [f1_writePlace] <;> exact (st_neg c1 (st_neg c2 (st_pos c3 (st_neg c4 (st_neg c37 (st_neg c38 (st_neg c56 (st_match h61 (st_let h63 (st_let h65 (st_let h67 (st_let h69 rfl)))))))))))))
          · refine wk_aload_n F dX1_writePlace_50 rfl 1 rfl (pc' := 51) rfl ?_
            refine wk_get (C := RX1) (T := TX1) (N := 14) F 0 rfl rfl k_1 7 (Nat.le_of_ble_eq_true rfl) w_3 rfl dX1_writePlace_51 (pc' := 54) rfl ?_
            refine wk_iload F dX1_writePlace_54 0 rfl (pc' := 56) rfl ?_
            refine wk_iload_n F dX1_writePlace_56 rfl 4 rfl (pc' := 57) rfl ?_
            refine wk_iastu (wg := wPool cI hs) (f0 := wr σ 7 (f1_pieceAt σ p1 p2).toNatClampNeg p3) F 8 0 rfl rfl aP_7 (isPiece_in c4) dX1_writePlace_57 (pc' := 58) rfl (fun u70 h71 => ?_)
            refine wk_iload F dX1_writePlace_58 0 rfl (pc' := 60) rfl ?_
            exact hret _ _ _ _ dX1_writePlace_60 rfl (by rw [f1_writePlace] <;> exact (st_neg c1 (st_neg c2 (st_pos c3 (st_neg c4 (st_pos c37 (st_let h71 rfl)))))))
      · refine wk_ldc F dX1_writePlace_19 w_1 (pc' := 21) rfl ?_
        exact hret _ _ _ _ dX1_writePlace_21 rfl (by rw [f1_writePlace] <;> exact (st_neg c1 (st_neg c2 (st_neg c3 rfl))))
def f1_thank (σ : PS) (p1 : Int32) (p2 : Int32) : PS := (sq (wr σ 1 p1.toNatClampNeg (if (100 : Int32) < ((σ 1 p1.toNatClampNeg) + ((2 : Int32) * p2)) then (100 : Int32) else ((σ 1 p1.toNatClampNeg) + ((2 : Int32) * p2)))) (fun (u1 : PS) => u1))
set_option maxHeartbeats 4000000 in
set_option maxRecDepth 100000 in
theorem c1_thank (l : Launch) (D : va_G) (cI cP : ClassId) (hs : Nat → Nat) (σ : PS) (p1 : Int32) (p2 : Int32) (hp_p1 : vp_in p1 8) : CV l yX1_thank wsX1_thank ({ frames := 1, cells := 0, slots := 0, locals := 15 } : Room) D (cty cI cP) (wPool cI hs σ) (wPool cI hs) [.ref (hs 0), .int p1, .int p2] 0 0 (fun u => f1_thank σ p1 p2 = u) := by
  refine CV.of (cc := cX1_thank) (maxL := 3) (own := RX1) (lv0 := [(0, .ref (hs 0)), (1, .int p1), (2, .int p2)]) pnX1 rfl rfl (Nat.le_of_ble_eq_true rfl) rfl (fun p e s m args below meth c A Q F hmn hret => ?_)
  have w_1 := F.at (x := Cond.fieldLink RX1 15 "ThinVolumes$Pool" "manners" "[I") 1 rfl
  have w_2 := F.at (x := Cond.methodLink RX1 158 Lib.Math.min.name) 2 rfl
  have w_3 := F.at (x := Cond.static Lib.Math.min.name) 3 rfl
  have w_4 := F.at (x := Cond.initialized "java/lang/Math") 4 rfl
  have w_5 := F.at (x := Cond.code Lib.Math.min.name Lib.Math.min.code 2 (some .int)) 5 rfl
  have k_1 : ∀ w ∈ wsX10, w ∈ wsX1_thank := fun _ h => List.mem_cons_of_mem _ (List.mem_append_right _ (h))
  refine wk_aload_n F dX1_thank_0 rfl 0 rfl (pc' := 1) rfl ?_
  refine wk_get (C := RX1) (T := TX1) (N := 14) F 0 rfl rfl k_1 1 (Nat.le_of_ble_eq_true rfl) w_1 rfl dX1_thank_1 (pc' := 4) rfl ?_
  refine wk_iload_n F dX1_thank_4 rfl 1 rfl (pc' := 5) rfl ?_
  refine wk_aload_n F dX1_thank_5 rfl 0 rfl (pc' := 6) rfl ?_
  refine wk_get (C := RX1) (T := TX1) (N := 14) F 0 rfl rfl k_1 1 (Nat.le_of_ble_eq_true rfl) w_1 rfl dX1_thank_6 (pc' := 9) rfl ?_
  refine wk_iload_n F dX1_thank_9 rfl 1 rfl (pc' := 10) rfl ?_
  refine wk_iald F 2 0 rfl rfl hp_p1 dX1_thank_10 (pc' := 11) rfl ?_
  refine wk_iconst F dX1_thank_11 ic_2 (pc' := 12) rfl ?_
  refine wk_iload_n F dX1_thank_12 rfl 2 rfl (pc' := 13) rfl ?_
  refine wk_imul F dX1_thank_13 (pc' := 14) rfl ?_
  refine wk_iadd F dX1_thank_14 (pc' := 15) rfl ?_
  refine wk_bipush F dX1_thank_15 bp_100 (pc' := 17) rfl ?_
  refine wk_mmin F w_2 w_3 w_4 w_5 (Nat.le_of_ble_eq_true rfl) (Nat.le_of_ble_eq_true rfl) (Nat.zero_le _) (Nat.zero_le _) dX1_thank_17 (pc' := 20) rfl ?_
  refine wk_iastu (wg := wPool cI hs) (f0 := wr σ 1 p1.toNatClampNeg (if (100 : Int32) < ((σ 1 p1.toNatClampNeg) + ((2 : Int32) * p2)) then (100 : Int32) else ((σ 1 p1.toNatClampNeg) + ((2 : Int32) * p2)))) F 2 0 rfl rfl aP_1 hp_p1 dX1_thank_20 (pc' := 21) rfl (fun u1 h2 => ?_)
  exact hret _ _ _ dX1_thank_21 (by rw [f1_thank] <;> exact (st_let h2 rfl))
def f1_trimPlace (σ : PS) (p1 : Int32) (p2 : Int32) : Int32 × PS := (if (f1_hasPlace σ p1 p2) = 0 then ((-1000001 : Int32), σ) else (if (f1_pieceAt σ p1 p2) = (-1 : Int32) then ((-1000002 : Int32), σ) else (sq2 (f1_loosen σ p1 p2) (fun (r4 : Int32) (u3 : PS) => (sq (f1_thank u3 p1 r4) (fun (u6 : PS) => (r4, u6)))))))
set_option maxHeartbeats 4000000 in
set_option maxRecDepth 100000 in
theorem c1_trimPlace (l : Launch) (D : va_G) (cI cP : ClassId) (hs : Nat → Nat) (σ : PS) (p1 : Int32) (p2 : Int32) : CI l yX1_trimPlace wsX1_trimPlace ({ frames := 4, cells := 0, slots := 0, locals := 88 } : Room) D (cty cI cP) (wPool cI hs σ) (wPool cI hs) [.ref (hs 0), .int p1, .int p2] 0 0 (fun r u => f1_trimPlace σ p1 p2 = (r, u)) := by
  refine CI.of (cc := cX1_trimPlace) (maxL := 4) (rt := .int) (own := RX1) (lv0 := [(0, .ref (hs 0)), (1, .int p1), (2, .int p2)]) pnX1 rfl rfl (Nat.le_of_ble_eq_true rfl) rfl (fun p e s m args below meth c A Q F hret => ?_)
  have w_2 := F.at (x := Cond.constant RX1 132 (-1000002)) 2 rfl
  have w_1 := F.at (x := Cond.constant RX1 124 (-1000001)) 1 rfl
  refine wk_aload_n F dX1_trimPlace_0 rfl 0 rfl (pc' := 1) rfl ?_
  refine wk_iload_n F dX1_trimPlace_1 rfl 1 rfl (pc' := 2) rfl ?_
  refine wk_iload_n F dX1_trimPlace_2 rfl 2 rfl (pc' := 3) rfl ?_
  refine wk_same_p F (c1_hasPlace l D cI cP hs σ p1 p2) (cwV 2 F.hts gX1_trimPlace_X1_hasPlace rfl rfl rfl hdX1_hasPlace ⟨Nat.le_of_ble_eq_true rfl, Nat.le_of_ble_eq_true rfl⟩) 0 1 rfl rfl rfl rfl (Nat.le_of_ble_eq_true rfl) dX1_trimPlace_3 ⟨Nat.zero_le _, Nat.zero_le _⟩ (pc' := 6) rfl ?_
  refine wk_if_ne (tgt := 12) F dX1_trimPlace_6 (by decide) (pc' := 9) rfl (fun c1 => ?_) (fun c1 => ?_)
  · refine wk_aload_n F dX1_trimPlace_12 rfl 0 rfl (pc' := 13) rfl ?_
    refine wk_iload_n F dX1_trimPlace_13 rfl 1 rfl (pc' := 14) rfl ?_
    refine wk_iload_n F dX1_trimPlace_14 rfl 2 rfl (pc' := 15) rfl ?_
    refine wk_same_p F (c1_pieceAt l D cI cP hs σ p1 p2) (cwV 2 F.hts gX1_trimPlace_X1_pieceAt rfl rfl rfl hdX1_pieceAt ⟨Nat.le_of_ble_eq_true rfl, Nat.le_of_ble_eq_true rfl⟩) 0 1 rfl rfl rfl rfl (Nat.le_of_ble_eq_true rfl) dX1_trimPlace_15 ⟨Nat.zero_le _, Nat.zero_le _⟩ (pc' := 18) rfl ?_
    refine wk_iconst F dX1_trimPlace_18 ic_m1 (pc' := 19) rfl ?_
    refine wk_icmp_ne (tgt := 25) F dX1_trimPlace_19 (by decide) (pc' := 22) rfl (fun c2 => ?_) (fun c2 => ?_)
    · refine wk_aload_n F dX1_trimPlace_25 rfl 0 rfl (pc' := 26) rfl ?_
      refine wk_iload_n F dX1_trimPlace_26 rfl 1 rfl (pc' := 27) rfl ?_
      refine wk_iload_n F dX1_trimPlace_27 rfl 2 rfl (pc' := 28) rfl ?_
      refine wk_same_i F (c1_loosen l D cI cP hs σ p1 p2) (cwV 2 F.hts gX1_trimPlace_X1_loosen rfl rfl rfl hdX1_loosen ⟨Nat.le_of_ble_eq_true rfl, Nat.le_of_ble_eq_true rfl⟩) 0 1 rfl rfl rfl rfl (Nat.le_of_ble_eq_true rfl) dX1_trimPlace_28 ⟨Nat.zero_le _, Nat.zero_le _⟩ (pc' := 31) rfl (fun r4 u3 h5 => ?_)
      refine wk_istore_n (lv' := [(3, .int r4), (0, .ref (hs 0)), (1, .int p1), (2, .int p2)]) F dX1_trimPlace_31 rfl (Nat.le_of_ble_eq_true rfl) rfl (pc' := 32) rfl ?_
      refine wk_aload_n F dX1_trimPlace_32 rfl 1 rfl (pc' := 33) rfl ?_
      refine wk_iload_n F dX1_trimPlace_33 rfl 2 rfl (pc' := 34) rfl ?_
      refine wk_iload_n F dX1_trimPlace_34 rfl 0 rfl (pc' := 35) rfl ?_
      refine wk_same_v F (c1_thank l D cI cP hs u3 p1 r4 (hasPlace_v c1)) (cwV 2 F.hts gX1_trimPlace_X1_thank rfl rfl rfl hdX1_thank ⟨Nat.le_of_ble_eq_true rfl, Nat.le_of_ble_eq_true rfl⟩) 0 1 rfl rfl rfl rfl (Nat.le_of_ble_eq_true rfl) dX1_trimPlace_35 ⟨Nat.zero_le _, Nat.zero_le _⟩ (pc' := 38) rfl (fun u6 h7 => ?_)
      refine wk_iload_n F dX1_trimPlace_38 rfl 0 rfl (pc' := 39) rfl ?_
      exact hret _ _ _ _ dX1_trimPlace_39 rfl (by rw [f1_trimPlace] <;> exact (st_neg c1 (st_neg c2 (st_match h5 (st_let h7 rfl)))))
    · refine wk_ldc F dX1_trimPlace_22 w_2 (pc' := 24) rfl ?_
      exact hret _ _ _ _ dX1_trimPlace_24 rfl (by rw [f1_trimPlace] <;> exact (st_neg c1 (st_pos c2 rfl)))
  · refine wk_ldc F dX1_trimPlace_9 w_1 (pc' := 11) rfl ?_
    exact hret _ _ _ _ dX1_trimPlace_11 rfl (by rw [f1_trimPlace] <;> exact (st_pos c1 rfl))
def f1_sweepVolume_L15 (p1 : Int32) : Nat → Nat → Int32 → PS → Int32 × PS
  | 0, i, x2, u => (x2, u)
  | n + 1, i, x2, u => (if (f1_isPiece u (f1_pieceAt u p1 (nI i))) = 0 then f1_sweepVolume_L15 p1 n (i + 1) x2 u else (if (u 7 (f1_pieceAt u p1 (nI i)).toNatClampNeg) = 0 then (sq2 (f1_loosen u p1 (nI i)) (fun (r4 : Int32) (u3 : PS) => f1_sweepVolume_L15 p1 n (i + 1) (x2 + r4) u3)) else f1_sweepVolume_L15 p1 n (i + 1) x2 u))
def f1_sweepVolume (σ : PS) (p1 : Int32) : Int32 × PS := (if (f1_lives σ p1) = 0 then ((-1000001 : Int32), σ) else (sq2 (f1_sweepVolume_L15 p1 40 0 (0 : Int32) σ) (fun (y8 : Int32) (u9 : PS) => (sq (f1_thank u9 p1 y8) (fun (u10 : PS) => (y8, u10))))))
set_option maxHeartbeats 4000000 in
set_option maxRecDepth 100000 in
theorem c1_sweepVolume (l : Launch) (D : va_G) (cI cP : ClassId) (hs : Nat → Nat) (σ : PS) (p1 : Int32) : CI l yX1_sweepVolume wsX1_sweepVolume ({ frames := 4, cells := 0, slots := 0, locals := 88 } : Room) D (cty cI cP) (wPool cI hs σ) (wPool cI hs) [.ref (hs 0), .int p1] 0 0 (fun r u => f1_sweepVolume σ p1 = (r, u)) := by
  refine CI.of (cc := cX1_sweepVolume) (maxL := 5) (rt := .int) (own := RX1) (lv0 := [(0, .ref (hs 0)), (1, .int p1)]) pnX1 rfl rfl (Nat.le_of_ble_eq_true rfl) rfl (fun p e s m args below meth c A Q F hret => ?_)
  have w_2 := F.at (x := Cond.fieldLink RX1 33 "ThinVolumes$Pool" "values" "[I") 2 rfl
  have w_1 := F.at (x := Cond.constant RX1 124 (-1000001)) 1 rfl
  have k_1 : ∀ w ∈ wsX10, w ∈ wsX1_sweepVolume := fun _ h => List.mem_cons_of_mem _ (List.mem_append_right _ (h))
  have L15 : ∀ (n : Nat) (i : Nat) (x2 : Int32) (u : PS), i + n = 40 → (∀ (y2 : Int32) (uu : PS), f1_sweepVolume_L15 p1 n i x2 u = (y2, uu) → Wk p l e ({ frames := 4, cells := 0, slots := 0, locals := 88 } : Room) s m args below meth c 5 D A 0 0 Q (wPool cI hs uu) [(0, .ref (hs 0)), (1, .int p1), (2, .int y2)] 63 []) → Wk p l e ({ frames := 4, cells := 0, slots := 0, locals := 88 } : Room) s m args below meth c 5 D A 0 0 Q (wPool cI hs u) [(0, .ref (hs 0)), (1, .int p1), (2, .int x2), (3, .int (nI i))] 15 [] := by
    intro n
    induction n with
    | zero =>
      intro i x2 u hi kx
      refine wk_iload_n F dX1_sweepVolume_15 rfl 3 rfl (pc' := 16) rfl ?_
      refine wk_bipush F dX1_sweepVolume_16 bp_40 (pc' := 18) rfl ?_
      refine wk_icmp_ge (tgt := 63) F dX1_sweepVolume_18 (by decide) (pc' := 21) rfl (fun _ => ?_) (fun c => absurd ((nI_leI (a := 40) (b := i) (by omega) (by omega)).mpr (by omega)) c)
      refine wk_lv [0, 1, 2] rfl ?_
      exact kx x2 u (by rw [f1_sweepVolume_L15] <;> exact rfl)
    | succ n ih =>
      intro i x2 u hi kx
      refine wk_iload_n F dX1_sweepVolume_15 rfl 3 rfl (pc' := 16) rfl ?_
      refine wk_bipush F dX1_sweepVolume_16 bp_40 (pc' := 18) rfl ?_
      refine wk_icmp_ge (tgt := 63) F dX1_sweepVolume_18 (by decide) (pc' := 21) rfl (fun c => absurd ((nI_leI (a := 40) (b := i) (by omega) (by omega)).mp c) (by omega)) (fun _ => ?_)
      refine wk_aload_n F dX1_sweepVolume_21 rfl 0 rfl (pc' := 22) rfl ?_
      refine wk_iload_n F dX1_sweepVolume_22 rfl 1 rfl (pc' := 23) rfl ?_
      refine wk_iload_n F dX1_sweepVolume_23 rfl 3 rfl (pc' := 24) rfl ?_
      refine wk_same_p F (c1_pieceAt l D cI cP hs u p1 (nI i)) (cwV 2 F.hts gX1_sweepVolume_X1_pieceAt rfl rfl rfl hdX1_pieceAt ⟨Nat.le_of_ble_eq_true rfl, Nat.le_of_ble_eq_true rfl⟩) 0 1 rfl rfl rfl rfl (Nat.le_of_ble_eq_true rfl) dX1_sweepVolume_24 ⟨Nat.zero_le _, Nat.zero_le _⟩ (pc' := 27) rfl ?_
      refine wk_istore (lv' := [(4, .int (f1_pieceAt u p1 (nI i))), (0, .ref (hs 0)), (1, .int p1), (2, .int x2), (3, .int (nI i))]) F dX1_sweepVolume_27 (Nat.le_of_ble_eq_true rfl) rfl (pc' := 29) rfl ?_
      refine wk_aload_n F dX1_sweepVolume_29 rfl 1 rfl (pc' := 30) rfl ?_
      refine wk_iload F dX1_sweepVolume_30 0 rfl (pc' := 32) rfl ?_
      refine wk_same_p F (c1_isPiece l D cI cP hs u (f1_pieceAt u p1 (nI i))) (cwV 1 F.hts gX1_sweepVolume_X1_isPiece rfl rfl rfl hdX1_isPiece ⟨Nat.le_of_ble_eq_true rfl, Nat.le_of_ble_eq_true rfl⟩) 0 1 rfl rfl rfl rfl (Nat.le_of_ble_eq_true rfl) dX1_sweepVolume_32 ⟨Nat.zero_le _, Nat.zero_le _⟩ (pc' := 35) rfl ?_
      refine wk_if_eq (tgt := 57) F dX1_sweepVolume_35 (by decide) (pc' := 38) rfl (fun c1 => ?_) (fun c1 => ?_)
      · refine wk_iinc (k := 4) (v := nI (i + 1)) (lv' := [(3, .int (nI (i + 1))), (4, .int (f1_pieceAt u p1 (nI i))), (0, .ref (hs 0)), (1, .int p1), (2, .int x2)]) F dX1_sweepVolume_57 rfl (nI_inc i) (Nat.le_of_ble_eq_true rfl) rfl (pc' := 60) rfl ?_
        refine wk_goto (tgt := 15) F dX1_sweepVolume_60 (by decide) ?_
        refine wk_lv [2, 3, 4, 0] rfl ?_
        exact ih (i + 1) x2 u (by omega) (fun y2_ u_ h_ => kx y2_ u_ (Eq.trans (by rw [f1_sweepVolume_L15] <;> exact (st_pos c1 rfl)) h_))
      · refine wk_aload_n F dX1_sweepVolume_38 rfl 1 rfl (pc' := 39) rfl ?_
        refine wk_get (C := RX1) (T := TX1) (N := 14) F 0 rfl rfl k_1 7 (Nat.le_of_ble_eq_true rfl) w_2 rfl dX1_sweepVolume_39 (pc' := 42) rfl ?_
        refine wk_iload F dX1_sweepVolume_42 0 rfl (pc' := 44) rfl ?_
        refine wk_iald F 8 0 rfl rfl (isPiece_in c1) dX1_sweepVolume_44 (pc' := 45) rfl ?_
        refine wk_if_ne (tgt := 57) F dX1_sweepVolume_45 (by decide) (pc' := 48) rfl (fun c2 => ?_) (fun c2 => ?_)
        · refine wk_iinc (k := 4) (v := nI (i + 1)) (lv' := [(3, .int (nI (i + 1))), (4, .int (f1_pieceAt u p1 (nI i))), (0, .ref (hs 0)), (1, .int p1), (2, .int x2)]) F dX1_sweepVolume_57 rfl (nI_inc i) (Nat.le_of_ble_eq_true rfl) rfl (pc' := 60) rfl ?_
          refine wk_goto (tgt := 15) F dX1_sweepVolume_60 (by decide) ?_
          refine wk_lv [2, 3, 4, 0] rfl ?_
          exact ih (i + 1) x2 u (by omega) (fun y2_ u_ h_ => kx y2_ u_ (Eq.trans (by rw [f1_sweepVolume_L15] <;> exact (st_neg c1 (st_neg c2 rfl))) h_))
        · refine wk_iload_n F dX1_sweepVolume_48 rfl 3 rfl (pc' := 49) rfl ?_
          refine wk_aload_n F dX1_sweepVolume_49 rfl 1 rfl (pc' := 50) rfl ?_
          refine wk_iload_n F dX1_sweepVolume_50 rfl 2 rfl (pc' := 51) rfl ?_
          refine wk_iload_n F dX1_sweepVolume_51 rfl 4 rfl (pc' := 52) rfl ?_
          refine wk_same_i F (c1_loosen l D cI cP hs u p1 (nI i)) (cwV 2 F.hts gX1_sweepVolume_X1_loosen rfl rfl rfl hdX1_loosen ⟨Nat.le_of_ble_eq_true rfl, Nat.le_of_ble_eq_true rfl⟩) 0 1 rfl rfl rfl rfl (Nat.le_of_ble_eq_true rfl) dX1_sweepVolume_52 ⟨Nat.zero_le _, Nat.zero_le _⟩ (pc' := 55) rfl (fun r4 u3 h5 => ?_)
          refine wk_iadd F dX1_sweepVolume_55 (pc' := 56) rfl ?_
          refine wk_istore_n (lv' := [(2, .int (x2 + r4)), (4, .int (f1_pieceAt u p1 (nI i))), (0, .ref (hs 0)), (1, .int p1), (3, .int (nI i))]) F dX1_sweepVolume_56 rfl (Nat.le_of_ble_eq_true rfl) rfl (pc' := 57) rfl ?_
          refine wk_iinc (k := 4) (v := nI (i + 1)) (lv' := [(3, .int (nI (i + 1))), (2, .int (x2 + r4)), (4, .int (f1_pieceAt u p1 (nI i))), (0, .ref (hs 0)), (1, .int p1)]) F dX1_sweepVolume_57 rfl (nI_inc i) (Nat.le_of_ble_eq_true rfl) rfl (pc' := 60) rfl ?_
          refine wk_goto (tgt := 15) F dX1_sweepVolume_60 (by decide) ?_
          refine wk_lv [3, 4, 1, 0] rfl ?_
          exact ih (i + 1) (x2 + r4) u3 (by omega) (fun y2_ u_ h_ => kx y2_ u_ (Eq.trans (by rw [f1_sweepVolume_L15] <;> exact (st_neg c1 (st_pos c2 (st_match h5 rfl)))) h_))
  refine wk_aload_n F dX1_sweepVolume_0 rfl 0 rfl (pc' := 1) rfl ?_
  refine wk_iload_n F dX1_sweepVolume_1 rfl 1 rfl (pc' := 2) rfl ?_
  refine wk_same_p F (c1_lives l D cI cP hs σ p1) (cwV 1 F.hts gX1_sweepVolume_X1_lives rfl rfl rfl hdX1_lives ⟨Nat.le_of_ble_eq_true rfl, Nat.le_of_ble_eq_true rfl⟩) 0 1 rfl rfl rfl rfl (Nat.le_of_ble_eq_true rfl) dX1_sweepVolume_2 ⟨Nat.zero_le _, Nat.zero_le _⟩ (pc' := 5) rfl ?_
  refine wk_if_ne (tgt := 11) F dX1_sweepVolume_5 (by decide) (pc' := 8) rfl (fun c6 => ?_) (fun c6 => ?_)
  · refine wk_iconst F dX1_sweepVolume_11 ic_0 (pc' := 12) rfl ?_
    refine wk_istore_n (lv' := [(2, .int (0 : Int32)), (0, .ref (hs 0)), (1, .int p1)]) F dX1_sweepVolume_12 rfl (Nat.le_of_ble_eq_true rfl) rfl (pc' := 13) rfl ?_
    refine wk_iconst F dX1_sweepVolume_13 ic_0 (pc' := 14) rfl ?_
    refine wk_istore_n (lv' := [(3, .int (0 : Int32)), (2, .int (0 : Int32)), (0, .ref (hs 0)), (1, .int p1)]) F dX1_sweepVolume_14 rfl (Nat.le_of_ble_eq_true rfl) rfl (pc' := 15) rfl ?_
    refine wk_lv [2, 3, 1, 0] rfl ?_
    refine L15 40 0 (0 : Int32) σ (by omega) (fun y8 u9 h7 => ?_)
    refine wk_aload_n F dX1_sweepVolume_63 rfl 0 rfl (pc' := 64) rfl ?_
    refine wk_iload_n F dX1_sweepVolume_64 rfl 1 rfl (pc' := 65) rfl ?_
    refine wk_iload_n F dX1_sweepVolume_65 rfl 2 rfl (pc' := 66) rfl ?_
    refine wk_same_v F (c1_thank l D cI cP hs u9 p1 y8 (lives_in c6)) (cwV 2 F.hts gX1_sweepVolume_X1_thank rfl rfl rfl hdX1_thank ⟨Nat.le_of_ble_eq_true rfl, Nat.le_of_ble_eq_true rfl⟩) 0 1 rfl rfl rfl rfl (Nat.le_of_ble_eq_true rfl) dX1_sweepVolume_66 ⟨Nat.zero_le _, Nat.zero_le _⟩ (pc' := 69) rfl (fun u10 h11 => ?_)
    refine wk_iload_n F dX1_sweepVolume_69 rfl 2 rfl (pc' := 70) rfl ?_
    exact hret _ _ _ _ dX1_sweepVolume_70 rfl (by rw [f1_sweepVolume] <;> exact (st_neg c6 (st_match h7 (st_let h11 rfl))))
  · refine wk_ldc F dX1_sweepVolume_8 w_1 (pc' := 10) rfl ?_
    exact hret _ _ _ _ dX1_sweepVolume_10 rfl (by rw [f1_sweepVolume] <;> exact (st_pos c6 rfl))
def f1_moveOwners_L2 (p1 : Int32) (p2 : Int32) : Nat → Nat → PS → PS
  | 0, i, u => u
  | n + 1, i, u => (if (u 6 i) = p1 then (sq (wr u 6 i p2) (fun (u2 : PS) => f1_moveOwners_L2 p1 p2 n (i + 1) u2)) else f1_moveOwners_L2 p1 p2 n (i + 1) u)
def f1_moveOwners (σ : PS) (p1 : Int32) (p2 : Int32) : PS := (sq (f1_moveOwners_L2 p1 p2 320 0 σ) (fun (u5 : PS) => (sq (wr u5 8 p2.toNatClampNeg ((u5 8 p2.toNatClampNeg) + (u5 8 p1.toNatClampNeg))) (fun (u6 : PS) => (sq (wr u6 8 p1.toNatClampNeg (0 : Int32)) (fun (u8 : PS) => u8))))))
set_option maxHeartbeats 4000000 in
set_option maxRecDepth 100000 in
theorem c1_moveOwners (l : Launch) (D : va_G) (cI cP : ClassId) (hs : Nat → Nat) (σ : PS) (p1 : Int32) (p2 : Int32) (hp_p1 : vp_in p1 30) (hp_p2 : vp_in p2 30) : CV l yX1_moveOwners wsX1_moveOwners ({ frames := 0, cells := 0, slots := 0, locals := 0 } : Room) D (cty cI cP) (wPool cI hs σ) (wPool cI hs) [.ref (hs 0), .int p1, .int p2] 0 0 (fun u => f1_moveOwners σ p1 p2 = u) := by
  refine CV.of (cc := cX1_moveOwners) (maxL := 4) (own := RX1) (lv0 := [(0, .ref (hs 0)), (1, .int p1), (2, .int p2)]) pnX1 rfl rfl (Nat.le_of_ble_eq_true rfl) rfl (fun p e s m args below meth c A Q F hmn hret => ?_)
  have w_1 := F.at (x := Cond.fieldLink RX1 30 "ThinVolumes$Pool" "spots" "[I") 1 rfl
  have w_2 := F.at (x := Cond.fieldLink RX1 36 "ThinVolumes$Pool" "owners" "[I") 2 rfl
  have k_1 : ∀ w ∈ wsX10, w ∈ wsX1_moveOwners := fun _ h => List.mem_cons_of_mem _ (List.mem_append_right _ (h))
  have L2 : ∀ (n : Nat) (i : Nat) (u : PS), i + n = 320 → (∀ (uu : PS), f1_moveOwners_L2 p1 p2 n i u = uu → Wk p l e ({ frames := 0, cells := 0, slots := 0, locals := 0 } : Room) s m args below meth c 4 D A 0 0 Q (wPool cI hs uu) [(0, .ref (hs 0)), (1, .int p1), (2, .int p2)] 32 []) → Wk p l e ({ frames := 0, cells := 0, slots := 0, locals := 0 } : Room) s m args below meth c 4 D A 0 0 Q (wPool cI hs u) [(0, .ref (hs 0)), (1, .int p1), (2, .int p2), (3, .int (nI i))] 2 [] := by
    intro n
    induction n with
    | zero =>
      intro i u hi kx
      refine wk_iload_n F dX1_moveOwners_2 rfl 3 rfl (pc' := 3) rfl ?_
      refine wk_sipush F dX1_moveOwners_3 sp_320 (pc' := 6) rfl ?_
      refine wk_icmp_ge (tgt := 32) F dX1_moveOwners_6 (by decide) (pc' := 9) rfl (fun _ => ?_) (fun c => absurd ((nI_leI (a := 320) (b := i) (by omega) (by omega)).mpr (by omega)) c)
      refine wk_lv [0, 1, 2] rfl ?_
      exact kx u (by rw [f1_moveOwners_L2] <;> exact rfl)
    | succ n ih =>
      intro i u hi kx
      refine wk_iload_n F dX1_moveOwners_2 rfl 3 rfl (pc' := 3) rfl ?_
      refine wk_sipush F dX1_moveOwners_3 sp_320 (pc' := 6) rfl ?_
      refine wk_icmp_ge (tgt := 32) F dX1_moveOwners_6 (by decide) (pc' := 9) rfl (fun c => absurd ((nI_leI (a := 320) (b := i) (by omega) (by omega)).mp c) (by omega)) (fun _ => ?_)
      refine wk_aload_n F dX1_moveOwners_9 rfl 0 rfl (pc' := 10) rfl ?_
      refine wk_get (C := RX1) (T := TX1) (N := 14) F 0 rfl rfl k_1 6 (Nat.le_of_ble_eq_true rfl) w_1 rfl dX1_moveOwners_10 (pc' := 13) rfl ?_
      refine wk_iload_n F dX1_moveOwners_13 rfl 3 rfl (pc' := 14) rfl ?_
      refine wk_iald_n (i := i) F 7 0 rfl rfl (by omega) (Nat.le_of_ble_eq_true rfl) dX1_moveOwners_14 (pc' := 15) rfl ?_
      refine wk_iload_n F dX1_moveOwners_15 rfl 1 rfl (pc' := 16) rfl ?_
      refine wk_icmp_ne (tgt := 26) F dX1_moveOwners_16 (by decide) (pc' := 19) rfl (fun c1 => ?_) (fun c1 => ?_)
      · refine wk_iinc (k := 3) (v := nI (i + 1)) (lv' := [(3, .int (nI (i + 1))), (0, .ref (hs 0)), (1, .int p1), (2, .int p2)]) F dX1_moveOwners_26 rfl (nI_inc i) (Nat.le_of_ble_eq_true rfl) rfl (pc' := 29) rfl ?_
        refine wk_goto (tgt := 2) F dX1_moveOwners_29 (by decide) ?_
        refine wk_lv [1, 2, 3, 0] rfl ?_
        exact ih (i + 1) u (by omega) (fun u_ h_ => kx u_ (Eq.trans (by rw [f1_moveOwners_L2] <;> exact (st_neg c1 rfl)) h_))
      · refine wk_aload_n F dX1_moveOwners_19 rfl 0 rfl (pc' := 20) rfl ?_
        refine wk_get (C := RX1) (T := TX1) (N := 14) F 0 rfl rfl k_1 6 (Nat.le_of_ble_eq_true rfl) w_1 rfl dX1_moveOwners_20 (pc' := 23) rfl ?_
        refine wk_iload_n F dX1_moveOwners_23 rfl 3 rfl (pc' := 24) rfl ?_
        refine wk_iload_n F dX1_moveOwners_24 rfl 2 rfl (pc' := 25) rfl ?_
        refine wk_iastu_n (wg := wPool cI hs) (f0 := wr u 6 i p2) (i := i) F 7 0 rfl rfl aP_6 (by omega) (Nat.le_of_ble_eq_true rfl) dX1_moveOwners_25 (pc' := 26) rfl (fun u2 h3 => ?_)
        refine wk_iinc (k := 3) (v := nI (i + 1)) (lv' := [(3, .int (nI (i + 1))), (0, .ref (hs 0)), (1, .int p1), (2, .int p2)]) F dX1_moveOwners_26 rfl (nI_inc i) (Nat.le_of_ble_eq_true rfl) rfl (pc' := 29) rfl ?_
        refine wk_goto (tgt := 2) F dX1_moveOwners_29 (by decide) ?_
        refine wk_lv [1, 2, 3, 0] rfl ?_
        exact ih (i + 1) u2 (by omega) (fun u_ h_ => kx u_ (Eq.trans (by rw [f1_moveOwners_L2] <;> exact (st_pos c1 (st_let h3 rfl))) h_))
  refine wk_iconst F dX1_moveOwners_0 ic_0 (pc' := 1) rfl ?_
  refine wk_istore_n (lv' := [(3, .int (0 : Int32)), (0, .ref (hs 0)), (1, .int p1), (2, .int p2)]) F dX1_moveOwners_1 rfl (Nat.le_of_ble_eq_true rfl) rfl (pc' := 2) rfl ?_
  refine wk_lv [1, 2, 3, 0] rfl ?_
  refine L2 320 0 σ (by omega) (fun u5 h4 => ?_)
  refine wk_aload_n F dX1_moveOwners_32 rfl 0 rfl (pc' := 33) rfl ?_
  refine wk_get (C := RX1) (T := TX1) (N := 14) F 0 rfl rfl k_1 8 (Nat.le_of_ble_eq_true rfl) w_2 rfl dX1_moveOwners_33 (pc' := 36) rfl ?_
  refine wk_iload_n F dX1_moveOwners_36 rfl 2 rfl (pc' := 37) rfl ?_
  refine wk_dup2 F dX1_moveOwners_37 rfl rfl (pc' := 38) rfl ?_
  refine wk_iald F 9 0 rfl rfl hp_p2 dX1_moveOwners_38 (pc' := 39) rfl ?_
  refine wk_aload_n F dX1_moveOwners_39 rfl 0 rfl (pc' := 40) rfl ?_
  refine wk_get (C := RX1) (T := TX1) (N := 14) F 0 rfl rfl k_1 8 (Nat.le_of_ble_eq_true rfl) w_2 rfl dX1_moveOwners_40 (pc' := 43) rfl ?_
  refine wk_iload_n F dX1_moveOwners_43 rfl 1 rfl (pc' := 44) rfl ?_
  refine wk_iald F 9 0 rfl rfl hp_p1 dX1_moveOwners_44 (pc' := 45) rfl ?_
  refine wk_iadd F dX1_moveOwners_45 (pc' := 46) rfl ?_
  refine wk_iastu (wg := wPool cI hs) (f0 := wr u5 8 p2.toNatClampNeg ((u5 8 p2.toNatClampNeg) + (u5 8 p1.toNatClampNeg))) F 9 0 rfl rfl aP_8 hp_p2 dX1_moveOwners_46 (pc' := 47) rfl (fun u6 h7 => ?_)
  refine wk_aload_n F dX1_moveOwners_47 rfl 0 rfl (pc' := 48) rfl ?_
  refine wk_get (C := RX1) (T := TX1) (N := 14) F 0 rfl rfl k_1 8 (Nat.le_of_ble_eq_true rfl) w_2 rfl dX1_moveOwners_48 (pc' := 51) rfl ?_
  refine wk_iload_n F dX1_moveOwners_51 rfl 1 rfl (pc' := 52) rfl ?_
  refine wk_iconst F dX1_moveOwners_52 ic_0 (pc' := 53) rfl ?_
  refine wk_iastu (wg := wPool cI hs) (f0 := wr u6 8 p1.toNatClampNeg (0 : Int32)) F 9 0 rfl rfl aP_8 hp_p1 dX1_moveOwners_53 (pc' := 54) rfl (fun u8 h9 => ?_)
  exact hret _ _ _ dX1_moveOwners_54 (by rw [f1_moveOwners] <;> exact (st_let h4 (st_let h7 (st_let h9 rfl))))
def f1_mergePieces_L14 (j2 : Nat) : Nat → Nat → Int32 → PS → Int32 × PS
  | 0, i, x1, u => (x1, u)
  | n + 1, i, x1, u => (if (u 8 j2) ≤ 0 then f1_mergePieces_L14 j2 n (i + 1) x1 u else (if (u 8 i) ≤ 0 then f1_mergePieces_L14 j2 n (i + 1) x1 u else (if (u 7 j2) = (u 7 i) then (sq (f1_moveOwners u (nI i) (nI j2)) (fun (u4 : PS) => f1_mergePieces_L14 j2 n (i + 1) (x1 + 1) u4)) else f1_mergePieces_L14 j2 n (i + 1) x1 u)))
def f1_mergePieces_L4 : Nat → Nat → Int32 → PS → Int32 × PS
  | 0, i, x1, u => (x1, u)
  | n + 1, i, x1, u => (sq2 (f1_mergePieces_L14 i (30 - (i + 1)) (i + 1) x1 u) (fun (y7 : Int32) (u8 : PS) => f1_mergePieces_L4 n (i + 1) y7 u8))
def f1_mergePieces (σ : PS) : Int32 × PS := (sq2 (f1_mergePieces_L4 30 0 (0 : Int32) σ) (fun (y10 : Int32) (u11 : PS) => (sq (wr u11 13 2 ((u11 13 2) + y10)) (fun (u12 : PS) => (y10, u12)))))
set_option maxHeartbeats 4000000 in
set_option maxRecDepth 100000 in
theorem c1_mergePieces (l : Launch) (D : va_G) (cI cP : ClassId) (hs : Nat → Nat) (σ : PS) : CI l yX1_mergePieces wsX1_mergePieces ({ frames := 1, cells := 0, slots := 0, locals := 23 } : Room) D (cty cI cP) (wPool cI hs σ) (wPool cI hs) [.ref (hs 0)] 0 0 (fun r u => f1_mergePieces σ = (r, u)) := by
  refine CI.of (cc := cX1_mergePieces) (maxL := 4) (rt := .int) (own := RX1) (lv0 := [(0, .ref (hs 0))]) pnX1 rfl rfl (Nat.le_of_ble_eq_true rfl) rfl (fun p e s m args below meth c A Q F hret => ?_)
  have w_1 := F.at (x := Cond.fieldLink RX1 36 "ThinVolumes$Pool" "owners" "[I") 1 rfl
  have w_2 := F.at (x := Cond.fieldLink RX1 33 "ThinVolumes$Pool" "values" "[I") 2 rfl
  have w_3 := F.at (x := Cond.fieldLink RX1 66 "ThinVolumes$Pool" "piecesFreed" "I") 3 rfl
  have k_1 : ∀ w ∈ wsX10, w ∈ wsX1_mergePieces := fun _ h => List.mem_cons_of_mem _ (List.mem_append_right _ (h))
  have L14 : ∀ (j2 : Nat) (hj2 : j2 < 30) (n : Nat) (i : Nat) (x1 : Int32) (u : PS), i + n = 30 → (∀ (y1 : Int32) (uu : PS), f1_mergePieces_L14 j2 n i x1 u = (y1, uu) → Wk p l e ({ frames := 1, cells := 0, slots := 0, locals := 23 } : Room) s m args below meth c 4 D A 0 0 Q (wPool cI hs uu) [(0, .ref (hs 0)), (1, .int y1), (2, .int (nI j2))] 68 []) → Wk p l e ({ frames := 1, cells := 0, slots := 0, locals := 23 } : Room) s m args below meth c 4 D A 0 0 Q (wPool cI hs u) [(0, .ref (hs 0)), (1, .int x1), (2, .int (nI j2)), (3, .int (nI i))] 14 [] := by
    intro j2 hj2 n
    induction n with
    | zero =>
      intro i x1 u hi kx
      refine wk_iload_n F dX1_mergePieces_14 rfl 3 rfl (pc' := 15) rfl ?_
      refine wk_bipush F dX1_mergePieces_15 bp_30 (pc' := 17) rfl ?_
      refine wk_icmp_ge (tgt := 68) F dX1_mergePieces_17 (by decide) (pc' := 20) rfl (fun _ => ?_) (fun c => absurd ((nI_leI (a := 30) (b := i) (by omega) (by omega)).mpr (by omega)) c)
      refine wk_lv [0, 1, 2] rfl ?_
      exact kx x1 u (by rw [f1_mergePieces_L14] <;> exact rfl)
    | succ n ih =>
      intro i x1 u hi kx
      refine wk_iload_n F dX1_mergePieces_14 rfl 3 rfl (pc' := 15) rfl ?_
      refine wk_bipush F dX1_mergePieces_15 bp_30 (pc' := 17) rfl ?_
      refine wk_icmp_ge (tgt := 68) F dX1_mergePieces_17 (by decide) (pc' := 20) rfl (fun c => absurd ((nI_leI (a := 30) (b := i) (by omega) (by omega)).mp c) (by omega)) (fun _ => ?_)
      refine wk_aload_n F dX1_mergePieces_20 rfl 0 rfl (pc' := 21) rfl ?_
      refine wk_get (C := RX1) (T := TX1) (N := 14) F 0 rfl rfl k_1 8 (Nat.le_of_ble_eq_true rfl) w_1 rfl dX1_mergePieces_21 (pc' := 24) rfl ?_
      refine wk_iload_n F dX1_mergePieces_24 rfl 2 rfl (pc' := 25) rfl ?_
      refine wk_iald_n (i := j2) F 9 0 rfl rfl (by omega) (Nat.le_of_ble_eq_true rfl) dX1_mergePieces_25 (pc' := 26) rfl ?_
      refine wk_if_le (tgt := 62) F dX1_mergePieces_26 (by decide) (pc' := 29) rfl (fun c1 => ?_) (fun c1 => ?_)
      · refine wk_iinc (k := 3) (v := nI (i + 1)) (lv' := [(3, .int (nI (i + 1))), (0, .ref (hs 0)), (1, .int x1), (2, .int (nI j2))]) F dX1_mergePieces_62 rfl (nI_inc i) (Nat.le_of_ble_eq_true rfl) rfl (pc' := 65) rfl ?_
        refine wk_goto (tgt := 14) F dX1_mergePieces_65 (by decide) ?_
        refine wk_lv [1, 2, 3, 0] rfl ?_
        exact ih (i + 1) x1 u (by omega) (fun y1_ u_ h_ => kx y1_ u_ (Eq.trans (by rw [f1_mergePieces_L14] <;> exact (st_pos c1 rfl)) h_))
      · refine wk_aload_n F dX1_mergePieces_29 rfl 0 rfl (pc' := 30) rfl ?_
        refine wk_get (C := RX1) (T := TX1) (N := 14) F 0 rfl rfl k_1 8 (Nat.le_of_ble_eq_true rfl) w_1 rfl dX1_mergePieces_30 (pc' := 33) rfl ?_
        refine wk_iload_n F dX1_mergePieces_33 rfl 3 rfl (pc' := 34) rfl ?_
        refine wk_iald_n (i := i) F 9 0 rfl rfl (by omega) (Nat.le_of_ble_eq_true rfl) dX1_mergePieces_34 (pc' := 35) rfl ?_
        refine wk_if_le (tgt := 62) F dX1_mergePieces_35 (by decide) (pc' := 38) rfl (fun c2 => ?_) (fun c2 => ?_)
        · refine wk_iinc (k := 3) (v := nI (i + 1)) (lv' := [(3, .int (nI (i + 1))), (0, .ref (hs 0)), (1, .int x1), (2, .int (nI j2))]) F dX1_mergePieces_62 rfl (nI_inc i) (Nat.le_of_ble_eq_true rfl) rfl (pc' := 65) rfl ?_
          refine wk_goto (tgt := 14) F dX1_mergePieces_65 (by decide) ?_
          refine wk_lv [1, 2, 3, 0] rfl ?_
          exact ih (i + 1) x1 u (by omega) (fun y1_ u_ h_ => kx y1_ u_ (Eq.trans (by rw [f1_mergePieces_L14] <;> exact (st_neg c1 (st_pos c2 rfl))) h_))
        · refine wk_aload_n F dX1_mergePieces_38 rfl 0 rfl (pc' := 39) rfl ?_
          refine wk_get (C := RX1) (T := TX1) (N := 14) F 0 rfl rfl k_1 7 (Nat.le_of_ble_eq_true rfl) w_2 rfl dX1_mergePieces_39 (pc' := 42) rfl ?_
          refine wk_iload_n F dX1_mergePieces_42 rfl 2 rfl (pc' := 43) rfl ?_
          refine wk_iald_n (i := j2) F 8 0 rfl rfl (by omega) (Nat.le_of_ble_eq_true rfl) dX1_mergePieces_43 (pc' := 44) rfl ?_
          refine wk_aload_n F dX1_mergePieces_44 rfl 0 rfl (pc' := 45) rfl ?_
          refine wk_get (C := RX1) (T := TX1) (N := 14) F 0 rfl rfl k_1 7 (Nat.le_of_ble_eq_true rfl) w_2 rfl dX1_mergePieces_45 (pc' := 48) rfl ?_
          refine wk_iload_n F dX1_mergePieces_48 rfl 3 rfl (pc' := 49) rfl ?_
          refine wk_iald_n (i := i) F 8 0 rfl rfl (by omega) (Nat.le_of_ble_eq_true rfl) dX1_mergePieces_49 (pc' := 50) rfl ?_
          refine wk_icmp_ne (tgt := 62) F dX1_mergePieces_50 (by decide) (pc' := 53) rfl (fun c3 => ?_) (fun c3 => ?_)
          · refine wk_iinc (k := 3) (v := nI (i + 1)) (lv' := [(3, .int (nI (i + 1))), (0, .ref (hs 0)), (1, .int x1), (2, .int (nI j2))]) F dX1_mergePieces_62 rfl (nI_inc i) (Nat.le_of_ble_eq_true rfl) rfl (pc' := 65) rfl ?_
            refine wk_goto (tgt := 14) F dX1_mergePieces_65 (by decide) ?_
            refine wk_lv [1, 2, 3, 0] rfl ?_
            exact ih (i + 1) x1 u (by omega) (fun y1_ u_ h_ => kx y1_ u_ (Eq.trans (by rw [f1_mergePieces_L14] <;> exact (st_neg c1 (st_neg c2 (st_neg c3 rfl)))) h_))
          · refine wk_aload_n F dX1_mergePieces_53 rfl 0 rfl (pc' := 54) rfl ?_
            refine wk_iload_n F dX1_mergePieces_54 rfl 3 rfl (pc' := 55) rfl ?_
            refine wk_iload_n F dX1_mergePieces_55 rfl 2 rfl (pc' := 56) rfl ?_
            refine wk_same_v F (c1_moveOwners l D cI cP hs u (nI i) (nI j2) (vp_in_nI (n := i) (N := 30) (by omega) (Nat.le_of_ble_eq_true rfl)) (vp_in_nI (n := j2) (N := 30) (by omega) (Nat.le_of_ble_eq_true rfl))) (cwV 2 F.hts gX1_mergePieces_X1_moveOwners rfl rfl rfl hdX1_moveOwners ⟨Nat.le_of_ble_eq_true rfl, Nat.le_of_ble_eq_true rfl⟩) 0 1 rfl rfl rfl rfl (Nat.le_of_ble_eq_true rfl) dX1_mergePieces_56 ⟨Nat.zero_le _, Nat.zero_le _⟩ (pc' := 59) rfl (fun u4 h5 => ?_)
            refine wk_iinc (k := 1) (v := x1 + 1) (lv' := [(1, .int (x1 + 1)), (0, .ref (hs 0)), (2, .int (nI j2)), (3, .int (nI i))]) F dX1_mergePieces_59 rfl rfl (Nat.le_of_ble_eq_true rfl) rfl (pc' := 62) rfl ?_
            refine wk_iinc (k := 3) (v := nI (i + 1)) (lv' := [(3, .int (nI (i + 1))), (1, .int (x1 + 1)), (0, .ref (hs 0)), (2, .int (nI j2))]) F dX1_mergePieces_62 rfl (nI_inc i) (Nat.le_of_ble_eq_true rfl) rfl (pc' := 65) rfl ?_
            refine wk_goto (tgt := 14) F dX1_mergePieces_65 (by decide) ?_
            refine wk_lv [2, 1, 3, 0] rfl ?_
            exact ih (i + 1) (x1 + 1) u4 (by omega) (fun y1_ u_ h_ => kx y1_ u_ (Eq.trans (by rw [f1_mergePieces_L14] <;> exact (st_neg c1 (st_neg c2 (st_pos c3 (st_let h5 rfl))))) h_))
  have L4 : ∀ (n : Nat) (i : Nat) (x1 : Int32) (u : PS), i + n = 30 → (∀ (y1 : Int32) (uu : PS), f1_mergePieces_L4 n i x1 u = (y1, uu) → Wk p l e ({ frames := 1, cells := 0, slots := 0, locals := 23 } : Room) s m args below meth c 4 D A 0 0 Q (wPool cI hs uu) [(0, .ref (hs 0)), (1, .int y1)] 74 []) → Wk p l e ({ frames := 1, cells := 0, slots := 0, locals := 23 } : Room) s m args below meth c 4 D A 0 0 Q (wPool cI hs u) [(0, .ref (hs 0)), (1, .int x1), (2, .int (nI i))] 4 [] := by
    intro n
    induction n with
    | zero =>
      intro i x1 u hi kx
      refine wk_iload_n F dX1_mergePieces_4 rfl 2 rfl (pc' := 5) rfl ?_
      refine wk_bipush F dX1_mergePieces_5 bp_30 (pc' := 7) rfl ?_
      refine wk_icmp_ge (tgt := 74) F dX1_mergePieces_7 (by decide) (pc' := 10) rfl (fun _ => ?_) (fun c => absurd ((nI_leI (a := 30) (b := i) (by omega) (by omega)).mpr (by omega)) c)
      refine wk_lv [0, 1] rfl ?_
      exact kx x1 u (by rw [f1_mergePieces_L4] <;> exact rfl)
    | succ n ih =>
      intro i x1 u hi kx
      refine wk_iload_n F dX1_mergePieces_4 rfl 2 rfl (pc' := 5) rfl ?_
      refine wk_bipush F dX1_mergePieces_5 bp_30 (pc' := 7) rfl ?_
      refine wk_icmp_ge (tgt := 74) F dX1_mergePieces_7 (by decide) (pc' := 10) rfl (fun c => absurd ((nI_leI (a := 30) (b := i) (by omega) (by omega)).mp c) (by omega)) (fun _ => ?_)
      refine wk_iload_n F dX1_mergePieces_10 rfl 2 rfl (pc' := 11) rfl ?_
      refine wk_iconst F dX1_mergePieces_11 ic_1 (pc' := 12) rfl ?_
      refine wk_iadd F dX1_mergePieces_12 (pc' := 13) rfl ?_
      refine wk_top (nI_1 i) ?_
      refine wk_istore_n (lv' := [(3, .int (nI (i + 1))), (0, .ref (hs 0)), (1, .int x1), (2, .int (nI i))]) F dX1_mergePieces_13 rfl (Nat.le_of_ble_eq_true rfl) rfl (pc' := 14) rfl ?_
      refine wk_lv [1, 2, 3, 0] rfl ?_
      refine L14 i (by omega) (30 - (i + 1)) (i + 1) x1 u (by omega) (fun y7 u8 h6 => ?_)
      refine wk_iinc (k := 2) (v := nI (i + 1)) (lv' := [(2, .int (nI (i + 1))), (0, .ref (hs 0)), (1, .int y7)]) F dX1_mergePieces_68 rfl (nI_inc i) (Nat.le_of_ble_eq_true rfl) rfl (pc' := 71) rfl ?_
      refine wk_goto (tgt := 4) F dX1_mergePieces_71 (by decide) ?_
      refine wk_lv [1, 2, 0] rfl ?_
      exact ih (i + 1) y7 u8 (by omega) (fun y1_ u_ h_ => kx y1_ u_ (Eq.trans (by rw [f1_mergePieces_L4] <;> exact (st_match h6 rfl)) h_))
  refine wk_iconst F dX1_mergePieces_0 ic_0 (pc' := 1) rfl ?_
  refine wk_istore_n (lv' := [(1, .int (0 : Int32)), (0, .ref (hs 0))]) F dX1_mergePieces_1 rfl (Nat.le_of_ble_eq_true rfl) rfl (pc' := 2) rfl ?_
  refine wk_iconst F dX1_mergePieces_2 ic_0 (pc' := 3) rfl ?_
  refine wk_istore_n (lv' := [(2, .int (0 : Int32)), (1, .int (0 : Int32)), (0, .ref (hs 0))]) F dX1_mergePieces_3 rfl (Nat.le_of_ble_eq_true rfl) rfl (pc' := 4) rfl ?_
  refine wk_lv [2, 1, 0] rfl ?_
  refine L4 30 0 (0 : Int32) σ (by omega) (fun y10 u11 h9 => ?_)
  refine wk_aload_n F dX1_mergePieces_74 rfl 0 rfl (pc' := 75) rfl ?_
  refine wk_dup F dX1_mergePieces_75 rfl (pc' := 76) rfl ?_
  refine wk_get (C := RX1) (T := TX1) (N := 14) F 0 rfl rfl k_1 13 (Nat.le_of_ble_eq_true rfl) w_3 rfl dX1_mergePieces_76 (pc' := 79) rfl ?_
  refine wk_iload_n F dX1_mergePieces_79 rfl 1 rfl (pc' := 80) rfl ?_
  refine wk_iadd F dX1_mergePieces_80 (pc' := 81) rfl ?_
  refine wk_putu (wg := wPool cI hs) (f0 := wr u11 13 2 ((u11 13 2) + y10)) (C := RX1) (T := TX1) (N := 14) (ty0 := tyX1) F 0 rfl rfl k_1 tyX1_ok nmX1 13 (Nat.le_of_ble_eq_true rfl) w_3 rfl rfl rfl (Nat.le_of_ble_eq_true rfl) sP_2 dX1_mergePieces_81 (pc' := 84) rfl (fun u12 h13 => ?_)
  refine wk_iload_n F dX1_mergePieces_84 rfl 1 rfl (pc' := 85) rfl ?_
  exact hret _ _ _ _ dX1_mergePieces_85 rfl (by rw [f1_mergePieces] <;> exact (st_match h9 (st_let h13 rfl)))
