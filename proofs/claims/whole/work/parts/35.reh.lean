def wR (cI cP : ClassId) (ha : Nat → Nat) (hq : Nat → Nat → Nat) (Z : ST) : va_W := (wReh ha hq (Z 9)) ++ []
def wRT (cI cP : ClassId) (ha : Nat → Nat) (hq : Nat → Nat → Nat) (Z : ST) : va_W := (wReh ha hq (Z 9)) ++ ((wPool cI (hq 6) (Z 6)) ++ ((wText cI (hq 7) (Z 7)) ++ []))
def wRP (cI cP : ClassId) (ha : Nat → Nat) (hq : Nat → Nat → Nat) (Z : ST) : va_W := (wReh ha hq (Z 9)) ++ ((wPool cI (hq 6) (Z 6)) ++ ((wText cI (hq 7) (Z 7)) ++ ((wPool cI (hq 0) (Z 0)) ++ [])))
def f2_reasonOf (Z : ST) (p1 : Int32) : Int32 := (if p1 = (-1000001 : Int32) then (2 : Int32) else (if (f5_isError p1) = 0 then (0 : Int32) else (3 : Int32)))
set_option maxHeartbeats 4000000 in
set_option maxRecDepth 100000 in
theorem c2_reasonOf (l : Launch) (D : va_G) (cI cP : ClassId) (ha : Nat → Nat) (hq : Nat → Nat → Nat) (Z : ST) (p1 : Int32) : CP l yX2_reasonOf wsX2_reasonOf ({ frames := 1, cells := 0, slots := 0, locals := 20 } : Room) D (cty cI cP) (wR cI cP ha hq) Z [.ref (ha 3), .int p1] (f2_reasonOf Z p1) := by
  refine CP.of (cc := cX2_reasonOf) (maxL := 2) (rt := .int) (own := RX2) (lv0 := [(0, .ref (ha 3)), (1, .int p1)]) pnX2 rfl rfl (Nat.le_of_ble_eq_true rfl) rfl (fun p e s m args below meth c A Q F hret => ?_)
  have w_1 := F.at (x := Cond.constant RX2 77 (-1000001)) 1 rfl
  have w_3 := F.at (x := Cond.initialized RX5) 3 rfl
  have w_2 := F.at (x := Cond.static yX5_isError) 2 rfl
  refine wk_w (w' := (wReh ha hq (Z 9)) ++ []) rfl ?_
  refine wk_iload_n F dX2_reasonOf_0 rfl 1 rfl (pc' := 1) rfl ?_
  refine wk_ldc F dX2_reasonOf_1 w_1 (pc' := 3) rfl ?_
  refine wk_icmp_ne (tgt := 8) F dX2_reasonOf_3 (by decide) (pc' := 6) rfl (fun c1 => ?_) (fun c1 => ?_)
  · refine wk_iload_n F dX2_reasonOf_8 rfl 1 rfl (pc' := 9) rfl ?_
    refine wk_none_sn F (c5_isError l D cI cP p1) ⟨va_cnB 1 F.hts gX2_reasonOf_X5_isError_n78 rfl rfl rfl F.nw.2.2.2.1 w_3 hdX5_isError ⟨Nat.le_of_ble_eq_true rfl, Nat.le_of_ble_eq_true rfl⟩, w_2, trivial⟩ rfl rfl (Nat.le_of_ble_eq_true rfl) dX2_reasonOf_9 ⟨Nat.zero_le _, Nat.zero_le _⟩ (pc' := 12) rfl ?_
    refine wk_if_eq (tgt := 19) F dX2_reasonOf_12 (by decide) (pc' := 15) rfl (fun c2 => ?_) (fun c2 => ?_)
    · refine wk_iconst F dX2_reasonOf_19 ic_0 (pc' := 20) rfl ?_
      refine wk_w (w' := wR cI cP ha hq Z) rfl ?_
      exact hret _ _ _ dX2_reasonOf_20 rfl (Eq.symm (by rw [f2_reasonOf] <;> exact (st_neg c1 (st_pos c2 rfl))))
    · refine wk_iconst F dX2_reasonOf_15 ic_3 (pc' := 16) rfl ?_
      refine wk_goto (tgt := 20) F dX2_reasonOf_16 (by decide) ?_
      refine wk_w (w' := wR cI cP ha hq Z) rfl ?_
      exact hret _ _ _ dX2_reasonOf_20 rfl (Eq.symm (by rw [f2_reasonOf] <;> exact (st_neg c1 (st_neg c2 rfl))))
  · refine wk_iconst F dX2_reasonOf_6 ic_2 (pc' := 7) rfl ?_
    refine wk_w (w' := wR cI cP ha hq Z) rfl ?_
    exact hret _ _ _ dX2_reasonOf_7 rfl (Eq.symm (by rw [f2_reasonOf] <;> exact (st_pos c1 rfl)))
def f2_obey (Z : ST) : Int32 × ST := (if ((Z 7) 2 1) = (99 : Int32) then (sq2 (f1_cloneVolume (Z 6) ((Z 7) 1 0)) (fun (r3 : Int32) (u2 : PS) => (r3, mkZ (Z 0) (Z 1) (Z 2) (Z 3) (Z 4) (Z 5) u2 (Z 7) (Z 8) (Z 9)))) else (if ((Z 7) 2 1) = (100 : Int32) then (sq2 (f1_dropVolume (Z 6) ((Z 7) 1 0)) (fun (r7 : Int32) (u6 : PS) => (r7, mkZ (Z 0) (Z 1) (Z 2) (Z 3) (Z 4) (Z 5) u6 (Z 7) (Z 8) (Z 9)))) else (if ((Z 7) 2 1) = (115 : Int32) then (sq2 (f1_sweepVolume (Z 6) ((Z 7) 1 0)) (fun (r11 : Int32) (u10 : PS) => (r11, mkZ (Z 0) (Z 1) (Z 2) (Z 3) (Z 4) (Z 5) u10 (Z 7) (Z 8) (Z 9)))) else (if ((Z 7) 2 1) = (116 : Int32) then (sq2 (f1_trimPlace (Z 6) ((Z 7) 1 0) ((Z 7) 1 1)) (fun (r15 : Int32) (u14 : PS) => (r15, mkZ (Z 0) (Z 1) (Z 2) (Z 3) (Z 4) (Z 5) u14 (Z 7) (Z 8) (Z 9)))) else (if ((Z 7) 2 1) = (119 : Int32) then (sq2 (f1_writePlace (Z 6) ((Z 7) 1 0) ((Z 7) 1 1) ((Z 7) 1 2)) (fun (r19 : Int32) (u18 : PS) => (r19, mkZ (Z 0) (Z 1) (Z 2) (Z 3) (Z 4) (Z 5) u18 (Z 7) (Z 8) (Z 9)))) else (sq2 (f1_mergePieces (Z 6)) (fun (r22 : Int32) (u21 : PS) => (r22, mkZ (Z 0) (Z 1) (Z 2) (Z 3) (Z 4) (Z 5) u21 (Z 7) (Z 8) (Z 9)))))))))
set_option maxHeartbeats 4000000 in
set_option maxRecDepth 100000 in
theorem c2_obey (l : Launch) (D : va_G) (cI cP : ClassId) (ha : Nat → Nat) (hq : Nat → Nat → Nat) (Z : ST) : CI l yX2_obey wsX2_obey ({ frames := 5, cells := 0, slots := 0, locals := 155 } : Room) D (cty cI cP) (wRT cI cP ha hq Z) (wRT cI cP ha hq) [.ref (ha 3), .ref (hq 7 0)] 0 0 (fun r u => f2_obey Z = (r, u)) := by
  refine CI.of (cc := cX2_obey) (maxL := 3) (rt := .int) (own := RX2) (lv0 := [(0, .ref (ha 3)), (1, .ref (hq 7 0))]) pnX2 rfl rfl (Nat.le_of_ble_eq_true rfl) rfl (fun p e s m args below meth c A Q F hret => ?_)
  have w_1 := F.at (x := Cond.fieldLink RX2 49 "ThinVolumes$Text" "numbers" "[I") 1 rfl
  have w_2 := F.at (x := Cond.fieldLink RX2 53 "ThinVolumes$Text" "kind" "I") 2 rfl
  have w_3 := F.at (x := Cond.fieldLink RX2 12 "ThinVolumes$Rehearsal" "trial" "LThinVolumes$Pool;") 3 rfl
  refine wk_w (w' := (wReh ha hq (Z 9)) ++ ((wPool cI (hq 6) (Z 6)) ++ ((wText cI (hq 7) (Z 7)) ++ []))) rfl ?_
  have k_2 : ∀ w ∈ wsX20, w ∈ wsX2_obey := fun _ h => List.mem_cons_of_mem _ (List.mem_append_left _ (List.mem_append_left _ (List.mem_append_right _ (h))))
  have k_3 : ∀ w ∈ wsX30, w ∈ wsX2_obey := fun _ h => List.mem_cons_of_mem _ (List.mem_append_left _ (List.mem_append_left _ (List.mem_append_left _ (List.mem_append_right _ (h)))))
  refine wk_aload_n F dX2_obey_0 rfl 1 rfl (pc' := 1) rfl ?_
  refine wk_perm (w' := (wText cI (hq 7) (Z 7)) ++ ((wReh ha hq (Z 9)) ++ ((wPool cI (hq 6) (Z 6)) ++ []))) ((List.Perm.append_left _ ((List.Perm.append_left _ (List.Perm.refl _)).trans (List.perm_append_comm_assoc _ _ _))).trans (List.perm_append_comm_assoc _ _ _)) ?_
  refine wk_get (C := RX3) (T := TX3) (N := 5) F 0 rfl rfl k_3 3 (Nat.le_of_ble_eq_true rfl) w_1 rfl dX2_obey_1 (pc' := 4) rfl ?_
  refine wk_iconst F dX2_obey_4 ic_0 (pc' := 5) rfl ?_
  refine wk_iald_n (i := 0) F 2 0 rfl rfl (by omega) (Nat.le_of_ble_eq_true rfl) dX2_obey_5 (pc' := 6) rfl ?_
  refine wk_istore_n (lv' := [(2, .int ((Z 7) 1 0)), (0, .ref (ha 3)), (1, .ref (hq 7 0))]) F dX2_obey_6 rfl (Nat.le_of_ble_eq_true rfl) rfl (pc' := 7) rfl ?_
  refine wk_aload_n F dX2_obey_7 rfl 2 rfl (pc' := 8) rfl ?_
  refine wk_get (C := RX3) (T := TX3) (N := 5) F 0 rfl rfl k_3 2 (Nat.le_of_ble_eq_true rfl) w_2 rfl dX2_obey_8 (pc' := 11) rfl ?_
  by_cases c1 : ((Z 7) 2 1) = (99 : Int32)
  · refine wk_top c1 ?_
    refine wk_lookup (off := 94) (tgt := 105) F dX2_obey_11 (by decide) (by decide) (by decide) ?_
    refine wk_aload_n F dX2_obey_105 rfl 1 rfl (pc' := 106) rfl ?_
    refine wk_perm (w' := (wReh ha hq (Z 9)) ++ ((wText cI (hq 7) (Z 7)) ++ ((wPool cI (hq 6) (Z 6)) ++ []))) ((List.Perm.append_left _ (List.Perm.refl _)).trans (List.perm_append_comm_assoc _ _ _)) ?_
    refine wk_get (C := RX2) (T := TX2) (N := 3) F 0 rfl rfl k_2 0 (Nat.le_of_ble_eq_true rfl) w_3 rfl dX2_obey_106 (pc' := 109) rfl ?_
    refine wk_iload_n F dX2_obey_109 rfl 0 rfl (pc' := 110) rfl ?_
    refine wk_perm (w' := (wPool cI (hq 6) (Z 6)) ++ ((wReh ha hq (Z 9)) ++ ((wText cI (hq 7) (Z 7)) ++ []))) ((List.Perm.append_left _ ((List.Perm.append_left _ (List.Perm.refl _)).trans (List.perm_append_comm_assoc _ _ _))).trans (List.perm_append_comm_assoc _ _ _)) ?_
    refine wk_fr_i F (c1_cloneVolume l D cI cP (hq 6) (Z 6) ((Z 7) 1 0)) (cwV 1 F.hts gX2_obey_X1_cloneVolume rfl rfl rfl hdX1_cloneVolume ⟨Nat.le_of_ble_eq_true rfl, Nat.le_of_ble_eq_true rfl⟩) 0 1 rfl rfl rfl rfl (Nat.le_of_ble_eq_true rfl) dX2_obey_110 ⟨Nat.zero_le _, Nat.zero_le _⟩ (pc' := 113) rfl (fun r3 u2 h4 => ?_)
    refine wk_perm (w' := (wReh ha hq (Z 9)) ++ ((wPool cI (hq 6) u2) ++ ((wText cI (hq 7) (Z 7)) ++ []))) ((List.Perm.append_left _ (List.Perm.refl _)).trans (List.perm_append_comm_assoc _ _ _)) ?_
    refine wk_w (w' := wRT cI cP ha hq (mkZ (Z 0) (Z 1) (Z 2) (Z 3) (Z 4) (Z 5) u2 (Z 7) (Z 8) (Z 9))) rfl ?_
    exact hret _ _ _ _ dX2_obey_113 rfl (by rw [f2_obey] <;> exact (st_pos c1 (st_match h4 rfl)))
  by_cases c5 : ((Z 7) 2 1) = (100 : Int32)
  · refine wk_top c5 ?_
    refine wk_lookup (off := 103) (tgt := 114) F dX2_obey_11 (by decide) (by decide) (by decide) ?_
    refine wk_aload_n F dX2_obey_114 rfl 1 rfl (pc' := 115) rfl ?_
    refine wk_perm (w' := (wReh ha hq (Z 9)) ++ ((wText cI (hq 7) (Z 7)) ++ ((wPool cI (hq 6) (Z 6)) ++ []))) ((List.Perm.append_left _ (List.Perm.refl _)).trans (List.perm_append_comm_assoc _ _ _)) ?_
    refine wk_get (C := RX2) (T := TX2) (N := 3) F 0 rfl rfl k_2 0 (Nat.le_of_ble_eq_true rfl) w_3 rfl dX2_obey_115 (pc' := 118) rfl ?_
    refine wk_iload_n F dX2_obey_118 rfl 0 rfl (pc' := 119) rfl ?_
    refine wk_perm (w' := (wPool cI (hq 6) (Z 6)) ++ ((wReh ha hq (Z 9)) ++ ((wText cI (hq 7) (Z 7)) ++ []))) ((List.Perm.append_left _ ((List.Perm.append_left _ (List.Perm.refl _)).trans (List.perm_append_comm_assoc _ _ _))).trans (List.perm_append_comm_assoc _ _ _)) ?_
    refine wk_fr_i F (c1_dropVolume l D cI cP (hq 6) (Z 6) ((Z 7) 1 0)) (cwV 1 F.hts gX2_obey_X1_dropVolume rfl rfl rfl hdX1_dropVolume ⟨Nat.le_of_ble_eq_true rfl, Nat.le_of_ble_eq_true rfl⟩) 0 1 rfl rfl rfl rfl (Nat.le_of_ble_eq_true rfl) dX2_obey_119 ⟨Nat.zero_le _, Nat.zero_le _⟩ (pc' := 122) rfl (fun r7 u6 h8 => ?_)
    refine wk_perm (w' := (wReh ha hq (Z 9)) ++ ((wPool cI (hq 6) u6) ++ ((wText cI (hq 7) (Z 7)) ++ []))) ((List.Perm.append_left _ (List.Perm.refl _)).trans (List.perm_append_comm_assoc _ _ _)) ?_
    refine wk_w (w' := wRT cI cP ha hq (mkZ (Z 0) (Z 1) (Z 2) (Z 3) (Z 4) (Z 5) u6 (Z 7) (Z 8) (Z 9))) rfl ?_
    exact hret _ _ _ _ dX2_obey_122 rfl (by rw [f2_obey] <;> exact (st_neg c1 (st_pos c5 (st_match h8 rfl))))
  by_cases c9 : ((Z 7) 2 1) = (115 : Int32)
  · refine wk_top c9 ?_
    refine wk_lookup (off := 85) (tgt := 96) F dX2_obey_11 (by decide) (by decide) (by decide) ?_
    refine wk_aload_n F dX2_obey_96 rfl 1 rfl (pc' := 97) rfl ?_
    refine wk_perm (w' := (wReh ha hq (Z 9)) ++ ((wText cI (hq 7) (Z 7)) ++ ((wPool cI (hq 6) (Z 6)) ++ []))) ((List.Perm.append_left _ (List.Perm.refl _)).trans (List.perm_append_comm_assoc _ _ _)) ?_
    refine wk_get (C := RX2) (T := TX2) (N := 3) F 0 rfl rfl k_2 0 (Nat.le_of_ble_eq_true rfl) w_3 rfl dX2_obey_97 (pc' := 100) rfl ?_
    refine wk_iload_n F dX2_obey_100 rfl 0 rfl (pc' := 101) rfl ?_
    refine wk_perm (w' := (wPool cI (hq 6) (Z 6)) ++ ((wReh ha hq (Z 9)) ++ ((wText cI (hq 7) (Z 7)) ++ []))) ((List.Perm.append_left _ ((List.Perm.append_left _ (List.Perm.refl _)).trans (List.perm_append_comm_assoc _ _ _))).trans (List.perm_append_comm_assoc _ _ _)) ?_
    refine wk_fr_i F (c1_sweepVolume l D cI cP (hq 6) (Z 6) ((Z 7) 1 0)) (cwV 1 F.hts gX2_obey_X1_sweepVolume rfl rfl rfl hdX1_sweepVolume ⟨Nat.le_of_ble_eq_true rfl, Nat.le_of_ble_eq_true rfl⟩) 0 1 rfl rfl rfl rfl (Nat.le_of_ble_eq_true rfl) dX2_obey_101 ⟨Nat.zero_le _, Nat.zero_le _⟩ (pc' := 104) rfl (fun r11 u10 h12 => ?_)
    refine wk_perm (w' := (wReh ha hq (Z 9)) ++ ((wPool cI (hq 6) u10) ++ ((wText cI (hq 7) (Z 7)) ++ []))) ((List.Perm.append_left _ (List.Perm.refl _)).trans (List.perm_append_comm_assoc _ _ _)) ?_
    refine wk_w (w' := wRT cI cP ha hq (mkZ (Z 0) (Z 1) (Z 2) (Z 3) (Z 4) (Z 5) u10 (Z 7) (Z 8) (Z 9))) rfl ?_
    exact hret _ _ _ _ dX2_obey_104 rfl (by rw [f2_obey] <;> exact (st_neg c1 (st_neg c5 (st_pos c9 (st_match h12 rfl)))))
  by_cases c13 : ((Z 7) 2 1) = (116 : Int32)
  · refine wk_top c13 ?_
    refine wk_lookup (off := 70) (tgt := 81) F dX2_obey_11 (by decide) (by decide) (by decide) ?_
    refine wk_aload_n F dX2_obey_81 rfl 1 rfl (pc' := 82) rfl ?_
    refine wk_perm (w' := (wReh ha hq (Z 9)) ++ ((wText cI (hq 7) (Z 7)) ++ ((wPool cI (hq 6) (Z 6)) ++ []))) ((List.Perm.append_left _ (List.Perm.refl _)).trans (List.perm_append_comm_assoc _ _ _)) ?_
    refine wk_get (C := RX2) (T := TX2) (N := 3) F 0 rfl rfl k_2 0 (Nat.le_of_ble_eq_true rfl) w_3 rfl dX2_obey_82 (pc' := 85) rfl ?_
    refine wk_iload_n F dX2_obey_85 rfl 0 rfl (pc' := 86) rfl ?_
    refine wk_aload_n F dX2_obey_86 rfl 2 rfl (pc' := 87) rfl ?_
    refine wk_perm (w' := (wText cI (hq 7) (Z 7)) ++ ((wReh ha hq (Z 9)) ++ ((wPool cI (hq 6) (Z 6)) ++ []))) ((List.Perm.append_left _ (List.Perm.refl _)).trans (List.perm_append_comm_assoc _ _ _)) ?_
    refine wk_get (C := RX3) (T := TX3) (N := 5) F 0 rfl rfl k_3 3 (Nat.le_of_ble_eq_true rfl) w_1 rfl dX2_obey_87 (pc' := 90) rfl ?_
    refine wk_iconst F dX2_obey_90 ic_1 (pc' := 91) rfl ?_
    refine wk_iald_n (i := 1) F 2 0 rfl rfl (by omega) (Nat.le_of_ble_eq_true rfl) dX2_obey_91 (pc' := 92) rfl ?_
    refine wk_perm (w' := (wPool cI (hq 6) (Z 6)) ++ ((wText cI (hq 7) (Z 7)) ++ ((wReh ha hq (Z 9)) ++ []))) ((List.Perm.append_left _ ((List.Perm.append_left _ (List.Perm.refl _)).trans (List.perm_append_comm_assoc _ _ _))).trans (List.perm_append_comm_assoc _ _ _)) ?_
    refine wk_fr_i F (c1_trimPlace l D cI cP (hq 6) (Z 6) ((Z 7) 1 0) ((Z 7) 1 1)) (cwV 2 F.hts gX2_obey_X1_trimPlace rfl rfl rfl hdX1_trimPlace ⟨Nat.le_of_ble_eq_true rfl, Nat.le_of_ble_eq_true rfl⟩) 0 1 rfl rfl rfl rfl (Nat.le_of_ble_eq_true rfl) dX2_obey_92 ⟨Nat.zero_le _, Nat.zero_le _⟩ (pc' := 95) rfl (fun r15 u14 h16 => ?_)
    refine wk_perm (w' := (wText cI (hq 7) (Z 7)) ++ ((wPool cI (hq 6) u14) ++ ((wReh ha hq (Z 9)) ++ []))) ((List.Perm.append_left _ (List.Perm.refl _)).trans (List.perm_append_comm_assoc _ _ _)) ?_
    refine wk_perm (w' := (wPool cI (hq 6) u14) ++ ((wText cI (hq 7) (Z 7)) ++ ((wReh ha hq (Z 9)) ++ []))) ((List.Perm.append_left _ (List.Perm.refl _)).trans (List.perm_append_comm_assoc _ _ _)) ?_
    refine wk_perm (w' := (wReh ha hq (Z 9)) ++ ((wPool cI (hq 6) u14) ++ ((wText cI (hq 7) (Z 7)) ++ []))) ((List.Perm.append_left _ ((List.Perm.append_left _ (List.Perm.refl _)).trans (List.perm_append_comm_assoc _ _ _))).trans (List.perm_append_comm_assoc _ _ _)) ?_
    refine wk_w (w' := wRT cI cP ha hq (mkZ (Z 0) (Z 1) (Z 2) (Z 3) (Z 4) (Z 5) u14 (Z 7) (Z 8) (Z 9))) rfl ?_
    exact hret _ _ _ _ dX2_obey_95 rfl (by rw [f2_obey] <;> exact (st_neg c1 (st_neg c5 (st_neg c9 (st_pos c13 (st_match h16 rfl))))))
  by_cases c17 : ((Z 7) 2 1) = (119 : Int32)
  · refine wk_top c17 ?_
    refine wk_lookup (off := 49) (tgt := 60) F dX2_obey_11 (by decide) (by decide) (by decide) ?_
    refine wk_aload_n F dX2_obey_60 rfl 1 rfl (pc' := 61) rfl ?_
    refine wk_perm (w' := (wReh ha hq (Z 9)) ++ ((wText cI (hq 7) (Z 7)) ++ ((wPool cI (hq 6) (Z 6)) ++ []))) ((List.Perm.append_left _ (List.Perm.refl _)).trans (List.perm_append_comm_assoc _ _ _)) ?_
    refine wk_get (C := RX2) (T := TX2) (N := 3) F 0 rfl rfl k_2 0 (Nat.le_of_ble_eq_true rfl) w_3 rfl dX2_obey_61 (pc' := 64) rfl ?_
    refine wk_iload_n F dX2_obey_64 rfl 0 rfl (pc' := 65) rfl ?_
    refine wk_aload_n F dX2_obey_65 rfl 2 rfl (pc' := 66) rfl ?_
    refine wk_perm (w' := (wText cI (hq 7) (Z 7)) ++ ((wReh ha hq (Z 9)) ++ ((wPool cI (hq 6) (Z 6)) ++ []))) ((List.Perm.append_left _ (List.Perm.refl _)).trans (List.perm_append_comm_assoc _ _ _)) ?_
    refine wk_get (C := RX3) (T := TX3) (N := 5) F 0 rfl rfl k_3 3 (Nat.le_of_ble_eq_true rfl) w_1 rfl dX2_obey_66 (pc' := 69) rfl ?_
    refine wk_iconst F dX2_obey_69 ic_1 (pc' := 70) rfl ?_
    refine wk_iald_n (i := 1) F 2 0 rfl rfl (by omega) (Nat.le_of_ble_eq_true rfl) dX2_obey_70 (pc' := 71) rfl ?_
    refine wk_aload_n F dX2_obey_71 rfl 2 rfl (pc' := 72) rfl ?_
    refine wk_get (C := RX3) (T := TX3) (N := 5) F 0 rfl rfl k_3 3 (Nat.le_of_ble_eq_true rfl) w_1 rfl dX2_obey_72 (pc' := 75) rfl ?_
    refine wk_iconst F dX2_obey_75 ic_2 (pc' := 76) rfl ?_
    refine wk_iald_n (i := 2) F 2 0 rfl rfl (by omega) (Nat.le_of_ble_eq_true rfl) dX2_obey_76 (pc' := 77) rfl ?_
    refine wk_perm (w' := (wPool cI (hq 6) (Z 6)) ++ ((wText cI (hq 7) (Z 7)) ++ ((wReh ha hq (Z 9)) ++ []))) ((List.Perm.append_left _ ((List.Perm.append_left _ (List.Perm.refl _)).trans (List.perm_append_comm_assoc _ _ _))).trans (List.perm_append_comm_assoc _ _ _)) ?_
    refine wk_fr_i F (c1_writePlace l D cI cP (hq 6) (Z 6) ((Z 7) 1 0) ((Z 7) 1 1) ((Z 7) 1 2)) (cwV 3 F.hts gX2_obey_X1_writePlace rfl rfl rfl hdX1_writePlace ⟨Nat.le_of_ble_eq_true rfl, Nat.le_of_ble_eq_true rfl⟩) 0 1 rfl rfl rfl rfl (Nat.le_of_ble_eq_true rfl) dX2_obey_77 ⟨Nat.zero_le _, Nat.zero_le _⟩ (pc' := 80) rfl (fun r19 u18 h20 => ?_)
    refine wk_perm (w' := (wText cI (hq 7) (Z 7)) ++ ((wPool cI (hq 6) u18) ++ ((wReh ha hq (Z 9)) ++ []))) ((List.Perm.append_left _ (List.Perm.refl _)).trans (List.perm_append_comm_assoc _ _ _)) ?_
    refine wk_perm (w' := (wPool cI (hq 6) u18) ++ ((wText cI (hq 7) (Z 7)) ++ ((wReh ha hq (Z 9)) ++ []))) ((List.Perm.append_left _ (List.Perm.refl _)).trans (List.perm_append_comm_assoc _ _ _)) ?_
    refine wk_perm (w' := (wReh ha hq (Z 9)) ++ ((wPool cI (hq 6) u18) ++ ((wText cI (hq 7) (Z 7)) ++ []))) ((List.Perm.append_left _ ((List.Perm.append_left _ (List.Perm.refl _)).trans (List.perm_append_comm_assoc _ _ _))).trans (List.perm_append_comm_assoc _ _ _)) ?_
    refine wk_w (w' := wRT cI cP ha hq (mkZ (Z 0) (Z 1) (Z 2) (Z 3) (Z 4) (Z 5) u18 (Z 7) (Z 8) (Z 9))) rfl ?_
    exact hret _ _ _ _ dX2_obey_80 rfl (by rw [f2_obey] <;> exact (st_neg c1 (st_neg c5 (st_neg c9 (st_neg c13 (st_pos c17 (st_match h20 rfl)))))))
  refine wk_lookup (off := 112) (tgt := 123) F dX2_obey_11 (by decide) (by have ec1 := ti_ne (k := 99) c1 (by decide); have ec5 := ti_ne (k := 100) c5 (by decide); have ec9 := ti_ne (k := 115) c9 (by decide); have ec13 := ti_ne (k := 116) c13 (by decide); have ec17 := ti_ne (k := 119) c17 (by decide); simp [Op.lookupswitch.offset, Ne.symm ec1, Ne.symm ec5, Ne.symm ec9, Ne.symm ec13, Ne.symm ec17]) (by decide) ?_
  refine wk_aload_n F dX2_obey_123 rfl 1 rfl (pc' := 124) rfl ?_
  refine wk_perm (w' := (wReh ha hq (Z 9)) ++ ((wText cI (hq 7) (Z 7)) ++ ((wPool cI (hq 6) (Z 6)) ++ []))) ((List.Perm.append_left _ (List.Perm.refl _)).trans (List.perm_append_comm_assoc _ _ _)) ?_
  refine wk_get (C := RX2) (T := TX2) (N := 3) F 0 rfl rfl k_2 0 (Nat.le_of_ble_eq_true rfl) w_3 rfl dX2_obey_124 (pc' := 127) rfl ?_
  refine wk_perm (w' := (wPool cI (hq 6) (Z 6)) ++ ((wReh ha hq (Z 9)) ++ ((wText cI (hq 7) (Z 7)) ++ []))) ((List.Perm.append_left _ ((List.Perm.append_left _ (List.Perm.refl _)).trans (List.perm_append_comm_assoc _ _ _))).trans (List.perm_append_comm_assoc _ _ _)) ?_
  refine wk_fr_i F (c1_mergePieces l D cI cP (hq 6) (Z 6)) (cwV 0 F.hts gX2_obey_X1_mergePieces rfl rfl rfl hdX1_mergePieces ⟨Nat.le_of_ble_eq_true rfl, Nat.le_of_ble_eq_true rfl⟩) 0 1 rfl rfl rfl rfl (Nat.le_of_ble_eq_true rfl) dX2_obey_127 ⟨Nat.zero_le _, Nat.zero_le _⟩ (pc' := 130) rfl (fun r22 u21 h23 => ?_)
  refine wk_perm (w' := (wReh ha hq (Z 9)) ++ ((wPool cI (hq 6) u21) ++ ((wText cI (hq 7) (Z 7)) ++ []))) ((List.Perm.append_left _ (List.Perm.refl _)).trans (List.perm_append_comm_assoc _ _ _)) ?_
  refine wk_w (w' := wRT cI cP ha hq (mkZ (Z 0) (Z 1) (Z 2) (Z 3) (Z 4) (Z 5) u21 (Z 7) (Z 8) (Z 9))) rfl ?_
  exact hret _ _ _ _ dX2_obey_130 rfl (by rw [f2_obey] <;> exact (st_neg c1 (st_neg c5 (st_neg c9 (st_neg c13 (st_neg c17 (st_match h23 rfl)))))))
def f2_perform_L20 : Nat → Nat → ST → ST
  | 0, i, u => u
  | n + 1, i, u => (if ((u 7) 2 0) ≤ ((u 9) 0 0) then u else (sq2 (f3_readOrder (u 7) ((u 9) 0 0)) (fun (r3 : Int32) (u2 : PS) => (if r3 = 0 then (sq (wr (u 9) 0 1 (1 : Int32)) (fun (u6 : PS) => (if (u6 0 1) = 0 then (sq (wr u6 0 0 (u2 2 2)) (fun (u9 : PS) => f2_perform_L20 n (i + 1) (mkZ (u 0) (u 1) (u 2) (u 3) (u 4) (u 5) (u 6) u2 (u 8) u9))) else mkZ (u 0) (u 1) (u 2) (u 3) (u 4) (u 5) (u 6) u2 (u 8) u6))) else (sq2 (f2_obey (mkZ (u 0) (u 1) (u 2) (u 3) (u 4) (u 5) (u 6) u2 (u 8) (u 9))) (fun (r12 : Int32) (u11 : ST) => (sq (wr (u11 9) 0 1 (f2_reasonOf (mkZ (u 0) (u 1) (u 2) (u 3) (u 4) (u 5) (u11 6) (u11 7) (u 8) (u11 9)) r12)) (fun (u14 : PS) => (if (u14 0 1) = 0 then (sq (wr u14 0 0 ((u11 7) 2 2)) (fun (u17 : PS) => f2_perform_L20 n (i + 1) (mkZ (u 0) (u 1) (u 2) (u 3) (u 4) (u 5) (u11 6) (u11 7) (u 8) u17))) else mkZ (u 0) (u 1) (u 2) (u 3) (u 4) (u 5) (u11 6) (u11 7) (u 8) u14)))))))))
def f2_perform (Z : ST) : ST := (sq (f1_copyFrom (Z 6) (Z 0)) (fun (u19 : PS) => (sq (wr (Z 9) 0 0 (0 : Int32)) (fun (u21 : PS) => (sq (wr u21 0 1 (0 : Int32)) (fun (u23 : PS) => f2_perform_L20 60 0 (mkZ (Z 0) (Z 1) (Z 2) (Z 3) (Z 4) (Z 5) u19 (Z 7) (Z 8) u23)))))))
set_option maxHeartbeats 4000000 in
set_option maxRecDepth 100000 in
theorem c2_perform (l : Launch) (D : va_G) (cI cP : ClassId) (ha : Nat → Nat) (hq : Nat → Nat → Nat) (Z : ST) : CV l yX2_perform wsX2_perform ({ frames := 6, cells := 0, slots := 0, locals := 177 } : Room) D (cty cI cP) (wRP cI cP ha hq Z) (wRP cI cP ha hq) [.ref (ha 3), .ref (hq 7 0), .ref (hq 0 0)] 0 0 (fun u => f2_perform Z = u) := by
  refine CV.of (cc := cX2_perform) (maxL := 4) (own := RX2) (lv0 := [(0, .ref (ha 3)), (1, .ref (hq 7 0)), (2, .ref (hq 0 0))]) pnX2 rfl rfl (Nat.le_of_ble_eq_true rfl) rfl (fun p e s m args below meth c A Q F hmn hret => ?_)
  have w_2 := F.at (x := Cond.fieldLink RX2 22 "ThinVolumes$Rehearsal" "position" "I") 2 rfl
  have w_4 := F.at (x := Cond.fieldLink RX2 29 "ThinVolumes$Text" "length" "I") 4 rfl
  have w_3 := F.at (x := Cond.fieldLink RX2 26 "ThinVolumes$Rehearsal" "reason" "I") 3 rfl
  have w_5 := F.at (x := Cond.fieldLink RX2 46 "ThinVolumes$Text" "next" "I") 5 rfl
  have w_1 := F.at (x := Cond.fieldLink RX2 12 "ThinVolumes$Rehearsal" "trial" "LThinVolumes$Pool;") 1 rfl
  refine wk_w (w' := (wReh ha hq (Z 9)) ++ ((wPool cI (hq 6) (Z 6)) ++ ((wText cI (hq 7) (Z 7)) ++ ((wPool cI (hq 0) (Z 0)) ++ [])))) rfl ?_
  have k_2 : ∀ w ∈ wsX20, w ∈ wsX2_perform := fun _ h => List.mem_cons_of_mem _ (List.mem_append_left _ (List.mem_append_left _ (List.mem_append_left _ (List.mem_append_right _ (h)))))
  have k_3 : ∀ w ∈ wsX30, w ∈ wsX2_perform := fun _ h => List.mem_cons_of_mem _ (List.mem_append_left _ (List.mem_append_left _ (List.mem_append_right _ (h))))
  have L20 : ∀ (n : Nat) (i : Nat) (u : ST), i + n = 60 → f2_perform_L20 n i u = f2_perform Z → Wk p l e ({ frames := 6, cells := 0, slots := 0, locals := 177 } : Room) s m args below meth c 4 D A 0 0 Q ((wReh ha hq (u 9)) ++ ((wPool cI (hq 6) (u 6)) ++ ((wText cI (hq 7) (u 7)) ++ ((wPool cI (hq 0) (u 0)) ++ [])))) [(0, .ref (ha 3)), (1, .ref (hq 7 0)), (3, .int (nI i))] 20 [] := by
    intro n
    induction n with
    | zero =>
      intro i u hi hp
      refine wk_iload_n F dX2_perform_20 rfl 2 rfl (pc' := 21) rfl ?_
      refine wk_bipush F dX2_perform_21 bp_60 (pc' := 23) rfl ?_
      refine wk_icmp_ge (tgt := 87) F dX2_perform_23 (by decide) (pc' := 26) rfl (fun _ => ?_) (fun c => absurd ((nI_leI (a := 60) (b := i) (by omega) (by omega)).mpr (by omega)) c)
      refine wk_w (w' := wRP cI cP ha hq u) rfl ?_
      exact hret _ _ _ dX2_perform_87 (Eq.trans hp.symm (by rw [f2_perform_L20] <;> exact rfl))
    | succ n ih =>
      intro i u hi hp
      refine wk_iload_n F dX2_perform_20 rfl 2 rfl (pc' := 21) rfl ?_
      refine wk_bipush F dX2_perform_21 bp_60 (pc' := 23) rfl ?_
      refine wk_icmp_ge (tgt := 87) F dX2_perform_23 (by decide) (pc' := 26) rfl (fun c => absurd ((nI_leI (a := 60) (b := i) (by omega) (by omega)).mp c) (by omega)) (fun _ => ?_)
      refine wk_aload_n F dX2_perform_26 rfl 0 rfl (pc' := 27) rfl ?_
      refine wk_get (C := RX2) (T := TX2) (N := 3) F 0 rfl rfl k_2 1 (Nat.le_of_ble_eq_true rfl) w_2 rfl dX2_perform_27 (pc' := 30) rfl ?_
      refine wk_aload_n F dX2_perform_30 rfl 1 rfl (pc' := 31) rfl ?_
      refine wk_perm (w' := (wText cI (hq 7) (u 7)) ++ ((wReh ha hq (u 9)) ++ ((wPool cI (hq 6) (u 6)) ++ ((wPool cI (hq 0) (u 0)) ++ [])))) ((List.Perm.append_left _ ((List.Perm.append_left _ (List.Perm.refl _)).trans (List.perm_append_comm_assoc _ _ _))).trans (List.perm_append_comm_assoc _ _ _)) ?_
      refine wk_get (C := RX3) (T := TX3) (N := 5) F 0 rfl rfl k_3 1 (Nat.le_of_ble_eq_true rfl) w_4 rfl dX2_perform_31 (pc' := 34) rfl ?_
      refine wk_icmp_ge (tgt := 87) F dX2_perform_34 (by decide) (pc' := 37) rfl (fun c1 => ?_) (fun c1 => ?_)
      · refine wk_perm (w' := (wPool cI (hq 6) (u 6)) ++ ((wText cI (hq 7) (u 7)) ++ ((wReh ha hq (u 9)) ++ ((wPool cI (hq 0) (u 0)) ++ [])))) ((List.Perm.append_left _ ((List.Perm.append_left _ (List.Perm.refl _)).trans (List.perm_append_comm_assoc _ _ _))).trans (List.perm_append_comm_assoc _ _ _)) ?_
        refine wk_perm (w' := (wReh ha hq (u 9)) ++ ((wPool cI (hq 6) (u 6)) ++ ((wText cI (hq 7) (u 7)) ++ ((wPool cI (hq 0) (u 0)) ++ [])))) ((List.Perm.append_left _ ((List.Perm.append_left _ (List.Perm.refl _)).trans (List.perm_append_comm_assoc _ _ _))).trans (List.perm_append_comm_assoc _ _ _)) ?_
        refine wk_w (w' := wRP cI cP ha hq u) rfl ?_
        exact hret _ _ _ dX2_perform_87 (Eq.trans hp.symm (by rw [f2_perform_L20] <;> exact (st_pos c1 rfl)))
      · refine wk_aload_n F dX2_perform_37 rfl 0 rfl (pc' := 38) rfl ?_
        refine wk_aload_n F dX2_perform_38 rfl 1 rfl (pc' := 39) rfl ?_
        refine wk_aload_n F dX2_perform_39 rfl 0 rfl (pc' := 40) rfl ?_
        refine wk_perm (w' := (wReh ha hq (u 9)) ++ ((wText cI (hq 7) (u 7)) ++ ((wPool cI (hq 6) (u 6)) ++ ((wPool cI (hq 0) (u 0)) ++ [])))) ((List.Perm.append_left _ (List.Perm.refl _)).trans (List.perm_append_comm_assoc _ _ _)) ?_
        refine wk_get (C := RX2) (T := TX2) (N := 3) F 0 rfl rfl k_2 1 (Nat.le_of_ble_eq_true rfl) w_2 rfl dX2_perform_40 (pc' := 43) rfl ?_
        refine wk_perm (w' := (wText cI (hq 7) (u 7)) ++ ((wReh ha hq (u 9)) ++ ((wPool cI (hq 6) (u 6)) ++ ((wPool cI (hq 0) (u 0)) ++ [])))) ((List.Perm.append_left _ (List.Perm.refl _)).trans (List.perm_append_comm_assoc _ _ _)) ?_
        refine wk_fr_i F (c3_readOrder l D cI cP (hq 7) (u 7) ((u 9) 0 0)) (cwV 1 F.hts gX2_perform_X3_readOrder rfl rfl rfl hdX3_readOrder ⟨Nat.le_of_ble_eq_true rfl, Nat.le_of_ble_eq_true rfl⟩) 0 3 rfl rfl rfl rfl (Nat.le_of_ble_eq_true rfl) dX2_perform_43 ⟨Nat.zero_le _, Nat.zero_le _⟩ (pc' := 46) rfl (fun r3 u2 h4 => ?_)
        refine wk_if_eq (tgt := 61) F dX2_perform_46 (by decide) (pc' := 49) rfl (fun c5 => ?_) (fun c5 => ?_)
        · refine wk_iconst F dX2_perform_61 ic_1 (pc' := 62) rfl ?_
          refine wk_perm (w' := (wReh ha hq (u 9)) ++ ((wText cI (hq 7) u2) ++ ((wPool cI (hq 6) (u 6)) ++ ((wPool cI (hq 0) (u 0)) ++ [])))) ((List.Perm.append_left _ (List.Perm.refl _)).trans (List.perm_append_comm_assoc _ _ _)) ?_
          refine wk_putu (wg := fun z => (wReh ha hq z) ++ ((wText cI (hq 7) u2) ++ ((wPool cI (hq 6) (u 6)) ++ ((wPool cI (hq 0) (u 0)) ++ [])))) (f0 := wr (u 9) 0 1 (1 : Int32)) (C := RX2) (T := TX2) (N := 3) (ty0 := tyX2) F 0 rfl rfl k_2 tyX2_ok nmX2 2 (Nat.le_of_ble_eq_true rfl) w_3 rfl rfl rfl (Nat.le_of_ble_eq_true rfl) (set_fr (Nat.le_of_ble_eq_true rfl) sR_1) dX2_perform_62 (pc' := 65) rfl (fun u6 h7 => ?_)
          refine wk_aload_n F dX2_perform_65 rfl 0 rfl (pc' := 66) rfl ?_
          refine wk_get (C := RX2) (T := TX2) (N := 3) F 0 rfl rfl k_2 2 (Nat.le_of_ble_eq_true rfl) w_3 rfl dX2_perform_66 (pc' := 69) rfl ?_
          refine wk_if_eq (tgt := 73) F dX2_perform_69 (by decide) (pc' := 72) rfl (fun c8 => ?_) (fun c8 => ?_)
          · refine wk_aload_n F dX2_perform_73 rfl 0 rfl (pc' := 74) rfl ?_
            refine wk_aload_n F dX2_perform_74 rfl 1 rfl (pc' := 75) rfl ?_
            refine wk_perm (w' := (wText cI (hq 7) u2) ++ ((wReh ha hq u6) ++ ((wPool cI (hq 6) (u 6)) ++ ((wPool cI (hq 0) (u 0)) ++ [])))) ((List.Perm.append_left _ (List.Perm.refl _)).trans (List.perm_append_comm_assoc _ _ _)) ?_
            refine wk_get (C := RX3) (T := TX3) (N := 5) F 0 rfl rfl k_3 4 (Nat.le_of_ble_eq_true rfl) w_5 rfl dX2_perform_75 (pc' := 78) rfl ?_
            refine wk_perm (w' := (wReh ha hq u6) ++ ((wText cI (hq 7) u2) ++ ((wPool cI (hq 6) (u 6)) ++ ((wPool cI (hq 0) (u 0)) ++ [])))) ((List.Perm.append_left _ (List.Perm.refl _)).trans (List.perm_append_comm_assoc _ _ _)) ?_
            refine wk_putu (wg := fun z => (wReh ha hq z) ++ ((wText cI (hq 7) u2) ++ ((wPool cI (hq 6) (u 6)) ++ ((wPool cI (hq 0) (u 0)) ++ [])))) (f0 := wr u6 0 0 (u2 2 2)) (C := RX2) (T := TX2) (N := 3) (ty0 := tyX2) F 0 rfl rfl k_2 tyX2_ok nmX2 1 (Nat.le_of_ble_eq_true rfl) w_2 rfl rfl rfl (Nat.le_of_ble_eq_true rfl) (set_fr (Nat.le_of_ble_eq_true rfl) sR_0) dX2_perform_78 (pc' := 81) rfl (fun u9 h10 => ?_)
            refine wk_iinc (k := 2) (v := nI (i + 1)) (lv' := [(3, .int (nI (i + 1))), (0, .ref (ha 3)), (1, .ref (hq 7 0))]) F dX2_perform_81 rfl (nI_inc i) (Nat.le_of_ble_eq_true rfl) rfl (pc' := 84) rfl ?_
            refine wk_goto (tgt := 20) F dX2_perform_84 (by decide) ?_
            refine wk_perm (w' := (wText cI (hq 7) u2) ++ ((wReh ha hq u9) ++ ((wPool cI (hq 6) (u 6)) ++ ((wPool cI (hq 0) (u 0)) ++ [])))) ((List.Perm.append_left _ (List.Perm.refl _)).trans (List.perm_append_comm_assoc _ _ _)) ?_
            refine wk_perm (w' := (wPool cI (hq 6) (u 6)) ++ ((wText cI (hq 7) u2) ++ ((wReh ha hq u9) ++ ((wPool cI (hq 0) (u 0)) ++ [])))) ((List.Perm.append_left _ ((List.Perm.append_left _ (List.Perm.refl _)).trans (List.perm_append_comm_assoc _ _ _))).trans (List.perm_append_comm_assoc _ _ _)) ?_
            refine wk_perm (w' := (wReh ha hq u9) ++ ((wPool cI (hq 6) (u 6)) ++ ((wText cI (hq 7) u2) ++ ((wPool cI (hq 0) (u 0)) ++ [])))) ((List.Perm.append_left _ ((List.Perm.append_left _ (List.Perm.refl _)).trans (List.perm_append_comm_assoc _ _ _))).trans (List.perm_append_comm_assoc _ _ _)) ?_
            refine wk_lv [1, 2, 0] rfl ?_
            exact ih (i + 1) (mkZ (u 0) (u 1) (u 2) (u 3) (u 4) (u 5) (u 6) u2 (u 8) u9) (by omega) (Eq.trans (Eq.symm (by rw [f2_perform_L20] <;> exact (st_neg c1 (st_match h4 (st_pos c5 (st_let h7 (st_pos c8 (st_let h10 rfl)))))))) hp)
          · refine wk_perm (w' := (wText cI (hq 7) u2) ++ ((wReh ha hq u6) ++ ((wPool cI (hq 6) (u 6)) ++ ((wPool cI (hq 0) (u 0)) ++ [])))) ((List.Perm.append_left _ (List.Perm.refl _)).trans (List.perm_append_comm_assoc _ _ _)) ?_
            refine wk_perm (w' := (wPool cI (hq 6) (u 6)) ++ ((wText cI (hq 7) u2) ++ ((wReh ha hq u6) ++ ((wPool cI (hq 0) (u 0)) ++ [])))) ((List.Perm.append_left _ ((List.Perm.append_left _ (List.Perm.refl _)).trans (List.perm_append_comm_assoc _ _ _))).trans (List.perm_append_comm_assoc _ _ _)) ?_
            refine wk_perm (w' := (wReh ha hq u6) ++ ((wPool cI (hq 6) (u 6)) ++ ((wText cI (hq 7) u2) ++ ((wPool cI (hq 0) (u 0)) ++ [])))) ((List.Perm.append_left _ ((List.Perm.append_left _ (List.Perm.refl _)).trans (List.perm_append_comm_assoc _ _ _))).trans (List.perm_append_comm_assoc _ _ _)) ?_
            refine wk_w (w' := wRP cI cP ha hq (mkZ (u 0) (u 1) (u 2) (u 3) (u 4) (u 5) (u 6) u2 (u 8) u6)) rfl ?_
            exact hret _ _ _ dX2_perform_72 (Eq.trans hp.symm (by rw [f2_perform_L20] <;> exact (st_neg c1 (st_match h4 (st_pos c5 (st_let h7 (st_neg c8 rfl)))))))
        · refine wk_aload_n F dX2_perform_49 rfl 0 rfl (pc' := 50) rfl ?_
          refine wk_aload_n F dX2_perform_50 rfl 0 rfl (pc' := 51) rfl ?_
          refine wk_aload_n F dX2_perform_51 rfl 1 rfl (pc' := 52) rfl ?_
          refine wk_perm (w' := (wPool cI (hq 6) (u 6)) ++ ((wText cI (hq 7) u2) ++ ((wReh ha hq (u 9)) ++ ((wPool cI (hq 0) (u 0)) ++ [])))) ((List.Perm.append_left _ ((List.Perm.append_left _ (List.Perm.refl _)).trans (List.perm_append_comm_assoc _ _ _))).trans (List.perm_append_comm_assoc _ _ _)) ?_
          refine wk_perm (w' := (wReh ha hq (u 9)) ++ ((wPool cI (hq 6) (u 6)) ++ ((wText cI (hq 7) u2) ++ ((wPool cI (hq 0) (u 0)) ++ [])))) ((List.Perm.append_left _ ((List.Perm.append_left _ (List.Perm.refl _)).trans (List.perm_append_comm_assoc _ _ _))).trans (List.perm_append_comm_assoc _ _ _)) ?_
          refine wk_w (w' := wRT cI cP ha hq (mkZ (u 0) (u 1) (u 2) (u 3) (u 4) (u 5) (u 6) u2 (u 8) (u 9)) ++ ((wPool cI (hq 0) (u 0)) ++ [])) (by simp only [wRT, List.append_assoc, List.nil_append] <;> rfl) ?_
          refine wk_fr_i F (c2_obey l D cI cP ha hq (mkZ (u 0) (u 1) (u 2) (u 3) (u 4) (u 5) (u 6) u2 (u 8) (u 9))) (cwV 1 F.hts gX2_perform_X2_obey rfl rfl rfl hdX2_obey ⟨Nat.le_of_ble_eq_true rfl, Nat.le_of_ble_eq_true rfl⟩) 0 2 rfl rfl rfl rfl (Nat.le_of_ble_eq_true rfl) dX2_perform_52 ⟨Nat.zero_le _, Nat.zero_le _⟩ (pc' := 55) rfl (fun r12 u11 h13 => ?_)
          refine wk_w (w' := (wReh ha hq (u11 9)) ++ ((wPool cI (hq 6) (u11 6)) ++ ((wText cI (hq 7) (u11 7)) ++ ((wPool cI (hq 0) (u 0)) ++ [])))) (by simp only [wRT, List.append_assoc, List.nil_append] <;> rfl) ?_
          refine wk_w (w' := wR cI cP ha hq (mkZ (u 0) (u 1) (u 2) (u 3) (u 4) (u 5) (u11 6) (u11 7) (u 8) (u11 9)) ++ ((wPool cI (hq 6) (u11 6)) ++ ((wText cI (hq 7) (u11 7)) ++ ((wPool cI (hq 0) (u 0)) ++ [])))) (by simp only [wR, List.append_assoc, List.nil_append] <;> rfl) ?_
          refine wk_fr_p F (c2_reasonOf l D cI cP ha hq (mkZ (u 0) (u 1) (u 2) (u 3) (u 4) (u 5) (u11 6) (u11 7) (u 8) (u11 9)) r12) (cwV 1 F.hts gX2_perform_X2_reasonOf rfl rfl rfl hdX2_reasonOf ⟨Nat.le_of_ble_eq_true rfl, Nat.le_of_ble_eq_true rfl⟩) 0 2 rfl rfl rfl rfl (Nat.le_of_ble_eq_true rfl) dX2_perform_55 ⟨Nat.zero_le _, Nat.zero_le _⟩ (pc' := 58) rfl ?_
          refine wk_w (w' := (wReh ha hq (u11 9)) ++ ((wPool cI (hq 6) (u11 6)) ++ ((wText cI (hq 7) (u11 7)) ++ ((wPool cI (hq 0) (u 0)) ++ [])))) (by simp only [wR, List.append_assoc, List.nil_append] <;> rfl) ?_
          refine wk_goto (tgt := 62) F dX2_perform_58 (by decide) ?_
          refine wk_putu (wg := fun z => (wReh ha hq z) ++ ((wPool cI (hq 6) (u11 6)) ++ ((wText cI (hq 7) (u11 7)) ++ ((wPool cI (hq 0) (u 0)) ++ [])))) (f0 := wr (u11 9) 0 1 (f2_reasonOf (mkZ (u 0) (u 1) (u 2) (u 3) (u 4) (u 5) (u11 6) (u11 7) (u 8) (u11 9)) r12)) (C := RX2) (T := TX2) (N := 3) (ty0 := tyX2) F 0 rfl rfl k_2 tyX2_ok nmX2 2 (Nat.le_of_ble_eq_true rfl) w_3 rfl rfl rfl (Nat.le_of_ble_eq_true rfl) (set_fr (Nat.le_of_ble_eq_true rfl) sR_1) dX2_perform_62 (pc' := 65) rfl (fun u14 h15 => ?_)
          refine wk_aload_n F dX2_perform_65 rfl 0 rfl (pc' := 66) rfl ?_
          refine wk_get (C := RX2) (T := TX2) (N := 3) F 0 rfl rfl k_2 2 (Nat.le_of_ble_eq_true rfl) w_3 rfl dX2_perform_66 (pc' := 69) rfl ?_
          refine wk_if_eq (tgt := 73) F dX2_perform_69 (by decide) (pc' := 72) rfl (fun c16 => ?_) (fun c16 => ?_)
          · refine wk_aload_n F dX2_perform_73 rfl 0 rfl (pc' := 74) rfl ?_
            refine wk_aload_n F dX2_perform_74 rfl 1 rfl (pc' := 75) rfl ?_
            refine wk_perm (w' := (wText cI (hq 7) (u11 7)) ++ ((wReh ha hq u14) ++ ((wPool cI (hq 6) (u11 6)) ++ ((wPool cI (hq 0) (u 0)) ++ [])))) ((List.Perm.append_left _ ((List.Perm.append_left _ (List.Perm.refl _)).trans (List.perm_append_comm_assoc _ _ _))).trans (List.perm_append_comm_assoc _ _ _)) ?_
            refine wk_get (C := RX3) (T := TX3) (N := 5) F 0 rfl rfl k_3 4 (Nat.le_of_ble_eq_true rfl) w_5 rfl dX2_perform_75 (pc' := 78) rfl ?_
            refine wk_perm (w' := (wReh ha hq u14) ++ ((wText cI (hq 7) (u11 7)) ++ ((wPool cI (hq 6) (u11 6)) ++ ((wPool cI (hq 0) (u 0)) ++ [])))) ((List.Perm.append_left _ (List.Perm.refl _)).trans (List.perm_append_comm_assoc _ _ _)) ?_
            refine wk_putu (wg := fun z => (wReh ha hq z) ++ ((wText cI (hq 7) (u11 7)) ++ ((wPool cI (hq 6) (u11 6)) ++ ((wPool cI (hq 0) (u 0)) ++ [])))) (f0 := wr u14 0 0 ((u11 7) 2 2)) (C := RX2) (T := TX2) (N := 3) (ty0 := tyX2) F 0 rfl rfl k_2 tyX2_ok nmX2 1 (Nat.le_of_ble_eq_true rfl) w_2 rfl rfl rfl (Nat.le_of_ble_eq_true rfl) (set_fr (Nat.le_of_ble_eq_true rfl) sR_0) dX2_perform_78 (pc' := 81) rfl (fun u17 h18 => ?_)
            refine wk_iinc (k := 2) (v := nI (i + 1)) (lv' := [(3, .int (nI (i + 1))), (0, .ref (ha 3)), (1, .ref (hq 7 0))]) F dX2_perform_81 rfl (nI_inc i) (Nat.le_of_ble_eq_true rfl) rfl (pc' := 84) rfl ?_
            refine wk_goto (tgt := 20) F dX2_perform_84 (by decide) ?_
            refine wk_perm (w' := (wText cI (hq 7) (u11 7)) ++ ((wReh ha hq u17) ++ ((wPool cI (hq 6) (u11 6)) ++ ((wPool cI (hq 0) (u 0)) ++ [])))) ((List.Perm.append_left _ (List.Perm.refl _)).trans (List.perm_append_comm_assoc _ _ _)) ?_
            refine wk_perm (w' := (wPool cI (hq 6) (u11 6)) ++ ((wText cI (hq 7) (u11 7)) ++ ((wReh ha hq u17) ++ ((wPool cI (hq 0) (u 0)) ++ [])))) ((List.Perm.append_left _ ((List.Perm.append_left _ (List.Perm.refl _)).trans (List.perm_append_comm_assoc _ _ _))).trans (List.perm_append_comm_assoc _ _ _)) ?_
            refine wk_perm (w' := (wReh ha hq u17) ++ ((wPool cI (hq 6) (u11 6)) ++ ((wText cI (hq 7) (u11 7)) ++ ((wPool cI (hq 0) (u 0)) ++ [])))) ((List.Perm.append_left _ ((List.Perm.append_left _ (List.Perm.refl _)).trans (List.perm_append_comm_assoc _ _ _))).trans (List.perm_append_comm_assoc _ _ _)) ?_
            refine wk_lv [1, 2, 0] rfl ?_
            exact ih (i + 1) (mkZ (u 0) (u 1) (u 2) (u 3) (u 4) (u 5) (u11 6) (u11 7) (u 8) u17) (by omega) (Eq.trans (Eq.symm (by rw [f2_perform_L20] <;> exact (st_neg c1 (st_match h4 (st_neg c5 (st_match h13 (st_let h15 (st_pos c16 (st_let h18 rfl))))))))) hp)
          · refine wk_w (w' := wRP cI cP ha hq (mkZ (u 0) (u 1) (u 2) (u 3) (u 4) (u 5) (u11 6) (u11 7) (u 8) u14)) rfl ?_
            exact hret _ _ _ dX2_perform_72 (Eq.trans hp.symm (by rw [f2_perform_L20] <;> exact (st_neg c1 (st_match h4 (st_neg c5 (st_match h13 (st_let h15 (st_neg c16 rfl))))))))
  refine wk_aload_n F dX2_perform_0 rfl 0 rfl (pc' := 1) rfl ?_
  refine wk_get (C := RX2) (T := TX2) (N := 3) F 0 rfl rfl k_2 0 (Nat.le_of_ble_eq_true rfl) w_1 rfl dX2_perform_1 (pc' := 4) rfl ?_
  refine wk_aload_n F dX2_perform_4 rfl 2 rfl (pc' := 5) rfl ?_
  refine wk_perm (w' := (wPool cI (hq 0) (Z 0)) ++ ((wReh ha hq (Z 9)) ++ ((wPool cI (hq 6) (Z 6)) ++ ((wText cI (hq 7) (Z 7)) ++ [])))) ((List.Perm.append_left _ ((List.Perm.append_left _ ((List.Perm.append_left _ (List.Perm.refl _)).trans (List.perm_append_comm_assoc _ _ _))).trans (List.perm_append_comm_assoc _ _ _))).trans (List.perm_append_comm_assoc _ _ _)) ?_
  refine wk_perm (w' := (wPool cI (hq 6) (Z 6)) ++ ((wPool cI (hq 0) (Z 0)) ++ ((wReh ha hq (Z 9)) ++ ((wText cI (hq 7) (Z 7)) ++ [])))) ((List.Perm.append_left _ ((List.Perm.append_left _ (List.Perm.refl _)).trans (List.perm_append_comm_assoc _ _ _))).trans (List.perm_append_comm_assoc _ _ _)) ?_
  refine wk_w (List.append_assoc _ _ _).symm ?_
  refine wk_fr_v F (c1_copyFrom l D cI cP (hq 6) (hq 0) (Z 6) (Z 0)) (cwV 1 F.hts gX2_perform_X1_copyFrom rfl rfl rfl hdX1_copyFrom ⟨Nat.le_of_ble_eq_true rfl, Nat.le_of_ble_eq_true rfl⟩) 0 1 rfl rfl rfl rfl (Nat.le_of_ble_eq_true rfl) dX2_perform_5 ⟨Nat.zero_le _, Nat.zero_le _⟩ (pc' := 8) rfl (fun u19 h20 => ?_)
  refine wk_w (List.append_assoc _ _ _) ?_
  refine wk_aload_n F dX2_perform_8 rfl 0 rfl (pc' := 9) rfl ?_
  refine wk_iconst F dX2_perform_9 ic_0 (pc' := 10) rfl ?_
  refine wk_perm (w' := (wReh ha hq (Z 9)) ++ ((wPool cI (hq 6) u19) ++ ((wPool cI (hq 0) (Z 0)) ++ ((wText cI (hq 7) (Z 7)) ++ [])))) ((List.Perm.append_left _ ((List.Perm.append_left _ (List.Perm.refl _)).trans (List.perm_append_comm_assoc _ _ _))).trans (List.perm_append_comm_assoc _ _ _)) ?_
  refine wk_putu (wg := fun z => (wReh ha hq z) ++ ((wPool cI (hq 6) u19) ++ ((wPool cI (hq 0) (Z 0)) ++ ((wText cI (hq 7) (Z 7)) ++ [])))) (f0 := wr (Z 9) 0 0 (0 : Int32)) (C := RX2) (T := TX2) (N := 3) (ty0 := tyX2) F 0 rfl rfl k_2 tyX2_ok nmX2 1 (Nat.le_of_ble_eq_true rfl) w_2 rfl rfl rfl (Nat.le_of_ble_eq_true rfl) (set_fr (Nat.le_of_ble_eq_true rfl) sR_0) dX2_perform_10 (pc' := 13) rfl (fun u21 h22 => ?_)
  refine wk_aload_n F dX2_perform_13 rfl 0 rfl (pc' := 14) rfl ?_
  refine wk_iconst F dX2_perform_14 ic_0 (pc' := 15) rfl ?_
  refine wk_putu (wg := fun z => (wReh ha hq z) ++ ((wPool cI (hq 6) u19) ++ ((wPool cI (hq 0) (Z 0)) ++ ((wText cI (hq 7) (Z 7)) ++ [])))) (f0 := wr u21 0 1 (0 : Int32)) (C := RX2) (T := TX2) (N := 3) (ty0 := tyX2) F 0 rfl rfl k_2 tyX2_ok nmX2 2 (Nat.le_of_ble_eq_true rfl) w_3 rfl rfl rfl (Nat.le_of_ble_eq_true rfl) (set_fr (Nat.le_of_ble_eq_true rfl) sR_1) dX2_perform_15 (pc' := 18) rfl (fun u23 h24 => ?_)
  refine wk_iconst F dX2_perform_18 ic_0 (pc' := 19) rfl ?_
  refine wk_istore_n (lv' := [(3, .int (0 : Int32)), (0, .ref (ha 3)), (1, .ref (hq 7 0)), (2, .ref (hq 0 0))]) F dX2_perform_19 rfl (Nat.le_of_ble_eq_true rfl) rfl (pc' := 20) rfl ?_
  refine wk_perm (w' := (wPool cI (hq 0) (Z 0)) ++ ((wReh ha hq u23) ++ ((wPool cI (hq 6) u19) ++ ((wText cI (hq 7) (Z 7)) ++ [])))) ((List.Perm.append_left _ ((List.Perm.append_left _ (List.Perm.refl _)).trans (List.perm_append_comm_assoc _ _ _))).trans (List.perm_append_comm_assoc _ _ _)) ?_
  refine wk_perm (w' := (wText cI (hq 7) (Z 7)) ++ ((wPool cI (hq 0) (Z 0)) ++ ((wReh ha hq u23) ++ ((wPool cI (hq 6) u19) ++ [])))) ((List.Perm.append_left _ ((List.Perm.append_left _ ((List.Perm.append_left _ (List.Perm.refl _)).trans (List.perm_append_comm_assoc _ _ _))).trans (List.perm_append_comm_assoc _ _ _))).trans (List.perm_append_comm_assoc _ _ _)) ?_
  refine wk_perm (w' := (wPool cI (hq 6) u19) ++ ((wText cI (hq 7) (Z 7)) ++ ((wPool cI (hq 0) (Z 0)) ++ ((wReh ha hq u23) ++ [])))) ((List.Perm.append_left _ ((List.Perm.append_left _ ((List.Perm.append_left _ (List.Perm.refl _)).trans (List.perm_append_comm_assoc _ _ _))).trans (List.perm_append_comm_assoc _ _ _))).trans (List.perm_append_comm_assoc _ _ _)) ?_
  refine wk_perm (w' := (wReh ha hq u23) ++ ((wPool cI (hq 6) u19) ++ ((wText cI (hq 7) (Z 7)) ++ ((wPool cI (hq 0) (Z 0)) ++ [])))) ((List.Perm.append_left _ ((List.Perm.append_left _ ((List.Perm.append_left _ (List.Perm.refl _)).trans (List.perm_append_comm_assoc _ _ _))).trans (List.perm_append_comm_assoc _ _ _))).trans (List.perm_append_comm_assoc _ _ _)) ?_
  refine wk_lv [1, 2, 0] rfl ?_
  exact L20 60 0 (mkZ (Z 0) (Z 1) (Z 2) (Z 3) (Z 4) (Z 5) u19 (Z 7) (Z 8) u23) (by omega) (Eq.symm (by rw [f2_perform] <;> exact (st_let h20 (st_let h22 (st_let h24 rfl)))))
