theorem set_fr {w w' r : va_W} {k : Nat} {x : Nat × va_E} (hk : k < w.length) (h : w.set k x = w') : (w ++ r).set k x = w' ++ r := by
  rw [List.set_append_left _ _ hk, h]
theorem sH_0 {cP : ClassId} {ha : Nat → Nat} {hq : Nat → Nat → Nat} {u : PS} {x : Int32} : (wHist cP ha hq u).set 0 (ha 1, .inr (0, ([.ref (ha 2), .int (u 0 0)] : List Value).set 1 (.int x))) = wHist cP ha hq (wr u 0 0 x) := rfl
theorem sR_0 {ha : Nat → Nat} {hq : Nat → Nat → Nat} {u : PS} {x : Int32} : (wReh ha hq u).set 0 (ha 3, .inr (2, ([.ref (hq 6 0), .int (u 0 0), .int (u 0 1)] : List Value).set 1 (.int x))) = wReh ha hq (wr u 0 0 x) := rfl
theorem sR_1 {ha : Nat → Nat} {hq : Nat → Nat → Nat} {u : PS} {x : Int32} : (wReh ha hq u).set 0 (ha 3, .inr (2, ([.ref (hq 6 0), .int (u 0 0), .int (u 0 1)] : List Value).set 2 (.int x))) = wReh ha hq (wr u 0 1 x) := rfl
def wTV (cI cP : ClassId) (ha : Nat → Nat) (hq : Nat → Nat → Nat) (Z : ST) : va_W := (wTvo ha hq) ++ ((wPool cI (hq 0) (Z 0)) ++ ((wHist cP ha hq (Z 8)) ++ ((wPool cI (hq 1) (Z 1)) ++ ((wPool cI (hq 2) (Z 2)) ++ ((wPool cI (hq 3) (Z 3)) ++ ((wPool cI (hq 4) (Z 4)) ++ ((wPool cI (hq 5) (Z 5)) ++ ((wText cI (hq 7) (Z 7)) ++ ((wReh ha hq (Z 9)) ++ ((wPool cI (hq 6) (Z 6)) ++ []))))))))))
def f5_isError (p0 : Int32) : Int32 := (if p0 = (-1000001 : Int32) then (1 : Int32) else (if p0 = (-1000002 : Int32) then (1 : Int32) else (if p0 = (-1000003 : Int32) then (1 : Int32) else (if p0 = (-1000004 : Int32) then (1 : Int32) else (0 : Int32)))))
set_option maxHeartbeats 4000000 in
set_option maxRecDepth 100000 in
theorem c5_isError (l : Launch) (D : va_G) (cI cP : ClassId) (p0 : Int32) : CN l yX5_isError wsX5_isError ({ frames := 0, cells := 0, slots := 0, locals := 0 } : Room) D (cty cI cP) [.int p0] (f5_isError p0) := by
  refine CN.of (cc := cX5_isError) (maxL := 1) (rt := .boolean) (own := RX5) (lv0 := [(0, .int p0)]) pnX5 rfl rfl (Nat.le_of_ble_eq_true rfl) rfl (fun p e s m args below meth c A Q F hret => ?_)
  have w_1 := F.at (x := Cond.constant RX5 79 (-1000001)) 1 rfl
  have w_2 := F.at (x := Cond.constant RX5 209 (-1000002)) 2 rfl
  have w_3 := F.at (x := Cond.constant RX5 213 (-1000003)) 3 rfl
  have w_4 := F.at (x := Cond.constant RX5 86 (-1000004)) 4 rfl
  refine wk_iload_n F dX5_isError_0 rfl 0 rfl (pc' := 1) rfl ?_
  refine wk_ldc F dX5_isError_1 w_1 (pc' := 3) rfl ?_
  refine wk_icmp_eq (tgt := 24) F dX5_isError_3 (by decide) (pc' := 6) rfl (fun c1 => ?_) (fun c1 => ?_)
  · refine wk_iconst F dX5_isError_24 ic_1 (pc' := 25) rfl ?_
    refine wk_goto (tgt := 29) F dX5_isError_25 (by decide) ?_
    exact hret _ _ _ dX5_isError_29 rfl (Eq.symm (by rw [f5_isError] <;> exact (st_pos c1 rfl)))
  · refine wk_iload_n F dX5_isError_6 rfl 0 rfl (pc' := 7) rfl ?_
    refine wk_ldc F dX5_isError_7 w_2 (pc' := 9) rfl ?_
    refine wk_icmp_eq (tgt := 24) F dX5_isError_9 (by decide) (pc' := 12) rfl (fun c2 => ?_) (fun c2 => ?_)
    · refine wk_iconst F dX5_isError_24 ic_1 (pc' := 25) rfl ?_
      refine wk_goto (tgt := 29) F dX5_isError_25 (by decide) ?_
      exact hret _ _ _ dX5_isError_29 rfl (Eq.symm (by rw [f5_isError] <;> exact (st_neg c1 (st_pos c2 rfl))))
    · refine wk_iload_n F dX5_isError_12 rfl 0 rfl (pc' := 13) rfl ?_
      refine wk_ldc F dX5_isError_13 w_3 (pc' := 15) rfl ?_
      refine wk_icmp_eq (tgt := 24) F dX5_isError_15 (by decide) (pc' := 18) rfl (fun c3 => ?_) (fun c3 => ?_)
      · refine wk_iconst F dX5_isError_24 ic_1 (pc' := 25) rfl ?_
        refine wk_goto (tgt := 29) F dX5_isError_25 (by decide) ?_
        exact hret _ _ _ dX5_isError_29 rfl (Eq.symm (by rw [f5_isError] <;> exact (st_neg c1 (st_neg c2 (st_pos c3 rfl)))))
      · refine wk_iload_n F dX5_isError_18 rfl 0 rfl (pc' := 19) rfl ?_
        refine wk_ldc F dX5_isError_19 w_4 (pc' := 21) rfl ?_
        refine wk_icmp_ne (tgt := 28) F dX5_isError_21 (by decide) (pc' := 24) rfl (fun c4 => ?_) (fun c4 => ?_)
        · refine wk_iconst F dX5_isError_28 ic_0 (pc' := 29) rfl ?_
          exact hret _ _ _ dX5_isError_29 rfl (Eq.symm (by rw [f5_isError] <;> exact (st_neg c1 (st_neg c2 (st_neg c3 (st_neg c4 rfl))))))
        · refine wk_iconst F dX5_isError_24 ic_1 (pc' := 25) rfl ?_
          refine wk_goto (tgt := 29) F dX5_isError_25 (by decide) ?_
          exact hret _ _ _ dX5_isError_29 rfl (Eq.symm (by rw [f5_isError] <;> exact (st_neg c1 (st_neg c2 (st_neg c3 (st_pos c4 rfl))))))
def f5_read (Z : ST) (p1 : Int32) (p2 : Int32) (p3 : Int32) : Int32 := (if (f1_hasPlace (Z 0) p1 p2) = 0 then (-1000001 : Int32) else (if p3 < 0 then (-1000001 : Int32) else (if p3 ≤ (1 : Int32) then (if p3 = 0 then f1_valueOf (Z 0) (f1_pieceAt (Z 0) p1 p2) else (if (f1_pieceAt (Z 0) p1 p2) = (-1 : Int32) then (-1000004 : Int32) else f1_pieceAt (Z 0) p1 p2)) else (-1000001 : Int32))))
set_option maxHeartbeats 4000000 in
set_option maxRecDepth 100000 in
theorem c5_read (l : Launch) (D : va_G) (cI cP : ClassId) (ha : Nat → Nat) (hq : Nat → Nat → Nat) (Z : ST) (p1 : Int32) (p2 : Int32) (p3 : Int32) : CP l yX5_read wsX5_read ({ frames := 3, cells := 0, slots := 0, locals := 65 } : Room) D (cty cI cP) (wTV cI cP ha hq) Z [.ref (ha 0), .int p1, .int p2, .int p3] (f5_read Z p1 p2 p3) := by
  refine CP.of (cc := cX5_read) (maxL := 5) (rt := .int) (own := RX5) (lv0 := [(0, .ref (ha 0)), (1, .int p1), (2, .int p2), (3, .int p3)]) pnX5 rfl rfl (Nat.le_of_ble_eq_true rfl) rfl (fun p e s m args below meth c A Q F hret => ?_)
  have w_1 := F.at (x := Cond.fieldLink RX5 12 "ThinVolumes" "pool" "LThinVolumes$Pool;") 1 rfl
  have w_2 := F.at (x := Cond.constant RX5 79 (-1000001)) 2 rfl
  have w_3 := F.at (x := Cond.constant RX5 86 (-1000004)) 3 rfl
  refine wk_w (w' := (wTvo ha hq) ++ ((wPool cI (hq 0) (Z 0)) ++ ((wHist cP ha hq (Z 8)) ++ ((wPool cI (hq 1) (Z 1)) ++ ((wPool cI (hq 2) (Z 2)) ++ ((wPool cI (hq 3) (Z 3)) ++ ((wPool cI (hq 4) (Z 4)) ++ ((wPool cI (hq 5) (Z 5)) ++ ((wText cI (hq 7) (Z 7)) ++ ((wReh ha hq (Z 9)) ++ ((wPool cI (hq 6) (Z 6)) ++ []))))))))))) rfl ?_
  have k_5 : ∀ w ∈ wsX50, w ∈ wsX5_read := fun _ h => List.mem_cons_of_mem _ (List.mem_append_left _ (List.mem_append_right _ (h)))
  refine wk_aload_n F dX5_read_0 rfl 0 rfl (pc' := 1) rfl ?_
  refine wk_get (C := RX5) (T := TX5) (N := 4) F 0 rfl rfl k_5 0 (Nat.le_of_ble_eq_true rfl) w_1 rfl dX5_read_1 (pc' := 4) rfl ?_
  refine wk_iload_n F dX5_read_4 rfl 1 rfl (pc' := 5) rfl ?_
  refine wk_iload_n F dX5_read_5 rfl 2 rfl (pc' := 6) rfl ?_
  refine wk_perm (w' := (wPool cI (hq 0) (Z 0)) ++ ((wTvo ha hq) ++ ((wHist cP ha hq (Z 8)) ++ ((wPool cI (hq 1) (Z 1)) ++ ((wPool cI (hq 2) (Z 2)) ++ ((wPool cI (hq 3) (Z 3)) ++ ((wPool cI (hq 4) (Z 4)) ++ ((wPool cI (hq 5) (Z 5)) ++ ((wText cI (hq 7) (Z 7)) ++ ((wReh ha hq (Z 9)) ++ ((wPool cI (hq 6) (Z 6)) ++ []))))))))))) ((List.Perm.append_left _ (List.Perm.refl _)).trans (List.perm_append_comm_assoc _ _ _)) ?_
  refine wk_fr_p F (c1_hasPlace l D cI cP (hq 0) (Z 0) p1 p2) (cwV 2 F.hts gX5_read_X1_hasPlace rfl rfl rfl hdX1_hasPlace ⟨Nat.le_of_ble_eq_true rfl, Nat.le_of_ble_eq_true rfl⟩) 0 1 rfl rfl rfl rfl (Nat.le_of_ble_eq_true rfl) dX5_read_6 ⟨Nat.zero_le _, Nat.zero_le _⟩ (pc' := 9) rfl ?_
  refine wk_if_eq (tgt := 21) F dX5_read_9 (by decide) (pc' := 12) rfl (fun c1 => ?_) (fun c1 => ?_)
  · refine wk_ldc F dX5_read_21 w_2 (pc' := 23) rfl ?_
    refine wk_perm (w' := (wTvo ha hq) ++ ((wPool cI (hq 0) (Z 0)) ++ ((wHist cP ha hq (Z 8)) ++ ((wPool cI (hq 1) (Z 1)) ++ ((wPool cI (hq 2) (Z 2)) ++ ((wPool cI (hq 3) (Z 3)) ++ ((wPool cI (hq 4) (Z 4)) ++ ((wPool cI (hq 5) (Z 5)) ++ ((wText cI (hq 7) (Z 7)) ++ ((wReh ha hq (Z 9)) ++ ((wPool cI (hq 6) (Z 6)) ++ []))))))))))) ((List.Perm.append_left _ (List.Perm.refl _)).trans (List.perm_append_comm_assoc _ _ _)) ?_
    refine wk_w (w' := wTV cI cP ha hq Z) rfl ?_
    exact hret _ _ _ dX5_read_23 rfl (Eq.symm (by rw [f5_read] <;> exact (st_pos c1 rfl)))
  · refine wk_iload_n F dX5_read_12 rfl 3 rfl (pc' := 13) rfl ?_
    refine wk_if_lt (tgt := 21) F dX5_read_13 (by decide) (pc' := 16) rfl (fun c2 => ?_) (fun c2 => ?_)
    · refine wk_ldc F dX5_read_21 w_2 (pc' := 23) rfl ?_
      refine wk_perm (w' := (wTvo ha hq) ++ ((wPool cI (hq 0) (Z 0)) ++ ((wHist cP ha hq (Z 8)) ++ ((wPool cI (hq 1) (Z 1)) ++ ((wPool cI (hq 2) (Z 2)) ++ ((wPool cI (hq 3) (Z 3)) ++ ((wPool cI (hq 4) (Z 4)) ++ ((wPool cI (hq 5) (Z 5)) ++ ((wText cI (hq 7) (Z 7)) ++ ((wReh ha hq (Z 9)) ++ ((wPool cI (hq 6) (Z 6)) ++ []))))))))))) ((List.Perm.append_left _ (List.Perm.refl _)).trans (List.perm_append_comm_assoc _ _ _)) ?_
      refine wk_w (w' := wTV cI cP ha hq Z) rfl ?_
      exact hret _ _ _ dX5_read_23 rfl (Eq.symm (by rw [f5_read] <;> exact (st_neg c1 (st_pos c2 rfl))))
    · refine wk_iload_n F dX5_read_16 rfl 3 rfl (pc' := 17) rfl ?_
      refine wk_iconst F dX5_read_17 ic_1 (pc' := 18) rfl ?_
      refine wk_icmp_le (tgt := 24) F dX5_read_18 (by decide) (pc' := 21) rfl (fun c3 => ?_) (fun c3 => ?_)
      · refine wk_aload_n F dX5_read_24 rfl 0 rfl (pc' := 25) rfl ?_
        refine wk_perm (w' := (wTvo ha hq) ++ ((wPool cI (hq 0) (Z 0)) ++ ((wHist cP ha hq (Z 8)) ++ ((wPool cI (hq 1) (Z 1)) ++ ((wPool cI (hq 2) (Z 2)) ++ ((wPool cI (hq 3) (Z 3)) ++ ((wPool cI (hq 4) (Z 4)) ++ ((wPool cI (hq 5) (Z 5)) ++ ((wText cI (hq 7) (Z 7)) ++ ((wReh ha hq (Z 9)) ++ ((wPool cI (hq 6) (Z 6)) ++ []))))))))))) ((List.Perm.append_left _ (List.Perm.refl _)).trans (List.perm_append_comm_assoc _ _ _)) ?_
        refine wk_get (C := RX5) (T := TX5) (N := 4) F 0 rfl rfl k_5 0 (Nat.le_of_ble_eq_true rfl) w_1 rfl dX5_read_25 (pc' := 28) rfl ?_
        refine wk_iload_n F dX5_read_28 rfl 1 rfl (pc' := 29) rfl ?_
        refine wk_iload_n F dX5_read_29 rfl 2 rfl (pc' := 30) rfl ?_
        refine wk_perm (w' := (wPool cI (hq 0) (Z 0)) ++ ((wTvo ha hq) ++ ((wHist cP ha hq (Z 8)) ++ ((wPool cI (hq 1) (Z 1)) ++ ((wPool cI (hq 2) (Z 2)) ++ ((wPool cI (hq 3) (Z 3)) ++ ((wPool cI (hq 4) (Z 4)) ++ ((wPool cI (hq 5) (Z 5)) ++ ((wText cI (hq 7) (Z 7)) ++ ((wReh ha hq (Z 9)) ++ ((wPool cI (hq 6) (Z 6)) ++ []))))))))))) ((List.Perm.append_left _ (List.Perm.refl _)).trans (List.perm_append_comm_assoc _ _ _)) ?_
        refine wk_fr_p F (c1_pieceAt l D cI cP (hq 0) (Z 0) p1 p2) (cwV 2 F.hts gX5_read_X1_pieceAt rfl rfl rfl hdX1_pieceAt ⟨Nat.le_of_ble_eq_true rfl, Nat.le_of_ble_eq_true rfl⟩) 0 1 rfl rfl rfl rfl (Nat.le_of_ble_eq_true rfl) dX5_read_30 ⟨Nat.zero_le _, Nat.zero_le _⟩ (pc' := 33) rfl ?_
        refine wk_istore (lv' := [(4, .int (f1_pieceAt (Z 0) p1 p2)), (0, .ref (ha 0)), (1, .int p1), (2, .int p2), (3, .int p3)]) F dX5_read_33 (Nat.le_of_ble_eq_true rfl) rfl (pc' := 35) rfl ?_
        refine wk_iload_n F dX5_read_35 rfl 4 rfl (pc' := 36) rfl ?_
        refine wk_if_ne (tgt := 49) F dX5_read_36 (by decide) (pc' := 39) rfl (fun c4 => ?_) (fun c4 => ?_)
        · refine wk_iload F dX5_read_49 0 rfl (pc' := 51) rfl ?_
          refine wk_iconst F dX5_read_51 ic_m1 (pc' := 52) rfl ?_
          refine wk_icmp_ne (tgt := 60) F dX5_read_52 (by decide) (pc' := 55) rfl (fun c5 => ?_) (fun c5 => ?_)
          · refine wk_iload F dX5_read_60 0 rfl (pc' := 62) rfl ?_
            refine wk_perm (w' := (wTvo ha hq) ++ ((wPool cI (hq 0) (Z 0)) ++ ((wHist cP ha hq (Z 8)) ++ ((wPool cI (hq 1) (Z 1)) ++ ((wPool cI (hq 2) (Z 2)) ++ ((wPool cI (hq 3) (Z 3)) ++ ((wPool cI (hq 4) (Z 4)) ++ ((wPool cI (hq 5) (Z 5)) ++ ((wText cI (hq 7) (Z 7)) ++ ((wReh ha hq (Z 9)) ++ ((wPool cI (hq 6) (Z 6)) ++ []))))))))))) ((List.Perm.append_left _ (List.Perm.refl _)).trans (List.perm_append_comm_assoc _ _ _)) ?_
            refine wk_w (w' := wTV cI cP ha hq Z) rfl ?_
            exact hret _ _ _ dX5_read_62 rfl (Eq.symm (by rw [f5_read] <;> exact (st_neg c1 (st_neg c2 (st_pos c3 (st_neg c4 (st_neg c5 rfl)))))))
          · refine wk_ldc F dX5_read_55 w_3 (pc' := 57) rfl ?_
            refine wk_goto (tgt := 62) F dX5_read_57 (by decide) ?_
            refine wk_perm (w' := (wTvo ha hq) ++ ((wPool cI (hq 0) (Z 0)) ++ ((wHist cP ha hq (Z 8)) ++ ((wPool cI (hq 1) (Z 1)) ++ ((wPool cI (hq 2) (Z 2)) ++ ((wPool cI (hq 3) (Z 3)) ++ ((wPool cI (hq 4) (Z 4)) ++ ((wPool cI (hq 5) (Z 5)) ++ ((wText cI (hq 7) (Z 7)) ++ ((wReh ha hq (Z 9)) ++ ((wPool cI (hq 6) (Z 6)) ++ []))))))))))) ((List.Perm.append_left _ (List.Perm.refl _)).trans (List.perm_append_comm_assoc _ _ _)) ?_
            refine wk_w (w' := wTV cI cP ha hq Z) rfl ?_
            exact hret _ _ _ dX5_read_62 rfl (Eq.symm (by rw [f5_read] <;> exact (st_neg c1 (st_neg c2 (st_pos c3 (st_neg c4 (st_pos c5 rfl)))))))
        · refine wk_aload_n F dX5_read_39 rfl 1 rfl (pc' := 40) rfl ?_
          refine wk_perm (w' := (wTvo ha hq) ++ ((wPool cI (hq 0) (Z 0)) ++ ((wHist cP ha hq (Z 8)) ++ ((wPool cI (hq 1) (Z 1)) ++ ((wPool cI (hq 2) (Z 2)) ++ ((wPool cI (hq 3) (Z 3)) ++ ((wPool cI (hq 4) (Z 4)) ++ ((wPool cI (hq 5) (Z 5)) ++ ((wText cI (hq 7) (Z 7)) ++ ((wReh ha hq (Z 9)) ++ ((wPool cI (hq 6) (Z 6)) ++ []))))))))))) ((List.Perm.append_left _ (List.Perm.refl _)).trans (List.perm_append_comm_assoc _ _ _)) ?_
          refine wk_get (C := RX5) (T := TX5) (N := 4) F 0 rfl rfl k_5 0 (Nat.le_of_ble_eq_true rfl) w_1 rfl dX5_read_40 (pc' := 43) rfl ?_
          refine wk_iload F dX5_read_43 0 rfl (pc' := 45) rfl ?_
          refine wk_perm (w' := (wPool cI (hq 0) (Z 0)) ++ ((wTvo ha hq) ++ ((wHist cP ha hq (Z 8)) ++ ((wPool cI (hq 1) (Z 1)) ++ ((wPool cI (hq 2) (Z 2)) ++ ((wPool cI (hq 3) (Z 3)) ++ ((wPool cI (hq 4) (Z 4)) ++ ((wPool cI (hq 5) (Z 5)) ++ ((wText cI (hq 7) (Z 7)) ++ ((wReh ha hq (Z 9)) ++ ((wPool cI (hq 6) (Z 6)) ++ []))))))))))) ((List.Perm.append_left _ (List.Perm.refl _)).trans (List.perm_append_comm_assoc _ _ _)) ?_
          refine wk_fr_p F (c1_valueOf l D cI cP (hq 0) (Z 0) (f1_pieceAt (Z 0) p1 p2)) (cwV 1 F.hts gX5_read_X1_valueOf rfl rfl rfl hdX1_valueOf ⟨Nat.le_of_ble_eq_true rfl, Nat.le_of_ble_eq_true rfl⟩) 0 1 rfl rfl rfl rfl (Nat.le_of_ble_eq_true rfl) dX5_read_45 ⟨Nat.zero_le _, Nat.zero_le _⟩ (pc' := 48) rfl ?_
          refine wk_perm (w' := (wTvo ha hq) ++ ((wPool cI (hq 0) (Z 0)) ++ ((wHist cP ha hq (Z 8)) ++ ((wPool cI (hq 1) (Z 1)) ++ ((wPool cI (hq 2) (Z 2)) ++ ((wPool cI (hq 3) (Z 3)) ++ ((wPool cI (hq 4) (Z 4)) ++ ((wPool cI (hq 5) (Z 5)) ++ ((wText cI (hq 7) (Z 7)) ++ ((wReh ha hq (Z 9)) ++ ((wPool cI (hq 6) (Z 6)) ++ []))))))))))) ((List.Perm.append_left _ (List.Perm.refl _)).trans (List.perm_append_comm_assoc _ _ _)) ?_
          refine wk_w (w' := wTV cI cP ha hq Z) rfl ?_
          exact hret _ _ _ dX5_read_48 rfl (Eq.symm (by rw [f5_read] <;> exact (st_neg c1 (st_neg c2 (st_pos c3 (st_pos c4 rfl))))))
      · refine wk_ldc F dX5_read_21 w_2 (pc' := 23) rfl ?_
        refine wk_perm (w' := (wTvo ha hq) ++ ((wPool cI (hq 0) (Z 0)) ++ ((wHist cP ha hq (Z 8)) ++ ((wPool cI (hq 1) (Z 1)) ++ ((wPool cI (hq 2) (Z 2)) ++ ((wPool cI (hq 3) (Z 3)) ++ ((wPool cI (hq 4) (Z 4)) ++ ((wPool cI (hq 5) (Z 5)) ++ ((wText cI (hq 7) (Z 7)) ++ ((wReh ha hq (Z 9)) ++ ((wPool cI (hq 6) (Z 6)) ++ []))))))))))) ((List.Perm.append_left _ (List.Perm.refl _)).trans (List.perm_append_comm_assoc _ _ _)) ?_
        refine wk_w (w' := wTV cI cP ha hq Z) rfl ?_
        exact hret _ _ _ dX5_read_23 rfl (Eq.symm (by rw [f5_read] <;> exact (st_neg c1 (st_neg c2 (st_neg c3 rfl)))))
def f5_volumeOf (Z : ST) (p1 : Int32) (p2 : Int32) : Int32 := (if (f1_lives (Z 0) p1) = 0 then (-1000001 : Int32) else (if p2 = (0 : Int32) then (Z 0) 0 p1.toNatClampNeg else (if p2 = (1 : Int32) then f1_placesWithPieces (Z 0) p1 else (if p2 = (2 : Int32) then f1_piecesOwnedOnlyBy (Z 0) ((1 : Int32) <<< (p1 &&& 31)) else (if p2 = (3 : Int32) then (Z 0) 1 p1.toNatClampNeg else (if p2 = (4 : Int32) then (Z 0) 2 p1.toNatClampNeg else (if p2 = (5 : Int32) then (if ((Z 0) 3 p1.toNatClampNeg) = (-1 : Int32) then (-1000004 : Int32) else (Z 0) 3 p1.toNatClampNeg) else (if p2 = (6 : Int32) then f1_clonesOf (Z 0) p1 else (if p2 = (7 : Int32) then f1_rankWith (Z 0) p1 ((Z 0) 1 p1.toNatClampNeg) else (if p2 = (8 : Int32) then (Z 0) 4 p1.toNatClampNeg else (if p2 = (9 : Int32) then (Z 0) 5 p1.toNatClampNeg else (-1000001 : Int32))))))))))))
set_option maxHeartbeats 4000000 in
set_option maxRecDepth 100000 in
theorem c5_volumeOf (l : Launch) (D : va_G) (cI cP : ClassId) (ha : Nat → Nat) (hq : Nat → Nat → Nat) (Z : ST) (p1 : Int32) (p2 : Int32) : CP l yX5_volumeOf wsX5_volumeOf ({ frames := 5, cells := 0, slots := 0, locals := 112 } : Room) D (cty cI cP) (wTV cI cP ha hq) Z [.ref (ha 0), .int p1, .int p2] (f5_volumeOf Z p1 p2) := by
  refine CP.of (cc := cX5_volumeOf) (maxL := 3) (rt := .int) (own := RX5) (lv0 := [(0, .ref (ha 0)), (1, .int p1), (2, .int p2)]) pnX5 rfl rfl (Nat.le_of_ble_eq_true rfl) rfl (fun p e s m args below meth c A Q F hret => ?_)
  have w_1 := F.at (x := Cond.fieldLink RX5 12 "ThinVolumes" "pool" "LThinVolumes$Pool;") 1 rfl
  have w_3 := F.at (x := Cond.fieldLink RX5 91 "ThinVolumes$Pool" "sizes" "[I") 3 rfl
  have w_4 := F.at (x := Cond.fieldLink RX5 101 "ThinVolumes$Pool" "manners" "[I") 4 rfl
  have w_5 := F.at (x := Cond.fieldLink RX5 104 "ThinVolumes$Pool" "promises" "[I") 5 rfl
  have w_6 := F.at (x := Cond.fieldLink RX5 107 "ThinVolumes$Pool" "parents" "[I") 6 rfl
  have w_7 := F.at (x := Cond.constant RX5 86 (-1000004)) 7 rfl
  have w_8 := F.at (x := Cond.fieldLink RX5 116 "ThinVolumes$Pool" "refusalsOf" "[I") 8 rfl
  have w_9 := F.at (x := Cond.fieldLink RX5 119 "ThinVolumes$Pool" "piecesGotBy" "[I") 9 rfl
  have w_2 := F.at (x := Cond.constant RX5 79 (-1000001)) 2 rfl
  refine wk_w (w' := (wTvo ha hq) ++ ((wPool cI (hq 0) (Z 0)) ++ ((wHist cP ha hq (Z 8)) ++ ((wPool cI (hq 1) (Z 1)) ++ ((wPool cI (hq 2) (Z 2)) ++ ((wPool cI (hq 3) (Z 3)) ++ ((wPool cI (hq 4) (Z 4)) ++ ((wPool cI (hq 5) (Z 5)) ++ ((wText cI (hq 7) (Z 7)) ++ ((wReh ha hq (Z 9)) ++ ((wPool cI (hq 6) (Z 6)) ++ []))))))))))) rfl ?_
  have k_1 : ∀ w ∈ wsX10, w ∈ wsX5_volumeOf := fun _ h => List.mem_cons_of_mem _ (List.mem_append_right _ (h))
  have k_5 : ∀ w ∈ wsX50, w ∈ wsX5_volumeOf := fun _ h => List.mem_cons_of_mem _ (List.mem_append_left _ (List.mem_append_right _ (h)))
  refine wk_aload_n F dX5_volumeOf_0 rfl 0 rfl (pc' := 1) rfl ?_
  refine wk_get (C := RX5) (T := TX5) (N := 4) F 0 rfl rfl k_5 0 (Nat.le_of_ble_eq_true rfl) w_1 rfl dX5_volumeOf_1 (pc' := 4) rfl ?_
  refine wk_iload_n F dX5_volumeOf_4 rfl 1 rfl (pc' := 5) rfl ?_
  refine wk_perm (w' := (wPool cI (hq 0) (Z 0)) ++ ((wTvo ha hq) ++ ((wHist cP ha hq (Z 8)) ++ ((wPool cI (hq 1) (Z 1)) ++ ((wPool cI (hq 2) (Z 2)) ++ ((wPool cI (hq 3) (Z 3)) ++ ((wPool cI (hq 4) (Z 4)) ++ ((wPool cI (hq 5) (Z 5)) ++ ((wText cI (hq 7) (Z 7)) ++ ((wReh ha hq (Z 9)) ++ ((wPool cI (hq 6) (Z 6)) ++ []))))))))))) ((List.Perm.append_left _ (List.Perm.refl _)).trans (List.perm_append_comm_assoc _ _ _)) ?_
  refine wk_fr_p F (c1_lives l D cI cP (hq 0) (Z 0) p1) (cwV 1 F.hts gX5_volumeOf_X1_lives rfl rfl rfl hdX1_lives ⟨Nat.le_of_ble_eq_true rfl, Nat.le_of_ble_eq_true rfl⟩) 0 1 rfl rfl rfl rfl (Nat.le_of_ble_eq_true rfl) dX5_volumeOf_5 ⟨Nat.zero_le _, Nat.zero_le _⟩ (pc' := 8) rfl ?_
  refine wk_if_ne (tgt := 14) F dX5_volumeOf_8 (by decide) (pc' := 11) rfl (fun c1 => ?_) (fun c1 => ?_)
  · refine wk_iload_n F dX5_volumeOf_14 rfl 2 rfl (pc' := 15) rfl ?_
    by_cases c2 : p2 = (0 : Int32)
    · refine wk_top c2 ?_
      refine wk_tableIn (off := 53) (tgt := 68) F dX5_volumeOf_15 (by decide) (by decide) (by decide) (by decide) ?_
      refine wk_aload_n F dX5_volumeOf_68 rfl 0 rfl (pc' := 69) rfl ?_
      refine wk_perm (w' := (wTvo ha hq) ++ ((wPool cI (hq 0) (Z 0)) ++ ((wHist cP ha hq (Z 8)) ++ ((wPool cI (hq 1) (Z 1)) ++ ((wPool cI (hq 2) (Z 2)) ++ ((wPool cI (hq 3) (Z 3)) ++ ((wPool cI (hq 4) (Z 4)) ++ ((wPool cI (hq 5) (Z 5)) ++ ((wText cI (hq 7) (Z 7)) ++ ((wReh ha hq (Z 9)) ++ ((wPool cI (hq 6) (Z 6)) ++ []))))))))))) ((List.Perm.append_left _ (List.Perm.refl _)).trans (List.perm_append_comm_assoc _ _ _)) ?_
      refine wk_get (C := RX5) (T := TX5) (N := 4) F 0 rfl rfl k_5 0 (Nat.le_of_ble_eq_true rfl) w_1 rfl dX5_volumeOf_69 (pc' := 72) rfl ?_
      refine wk_perm (w' := (wPool cI (hq 0) (Z 0)) ++ ((wTvo ha hq) ++ ((wHist cP ha hq (Z 8)) ++ ((wPool cI (hq 1) (Z 1)) ++ ((wPool cI (hq 2) (Z 2)) ++ ((wPool cI (hq 3) (Z 3)) ++ ((wPool cI (hq 4) (Z 4)) ++ ((wPool cI (hq 5) (Z 5)) ++ ((wText cI (hq 7) (Z 7)) ++ ((wReh ha hq (Z 9)) ++ ((wPool cI (hq 6) (Z 6)) ++ []))))))))))) ((List.Perm.append_left _ (List.Perm.refl _)).trans (List.perm_append_comm_assoc _ _ _)) ?_
      refine wk_get (C := RX1) (T := TX1) (N := 14) F 0 rfl rfl k_1 0 (Nat.le_of_ble_eq_true rfl) w_3 rfl dX5_volumeOf_72 (pc' := 75) rfl ?_
      refine wk_iload_n F dX5_volumeOf_75 rfl 1 rfl (pc' := 76) rfl ?_
      refine wk_iald F 1 0 rfl rfl (lives_in c1) dX5_volumeOf_76 (pc' := 77) rfl ?_
      refine wk_perm (w' := (wTvo ha hq) ++ ((wPool cI (hq 0) (Z 0)) ++ ((wHist cP ha hq (Z 8)) ++ ((wPool cI (hq 1) (Z 1)) ++ ((wPool cI (hq 2) (Z 2)) ++ ((wPool cI (hq 3) (Z 3)) ++ ((wPool cI (hq 4) (Z 4)) ++ ((wPool cI (hq 5) (Z 5)) ++ ((wText cI (hq 7) (Z 7)) ++ ((wReh ha hq (Z 9)) ++ ((wPool cI (hq 6) (Z 6)) ++ []))))))))))) ((List.Perm.append_left _ (List.Perm.refl _)).trans (List.perm_append_comm_assoc _ _ _)) ?_
      refine wk_w (w' := wTV cI cP ha hq Z) rfl ?_
      exact hret _ _ _ dX5_volumeOf_77 rfl (Eq.symm (by rw [f5_volumeOf] <;> exact (st_neg c1 (st_pos c2 rfl))))
    by_cases c3 : p2 = (1 : Int32)
    · refine wk_top c3 ?_
      refine wk_tableIn (off := 63) (tgt := 78) F dX5_volumeOf_15 (by decide) (by decide) (by decide) (by decide) ?_
      refine wk_aload_n F dX5_volumeOf_78 rfl 0 rfl (pc' := 79) rfl ?_
      refine wk_perm (w' := (wTvo ha hq) ++ ((wPool cI (hq 0) (Z 0)) ++ ((wHist cP ha hq (Z 8)) ++ ((wPool cI (hq 1) (Z 1)) ++ ((wPool cI (hq 2) (Z 2)) ++ ((wPool cI (hq 3) (Z 3)) ++ ((wPool cI (hq 4) (Z 4)) ++ ((wPool cI (hq 5) (Z 5)) ++ ((wText cI (hq 7) (Z 7)) ++ ((wReh ha hq (Z 9)) ++ ((wPool cI (hq 6) (Z 6)) ++ []))))))))))) ((List.Perm.append_left _ (List.Perm.refl _)).trans (List.perm_append_comm_assoc _ _ _)) ?_
      refine wk_get (C := RX5) (T := TX5) (N := 4) F 0 rfl rfl k_5 0 (Nat.le_of_ble_eq_true rfl) w_1 rfl dX5_volumeOf_79 (pc' := 82) rfl ?_
      refine wk_iload_n F dX5_volumeOf_82 rfl 1 rfl (pc' := 83) rfl ?_
      refine wk_perm (w' := (wPool cI (hq 0) (Z 0)) ++ ((wTvo ha hq) ++ ((wHist cP ha hq (Z 8)) ++ ((wPool cI (hq 1) (Z 1)) ++ ((wPool cI (hq 2) (Z 2)) ++ ((wPool cI (hq 3) (Z 3)) ++ ((wPool cI (hq 4) (Z 4)) ++ ((wPool cI (hq 5) (Z 5)) ++ ((wText cI (hq 7) (Z 7)) ++ ((wReh ha hq (Z 9)) ++ ((wPool cI (hq 6) (Z 6)) ++ []))))))))))) ((List.Perm.append_left _ (List.Perm.refl _)).trans (List.perm_append_comm_assoc _ _ _)) ?_
      refine wk_fr_p F (c1_placesWithPieces l D cI cP (hq 0) (Z 0) p1) (cwV 1 F.hts gX5_volumeOf_X1_placesWithPieces rfl rfl rfl hdX1_placesWithPieces ⟨Nat.le_of_ble_eq_true rfl, Nat.le_of_ble_eq_true rfl⟩) 0 1 rfl rfl rfl rfl (Nat.le_of_ble_eq_true rfl) dX5_volumeOf_83 ⟨Nat.zero_le _, Nat.zero_le _⟩ (pc' := 86) rfl ?_
      refine wk_perm (w' := (wTvo ha hq) ++ ((wPool cI (hq 0) (Z 0)) ++ ((wHist cP ha hq (Z 8)) ++ ((wPool cI (hq 1) (Z 1)) ++ ((wPool cI (hq 2) (Z 2)) ++ ((wPool cI (hq 3) (Z 3)) ++ ((wPool cI (hq 4) (Z 4)) ++ ((wPool cI (hq 5) (Z 5)) ++ ((wText cI (hq 7) (Z 7)) ++ ((wReh ha hq (Z 9)) ++ ((wPool cI (hq 6) (Z 6)) ++ []))))))))))) ((List.Perm.append_left _ (List.Perm.refl _)).trans (List.perm_append_comm_assoc _ _ _)) ?_
      refine wk_w (w' := wTV cI cP ha hq Z) rfl ?_
      exact hret _ _ _ dX5_volumeOf_86 rfl (Eq.symm (by rw [f5_volumeOf] <;> exact (st_neg c1 (st_neg c2 (st_pos c3 rfl)))))
    by_cases c4 : p2 = (2 : Int32)
    · refine wk_top c4 ?_
      refine wk_tableIn (off := 72) (tgt := 87) F dX5_volumeOf_15 (by decide) (by decide) (by decide) (by decide) ?_
      refine wk_aload_n F dX5_volumeOf_87 rfl 0 rfl (pc' := 88) rfl ?_
      refine wk_perm (w' := (wTvo ha hq) ++ ((wPool cI (hq 0) (Z 0)) ++ ((wHist cP ha hq (Z 8)) ++ ((wPool cI (hq 1) (Z 1)) ++ ((wPool cI (hq 2) (Z 2)) ++ ((wPool cI (hq 3) (Z 3)) ++ ((wPool cI (hq 4) (Z 4)) ++ ((wPool cI (hq 5) (Z 5)) ++ ((wText cI (hq 7) (Z 7)) ++ ((wReh ha hq (Z 9)) ++ ((wPool cI (hq 6) (Z 6)) ++ []))))))))))) ((List.Perm.append_left _ (List.Perm.refl _)).trans (List.perm_append_comm_assoc _ _ _)) ?_
      refine wk_get (C := RX5) (T := TX5) (N := 4) F 0 rfl rfl k_5 0 (Nat.le_of_ble_eq_true rfl) w_1 rfl dX5_volumeOf_88 (pc' := 91) rfl ?_
      refine wk_iconst F dX5_volumeOf_91 ic_1 (pc' := 92) rfl ?_
      refine wk_iload_n F dX5_volumeOf_92 rfl 1 rfl (pc' := 93) rfl ?_
      refine wk_ishl F dX5_volumeOf_93 (pc' := 94) rfl ?_
      refine wk_perm (w' := (wPool cI (hq 0) (Z 0)) ++ ((wTvo ha hq) ++ ((wHist cP ha hq (Z 8)) ++ ((wPool cI (hq 1) (Z 1)) ++ ((wPool cI (hq 2) (Z 2)) ++ ((wPool cI (hq 3) (Z 3)) ++ ((wPool cI (hq 4) (Z 4)) ++ ((wPool cI (hq 5) (Z 5)) ++ ((wText cI (hq 7) (Z 7)) ++ ((wReh ha hq (Z 9)) ++ ((wPool cI (hq 6) (Z 6)) ++ []))))))))))) ((List.Perm.append_left _ (List.Perm.refl _)).trans (List.perm_append_comm_assoc _ _ _)) ?_
      refine wk_fr_p F (c1_piecesOwnedOnlyBy l D cI cP (hq 0) (Z 0) ((1 : Int32) <<< (p1 &&& 31))) (cwV 1 F.hts gX5_volumeOf_X1_piecesOwnedOnlyBy rfl rfl rfl hdX1_piecesOwnedOnlyBy ⟨Nat.le_of_ble_eq_true rfl, Nat.le_of_ble_eq_true rfl⟩) 0 1 rfl rfl rfl rfl (Nat.le_of_ble_eq_true rfl) dX5_volumeOf_94 ⟨Nat.zero_le _, Nat.zero_le _⟩ (pc' := 97) rfl ?_
      refine wk_perm (w' := (wTvo ha hq) ++ ((wPool cI (hq 0) (Z 0)) ++ ((wHist cP ha hq (Z 8)) ++ ((wPool cI (hq 1) (Z 1)) ++ ((wPool cI (hq 2) (Z 2)) ++ ((wPool cI (hq 3) (Z 3)) ++ ((wPool cI (hq 4) (Z 4)) ++ ((wPool cI (hq 5) (Z 5)) ++ ((wText cI (hq 7) (Z 7)) ++ ((wReh ha hq (Z 9)) ++ ((wPool cI (hq 6) (Z 6)) ++ []))))))))))) ((List.Perm.append_left _ (List.Perm.refl _)).trans (List.perm_append_comm_assoc _ _ _)) ?_
      refine wk_w (w' := wTV cI cP ha hq Z) rfl ?_
      exact hret _ _ _ dX5_volumeOf_97 rfl (Eq.symm (by rw [f5_volumeOf] <;> exact (st_neg c1 (st_neg c2 (st_neg c3 (st_pos c4 rfl))))))
    by_cases c5 : p2 = (3 : Int32)
    · refine wk_top c5 ?_
      refine wk_tableIn (off := 83) (tgt := 98) F dX5_volumeOf_15 (by decide) (by decide) (by decide) (by decide) ?_
      refine wk_aload_n F dX5_volumeOf_98 rfl 0 rfl (pc' := 99) rfl ?_
      refine wk_perm (w' := (wTvo ha hq) ++ ((wPool cI (hq 0) (Z 0)) ++ ((wHist cP ha hq (Z 8)) ++ ((wPool cI (hq 1) (Z 1)) ++ ((wPool cI (hq 2) (Z 2)) ++ ((wPool cI (hq 3) (Z 3)) ++ ((wPool cI (hq 4) (Z 4)) ++ ((wPool cI (hq 5) (Z 5)) ++ ((wText cI (hq 7) (Z 7)) ++ ((wReh ha hq (Z 9)) ++ ((wPool cI (hq 6) (Z 6)) ++ []))))))))))) ((List.Perm.append_left _ (List.Perm.refl _)).trans (List.perm_append_comm_assoc _ _ _)) ?_
      refine wk_get (C := RX5) (T := TX5) (N := 4) F 0 rfl rfl k_5 0 (Nat.le_of_ble_eq_true rfl) w_1 rfl dX5_volumeOf_99 (pc' := 102) rfl ?_
      refine wk_perm (w' := (wPool cI (hq 0) (Z 0)) ++ ((wTvo ha hq) ++ ((wHist cP ha hq (Z 8)) ++ ((wPool cI (hq 1) (Z 1)) ++ ((wPool cI (hq 2) (Z 2)) ++ ((wPool cI (hq 3) (Z 3)) ++ ((wPool cI (hq 4) (Z 4)) ++ ((wPool cI (hq 5) (Z 5)) ++ ((wText cI (hq 7) (Z 7)) ++ ((wReh ha hq (Z 9)) ++ ((wPool cI (hq 6) (Z 6)) ++ []))))))))))) ((List.Perm.append_left _ (List.Perm.refl _)).trans (List.perm_append_comm_assoc _ _ _)) ?_
      refine wk_get (C := RX1) (T := TX1) (N := 14) F 0 rfl rfl k_1 1 (Nat.le_of_ble_eq_true rfl) w_4 rfl dX5_volumeOf_102 (pc' := 105) rfl ?_
      refine wk_iload_n F dX5_volumeOf_105 rfl 1 rfl (pc' := 106) rfl ?_
      refine wk_iald F 2 0 rfl rfl (lives_in c1) dX5_volumeOf_106 (pc' := 107) rfl ?_
      refine wk_perm (w' := (wTvo ha hq) ++ ((wPool cI (hq 0) (Z 0)) ++ ((wHist cP ha hq (Z 8)) ++ ((wPool cI (hq 1) (Z 1)) ++ ((wPool cI (hq 2) (Z 2)) ++ ((wPool cI (hq 3) (Z 3)) ++ ((wPool cI (hq 4) (Z 4)) ++ ((wPool cI (hq 5) (Z 5)) ++ ((wText cI (hq 7) (Z 7)) ++ ((wReh ha hq (Z 9)) ++ ((wPool cI (hq 6) (Z 6)) ++ []))))))))))) ((List.Perm.append_left _ (List.Perm.refl _)).trans (List.perm_append_comm_assoc _ _ _)) ?_
      refine wk_w (w' := wTV cI cP ha hq Z) rfl ?_
      exact hret _ _ _ dX5_volumeOf_107 rfl (Eq.symm (by rw [f5_volumeOf] <;> exact (st_neg c1 (st_neg c2 (st_neg c3 (st_neg c4 (st_pos c5 rfl)))))))
    by_cases c6 : p2 = (4 : Int32)
    · refine wk_top c6 ?_
      refine wk_tableIn (off := 93) (tgt := 108) F dX5_volumeOf_15 (by decide) (by decide) (by decide) (by decide) ?_
      refine wk_aload_n F dX5_volumeOf_108 rfl 0 rfl (pc' := 109) rfl ?_
      refine wk_perm (w' := (wTvo ha hq) ++ ((wPool cI (hq 0) (Z 0)) ++ ((wHist cP ha hq (Z 8)) ++ ((wPool cI (hq 1) (Z 1)) ++ ((wPool cI (hq 2) (Z 2)) ++ ((wPool cI (hq 3) (Z 3)) ++ ((wPool cI (hq 4) (Z 4)) ++ ((wPool cI (hq 5) (Z 5)) ++ ((wText cI (hq 7) (Z 7)) ++ ((wReh ha hq (Z 9)) ++ ((wPool cI (hq 6) (Z 6)) ++ []))))))))))) ((List.Perm.append_left _ (List.Perm.refl _)).trans (List.perm_append_comm_assoc _ _ _)) ?_
      refine wk_get (C := RX5) (T := TX5) (N := 4) F 0 rfl rfl k_5 0 (Nat.le_of_ble_eq_true rfl) w_1 rfl dX5_volumeOf_109 (pc' := 112) rfl ?_
      refine wk_perm (w' := (wPool cI (hq 0) (Z 0)) ++ ((wTvo ha hq) ++ ((wHist cP ha hq (Z 8)) ++ ((wPool cI (hq 1) (Z 1)) ++ ((wPool cI (hq 2) (Z 2)) ++ ((wPool cI (hq 3) (Z 3)) ++ ((wPool cI (hq 4) (Z 4)) ++ ((wPool cI (hq 5) (Z 5)) ++ ((wText cI (hq 7) (Z 7)) ++ ((wReh ha hq (Z 9)) ++ ((wPool cI (hq 6) (Z 6)) ++ []))))))))))) ((List.Perm.append_left _ (List.Perm.refl _)).trans (List.perm_append_comm_assoc _ _ _)) ?_
      refine wk_get (C := RX1) (T := TX1) (N := 14) F 0 rfl rfl k_1 2 (Nat.le_of_ble_eq_true rfl) w_5 rfl dX5_volumeOf_112 (pc' := 115) rfl ?_
      refine wk_iload_n F dX5_volumeOf_115 rfl 1 rfl (pc' := 116) rfl ?_
      refine wk_iald F 3 0 rfl rfl (lives_in c1) dX5_volumeOf_116 (pc' := 117) rfl ?_
      refine wk_perm (w' := (wTvo ha hq) ++ ((wPool cI (hq 0) (Z 0)) ++ ((wHist cP ha hq (Z 8)) ++ ((wPool cI (hq 1) (Z 1)) ++ ((wPool cI (hq 2) (Z 2)) ++ ((wPool cI (hq 3) (Z 3)) ++ ((wPool cI (hq 4) (Z 4)) ++ ((wPool cI (hq 5) (Z 5)) ++ ((wText cI (hq 7) (Z 7)) ++ ((wReh ha hq (Z 9)) ++ ((wPool cI (hq 6) (Z 6)) ++ []))))))))))) ((List.Perm.append_left _ (List.Perm.refl _)).trans (List.perm_append_comm_assoc _ _ _)) ?_
      refine wk_w (w' := wTV cI cP ha hq Z) rfl ?_
      exact hret _ _ _ dX5_volumeOf_117 rfl (Eq.symm (by rw [f5_volumeOf] <;> exact (st_neg c1 (st_neg c2 (st_neg c3 (st_neg c4 (st_neg c5 (st_pos c6 rfl))))))))
    by_cases c7 : p2 = (5 : Int32)
    · refine wk_top c7 ?_
      refine wk_tableIn (off := 103) (tgt := 118) F dX5_volumeOf_15 (by decide) (by decide) (by decide) (by decide) ?_
      refine wk_aload_n F dX5_volumeOf_118 rfl 0 rfl (pc' := 119) rfl ?_
      refine wk_perm (w' := (wTvo ha hq) ++ ((wPool cI (hq 0) (Z 0)) ++ ((wHist cP ha hq (Z 8)) ++ ((wPool cI (hq 1) (Z 1)) ++ ((wPool cI (hq 2) (Z 2)) ++ ((wPool cI (hq 3) (Z 3)) ++ ((wPool cI (hq 4) (Z 4)) ++ ((wPool cI (hq 5) (Z 5)) ++ ((wText cI (hq 7) (Z 7)) ++ ((wReh ha hq (Z 9)) ++ ((wPool cI (hq 6) (Z 6)) ++ []))))))))))) ((List.Perm.append_left _ (List.Perm.refl _)).trans (List.perm_append_comm_assoc _ _ _)) ?_
      refine wk_get (C := RX5) (T := TX5) (N := 4) F 0 rfl rfl k_5 0 (Nat.le_of_ble_eq_true rfl) w_1 rfl dX5_volumeOf_119 (pc' := 122) rfl ?_
      refine wk_perm (w' := (wPool cI (hq 0) (Z 0)) ++ ((wTvo ha hq) ++ ((wHist cP ha hq (Z 8)) ++ ((wPool cI (hq 1) (Z 1)) ++ ((wPool cI (hq 2) (Z 2)) ++ ((wPool cI (hq 3) (Z 3)) ++ ((wPool cI (hq 4) (Z 4)) ++ ((wPool cI (hq 5) (Z 5)) ++ ((wText cI (hq 7) (Z 7)) ++ ((wReh ha hq (Z 9)) ++ ((wPool cI (hq 6) (Z 6)) ++ []))))))))))) ((List.Perm.append_left _ (List.Perm.refl _)).trans (List.perm_append_comm_assoc _ _ _)) ?_
      refine wk_get (C := RX1) (T := TX1) (N := 14) F 0 rfl rfl k_1 3 (Nat.le_of_ble_eq_true rfl) w_6 rfl dX5_volumeOf_122 (pc' := 125) rfl ?_
      refine wk_iload_n F dX5_volumeOf_125 rfl 1 rfl (pc' := 126) rfl ?_
      refine wk_iald F 4 0 rfl rfl (lives_in c1) dX5_volumeOf_126 (pc' := 127) rfl ?_
      refine wk_iconst F dX5_volumeOf_127 ic_m1 (pc' := 128) rfl ?_
      refine wk_icmp_ne (tgt := 136) F dX5_volumeOf_128 (by decide) (pc' := 131) rfl (fun c8 => ?_) (fun c8 => ?_)
      · refine wk_aload_n F dX5_volumeOf_136 rfl 0 rfl (pc' := 137) rfl ?_
        refine wk_perm (w' := (wTvo ha hq) ++ ((wPool cI (hq 0) (Z 0)) ++ ((wHist cP ha hq (Z 8)) ++ ((wPool cI (hq 1) (Z 1)) ++ ((wPool cI (hq 2) (Z 2)) ++ ((wPool cI (hq 3) (Z 3)) ++ ((wPool cI (hq 4) (Z 4)) ++ ((wPool cI (hq 5) (Z 5)) ++ ((wText cI (hq 7) (Z 7)) ++ ((wReh ha hq (Z 9)) ++ ((wPool cI (hq 6) (Z 6)) ++ []))))))))))) ((List.Perm.append_left _ (List.Perm.refl _)).trans (List.perm_append_comm_assoc _ _ _)) ?_
        refine wk_get (C := RX5) (T := TX5) (N := 4) F 0 rfl rfl k_5 0 (Nat.le_of_ble_eq_true rfl) w_1 rfl dX5_volumeOf_137 (pc' := 140) rfl ?_
        refine wk_perm (w' := (wPool cI (hq 0) (Z 0)) ++ ((wTvo ha hq) ++ ((wHist cP ha hq (Z 8)) ++ ((wPool cI (hq 1) (Z 1)) ++ ((wPool cI (hq 2) (Z 2)) ++ ((wPool cI (hq 3) (Z 3)) ++ ((wPool cI (hq 4) (Z 4)) ++ ((wPool cI (hq 5) (Z 5)) ++ ((wText cI (hq 7) (Z 7)) ++ ((wReh ha hq (Z 9)) ++ ((wPool cI (hq 6) (Z 6)) ++ []))))))))))) ((List.Perm.append_left _ (List.Perm.refl _)).trans (List.perm_append_comm_assoc _ _ _)) ?_
        refine wk_get (C := RX1) (T := TX1) (N := 14) F 0 rfl rfl k_1 3 (Nat.le_of_ble_eq_true rfl) w_6 rfl dX5_volumeOf_140 (pc' := 143) rfl ?_
        refine wk_iload_n F dX5_volumeOf_143 rfl 1 rfl (pc' := 144) rfl ?_
        refine wk_iald F 4 0 rfl rfl (lives_in c1) dX5_volumeOf_144 (pc' := 145) rfl ?_
        refine wk_perm (w' := (wTvo ha hq) ++ ((wPool cI (hq 0) (Z 0)) ++ ((wHist cP ha hq (Z 8)) ++ ((wPool cI (hq 1) (Z 1)) ++ ((wPool cI (hq 2) (Z 2)) ++ ((wPool cI (hq 3) (Z 3)) ++ ((wPool cI (hq 4) (Z 4)) ++ ((wPool cI (hq 5) (Z 5)) ++ ((wText cI (hq 7) (Z 7)) ++ ((wReh ha hq (Z 9)) ++ ((wPool cI (hq 6) (Z 6)) ++ []))))))))))) ((List.Perm.append_left _ (List.Perm.refl _)).trans (List.perm_append_comm_assoc _ _ _)) ?_
        refine wk_w (w' := wTV cI cP ha hq Z) rfl ?_
        exact hret _ _ _ dX5_volumeOf_145 rfl (Eq.symm (by rw [f5_volumeOf] <;> exact (st_neg c1 (st_neg c2 (st_neg c3 (st_neg c4 (st_neg c5 (st_neg c6 (st_pos c7 (st_neg c8 rfl))))))))))
      · refine wk_ldc F dX5_volumeOf_131 w_7 (pc' := 133) rfl ?_
        refine wk_goto (tgt := 145) F dX5_volumeOf_133 (by decide) ?_
        refine wk_perm (w' := (wTvo ha hq) ++ ((wPool cI (hq 0) (Z 0)) ++ ((wHist cP ha hq (Z 8)) ++ ((wPool cI (hq 1) (Z 1)) ++ ((wPool cI (hq 2) (Z 2)) ++ ((wPool cI (hq 3) (Z 3)) ++ ((wPool cI (hq 4) (Z 4)) ++ ((wPool cI (hq 5) (Z 5)) ++ ((wText cI (hq 7) (Z 7)) ++ ((wReh ha hq (Z 9)) ++ ((wPool cI (hq 6) (Z 6)) ++ []))))))))))) ((List.Perm.append_left _ (List.Perm.refl _)).trans (List.perm_append_comm_assoc _ _ _)) ?_
        refine wk_w (w' := wTV cI cP ha hq Z) rfl ?_
        exact hret _ _ _ dX5_volumeOf_145 rfl (Eq.symm (by rw [f5_volumeOf] <;> exact (st_neg c1 (st_neg c2 (st_neg c3 (st_neg c4 (st_neg c5 (st_neg c6 (st_pos c7 (st_pos c8 rfl))))))))))
    by_cases c9 : p2 = (6 : Int32)
    · refine wk_top c9 ?_
      refine wk_tableIn (off := 131) (tgt := 146) F dX5_volumeOf_15 (by decide) (by decide) (by decide) (by decide) ?_
      refine wk_aload_n F dX5_volumeOf_146 rfl 0 rfl (pc' := 147) rfl ?_
      refine wk_perm (w' := (wTvo ha hq) ++ ((wPool cI (hq 0) (Z 0)) ++ ((wHist cP ha hq (Z 8)) ++ ((wPool cI (hq 1) (Z 1)) ++ ((wPool cI (hq 2) (Z 2)) ++ ((wPool cI (hq 3) (Z 3)) ++ ((wPool cI (hq 4) (Z 4)) ++ ((wPool cI (hq 5) (Z 5)) ++ ((wText cI (hq 7) (Z 7)) ++ ((wReh ha hq (Z 9)) ++ ((wPool cI (hq 6) (Z 6)) ++ []))))))))))) ((List.Perm.append_left _ (List.Perm.refl _)).trans (List.perm_append_comm_assoc _ _ _)) ?_
      refine wk_get (C := RX5) (T := TX5) (N := 4) F 0 rfl rfl k_5 0 (Nat.le_of_ble_eq_true rfl) w_1 rfl dX5_volumeOf_147 (pc' := 150) rfl ?_
      refine wk_iload_n F dX5_volumeOf_150 rfl 1 rfl (pc' := 151) rfl ?_
      refine wk_perm (w' := (wPool cI (hq 0) (Z 0)) ++ ((wTvo ha hq) ++ ((wHist cP ha hq (Z 8)) ++ ((wPool cI (hq 1) (Z 1)) ++ ((wPool cI (hq 2) (Z 2)) ++ ((wPool cI (hq 3) (Z 3)) ++ ((wPool cI (hq 4) (Z 4)) ++ ((wPool cI (hq 5) (Z 5)) ++ ((wText cI (hq 7) (Z 7)) ++ ((wReh ha hq (Z 9)) ++ ((wPool cI (hq 6) (Z 6)) ++ []))))))))))) ((List.Perm.append_left _ (List.Perm.refl _)).trans (List.perm_append_comm_assoc _ _ _)) ?_
      refine wk_fr_p F (c1_clonesOf l D cI cP (hq 0) (Z 0) p1) (cwV 1 F.hts gX5_volumeOf_X1_clonesOf rfl rfl rfl hdX1_clonesOf ⟨Nat.le_of_ble_eq_true rfl, Nat.le_of_ble_eq_true rfl⟩) 0 1 rfl rfl rfl rfl (Nat.le_of_ble_eq_true rfl) dX5_volumeOf_151 ⟨Nat.zero_le _, Nat.zero_le _⟩ (pc' := 154) rfl ?_
      refine wk_perm (w' := (wTvo ha hq) ++ ((wPool cI (hq 0) (Z 0)) ++ ((wHist cP ha hq (Z 8)) ++ ((wPool cI (hq 1) (Z 1)) ++ ((wPool cI (hq 2) (Z 2)) ++ ((wPool cI (hq 3) (Z 3)) ++ ((wPool cI (hq 4) (Z 4)) ++ ((wPool cI (hq 5) (Z 5)) ++ ((wText cI (hq 7) (Z 7)) ++ ((wReh ha hq (Z 9)) ++ ((wPool cI (hq 6) (Z 6)) ++ []))))))))))) ((List.Perm.append_left _ (List.Perm.refl _)).trans (List.perm_append_comm_assoc _ _ _)) ?_
      refine wk_w (w' := wTV cI cP ha hq Z) rfl ?_
      exact hret _ _ _ dX5_volumeOf_154 rfl (Eq.symm (by rw [f5_volumeOf] <;> exact (st_neg c1 (st_neg c2 (st_neg c3 (st_neg c4 (st_neg c5 (st_neg c6 (st_neg c7 (st_pos c9 rfl))))))))))
    by_cases c10 : p2 = (7 : Int32)
    · refine wk_top c10 ?_
      refine wk_tableIn (off := 140) (tgt := 155) F dX5_volumeOf_15 (by decide) (by decide) (by decide) (by decide) ?_
      refine wk_aload_n F dX5_volumeOf_155 rfl 0 rfl (pc' := 156) rfl ?_
      refine wk_perm (w' := (wTvo ha hq) ++ ((wPool cI (hq 0) (Z 0)) ++ ((wHist cP ha hq (Z 8)) ++ ((wPool cI (hq 1) (Z 1)) ++ ((wPool cI (hq 2) (Z 2)) ++ ((wPool cI (hq 3) (Z 3)) ++ ((wPool cI (hq 4) (Z 4)) ++ ((wPool cI (hq 5) (Z 5)) ++ ((wText cI (hq 7) (Z 7)) ++ ((wReh ha hq (Z 9)) ++ ((wPool cI (hq 6) (Z 6)) ++ []))))))))))) ((List.Perm.append_left _ (List.Perm.refl _)).trans (List.perm_append_comm_assoc _ _ _)) ?_
      refine wk_get (C := RX5) (T := TX5) (N := 4) F 0 rfl rfl k_5 0 (Nat.le_of_ble_eq_true rfl) w_1 rfl dX5_volumeOf_156 (pc' := 159) rfl ?_
      refine wk_iload_n F dX5_volumeOf_159 rfl 1 rfl (pc' := 160) rfl ?_
      refine wk_aload_n F dX5_volumeOf_160 rfl 0 rfl (pc' := 161) rfl ?_
      refine wk_get (C := RX5) (T := TX5) (N := 4) F 0 rfl rfl k_5 0 (Nat.le_of_ble_eq_true rfl) w_1 rfl dX5_volumeOf_161 (pc' := 164) rfl ?_
      refine wk_perm (w' := (wPool cI (hq 0) (Z 0)) ++ ((wTvo ha hq) ++ ((wHist cP ha hq (Z 8)) ++ ((wPool cI (hq 1) (Z 1)) ++ ((wPool cI (hq 2) (Z 2)) ++ ((wPool cI (hq 3) (Z 3)) ++ ((wPool cI (hq 4) (Z 4)) ++ ((wPool cI (hq 5) (Z 5)) ++ ((wText cI (hq 7) (Z 7)) ++ ((wReh ha hq (Z 9)) ++ ((wPool cI (hq 6) (Z 6)) ++ []))))))))))) ((List.Perm.append_left _ (List.Perm.refl _)).trans (List.perm_append_comm_assoc _ _ _)) ?_
      refine wk_get (C := RX1) (T := TX1) (N := 14) F 0 rfl rfl k_1 1 (Nat.le_of_ble_eq_true rfl) w_4 rfl dX5_volumeOf_164 (pc' := 167) rfl ?_
      refine wk_iload_n F dX5_volumeOf_167 rfl 1 rfl (pc' := 168) rfl ?_
      refine wk_iald F 2 0 rfl rfl (lives_in c1) dX5_volumeOf_168 (pc' := 169) rfl ?_
      refine wk_fr_p F (c1_rankWith l D cI cP (hq 0) (Z 0) p1 ((Z 0) 1 p1.toNatClampNeg)) (cwV 2 F.hts gX5_volumeOf_X1_rankWith rfl rfl rfl hdX1_rankWith ⟨Nat.le_of_ble_eq_true rfl, Nat.le_of_ble_eq_true rfl⟩) 0 1 rfl rfl rfl rfl (Nat.le_of_ble_eq_true rfl) dX5_volumeOf_169 ⟨Nat.zero_le _, Nat.zero_le _⟩ (pc' := 172) rfl ?_
      refine wk_perm (w' := (wTvo ha hq) ++ ((wPool cI (hq 0) (Z 0)) ++ ((wHist cP ha hq (Z 8)) ++ ((wPool cI (hq 1) (Z 1)) ++ ((wPool cI (hq 2) (Z 2)) ++ ((wPool cI (hq 3) (Z 3)) ++ ((wPool cI (hq 4) (Z 4)) ++ ((wPool cI (hq 5) (Z 5)) ++ ((wText cI (hq 7) (Z 7)) ++ ((wReh ha hq (Z 9)) ++ ((wPool cI (hq 6) (Z 6)) ++ []))))))))))) ((List.Perm.append_left _ (List.Perm.refl _)).trans (List.perm_append_comm_assoc _ _ _)) ?_
      refine wk_w (w' := wTV cI cP ha hq Z) rfl ?_
      exact hret _ _ _ dX5_volumeOf_172 rfl (Eq.symm (by rw [f5_volumeOf] <;> exact (st_neg c1 (st_neg c2 (st_neg c3 (st_neg c4 (st_neg c5 (st_neg c6 (st_neg c7 (st_neg c9 (st_pos c10 rfl)))))))))))
    by_cases c11 : p2 = (8 : Int32)
    · refine wk_top c11 ?_
      refine wk_tableIn (off := 158) (tgt := 173) F dX5_volumeOf_15 (by decide) (by decide) (by decide) (by decide) ?_
      refine wk_aload_n F dX5_volumeOf_173 rfl 0 rfl (pc' := 174) rfl ?_
      refine wk_perm (w' := (wTvo ha hq) ++ ((wPool cI (hq 0) (Z 0)) ++ ((wHist cP ha hq (Z 8)) ++ ((wPool cI (hq 1) (Z 1)) ++ ((wPool cI (hq 2) (Z 2)) ++ ((wPool cI (hq 3) (Z 3)) ++ ((wPool cI (hq 4) (Z 4)) ++ ((wPool cI (hq 5) (Z 5)) ++ ((wText cI (hq 7) (Z 7)) ++ ((wReh ha hq (Z 9)) ++ ((wPool cI (hq 6) (Z 6)) ++ []))))))))))) ((List.Perm.append_left _ (List.Perm.refl _)).trans (List.perm_append_comm_assoc _ _ _)) ?_
      refine wk_get (C := RX5) (T := TX5) (N := 4) F 0 rfl rfl k_5 0 (Nat.le_of_ble_eq_true rfl) w_1 rfl dX5_volumeOf_174 (pc' := 177) rfl ?_
      refine wk_perm (w' := (wPool cI (hq 0) (Z 0)) ++ ((wTvo ha hq) ++ ((wHist cP ha hq (Z 8)) ++ ((wPool cI (hq 1) (Z 1)) ++ ((wPool cI (hq 2) (Z 2)) ++ ((wPool cI (hq 3) (Z 3)) ++ ((wPool cI (hq 4) (Z 4)) ++ ((wPool cI (hq 5) (Z 5)) ++ ((wText cI (hq 7) (Z 7)) ++ ((wReh ha hq (Z 9)) ++ ((wPool cI (hq 6) (Z 6)) ++ []))))))))))) ((List.Perm.append_left _ (List.Perm.refl _)).trans (List.perm_append_comm_assoc _ _ _)) ?_
      refine wk_get (C := RX1) (T := TX1) (N := 14) F 0 rfl rfl k_1 4 (Nat.le_of_ble_eq_true rfl) w_8 rfl dX5_volumeOf_177 (pc' := 180) rfl ?_
      refine wk_iload_n F dX5_volumeOf_180 rfl 1 rfl (pc' := 181) rfl ?_
      refine wk_iald F 5 0 rfl rfl (lives_in c1) dX5_volumeOf_181 (pc' := 182) rfl ?_
      refine wk_perm (w' := (wTvo ha hq) ++ ((wPool cI (hq 0) (Z 0)) ++ ((wHist cP ha hq (Z 8)) ++ ((wPool cI (hq 1) (Z 1)) ++ ((wPool cI (hq 2) (Z 2)) ++ ((wPool cI (hq 3) (Z 3)) ++ ((wPool cI (hq 4) (Z 4)) ++ ((wPool cI (hq 5) (Z 5)) ++ ((wText cI (hq 7) (Z 7)) ++ ((wReh ha hq (Z 9)) ++ ((wPool cI (hq 6) (Z 6)) ++ []))))))))))) ((List.Perm.append_left _ (List.Perm.refl _)).trans (List.perm_append_comm_assoc _ _ _)) ?_
      refine wk_w (w' := wTV cI cP ha hq Z) rfl ?_
      exact hret _ _ _ dX5_volumeOf_182 rfl (Eq.symm (by rw [f5_volumeOf] <;> exact (st_neg c1 (st_neg c2 (st_neg c3 (st_neg c4 (st_neg c5 (st_neg c6 (st_neg c7 (st_neg c9 (st_neg c10 (st_pos c11 rfl))))))))))))
    by_cases c12 : p2 = (9 : Int32)
    · refine wk_top c12 ?_
      refine wk_tableIn (off := 168) (tgt := 183) F dX5_volumeOf_15 (by decide) (by decide) (by decide) (by decide) ?_
      refine wk_aload_n F dX5_volumeOf_183 rfl 0 rfl (pc' := 184) rfl ?_
      refine wk_perm (w' := (wTvo ha hq) ++ ((wPool cI (hq 0) (Z 0)) ++ ((wHist cP ha hq (Z 8)) ++ ((wPool cI (hq 1) (Z 1)) ++ ((wPool cI (hq 2) (Z 2)) ++ ((wPool cI (hq 3) (Z 3)) ++ ((wPool cI (hq 4) (Z 4)) ++ ((wPool cI (hq 5) (Z 5)) ++ ((wText cI (hq 7) (Z 7)) ++ ((wReh ha hq (Z 9)) ++ ((wPool cI (hq 6) (Z 6)) ++ []))))))))))) ((List.Perm.append_left _ (List.Perm.refl _)).trans (List.perm_append_comm_assoc _ _ _)) ?_
      refine wk_get (C := RX5) (T := TX5) (N := 4) F 0 rfl rfl k_5 0 (Nat.le_of_ble_eq_true rfl) w_1 rfl dX5_volumeOf_184 (pc' := 187) rfl ?_
      refine wk_perm (w' := (wPool cI (hq 0) (Z 0)) ++ ((wTvo ha hq) ++ ((wHist cP ha hq (Z 8)) ++ ((wPool cI (hq 1) (Z 1)) ++ ((wPool cI (hq 2) (Z 2)) ++ ((wPool cI (hq 3) (Z 3)) ++ ((wPool cI (hq 4) (Z 4)) ++ ((wPool cI (hq 5) (Z 5)) ++ ((wText cI (hq 7) (Z 7)) ++ ((wReh ha hq (Z 9)) ++ ((wPool cI (hq 6) (Z 6)) ++ []))))))))))) ((List.Perm.append_left _ (List.Perm.refl _)).trans (List.perm_append_comm_assoc _ _ _)) ?_
      refine wk_get (C := RX1) (T := TX1) (N := 14) F 0 rfl rfl k_1 5 (Nat.le_of_ble_eq_true rfl) w_9 rfl dX5_volumeOf_187 (pc' := 190) rfl ?_
      refine wk_iload_n F dX5_volumeOf_190 rfl 1 rfl (pc' := 191) rfl ?_
      refine wk_iald F 6 0 rfl rfl (lives_in c1) dX5_volumeOf_191 (pc' := 192) rfl ?_
      refine wk_perm (w' := (wTvo ha hq) ++ ((wPool cI (hq 0) (Z 0)) ++ ((wHist cP ha hq (Z 8)) ++ ((wPool cI (hq 1) (Z 1)) ++ ((wPool cI (hq 2) (Z 2)) ++ ((wPool cI (hq 3) (Z 3)) ++ ((wPool cI (hq 4) (Z 4)) ++ ((wPool cI (hq 5) (Z 5)) ++ ((wText cI (hq 7) (Z 7)) ++ ((wReh ha hq (Z 9)) ++ ((wPool cI (hq 6) (Z 6)) ++ []))))))))))) ((List.Perm.append_left _ (List.Perm.refl _)).trans (List.perm_append_comm_assoc _ _ _)) ?_
      refine wk_w (w' := wTV cI cP ha hq Z) rfl ?_
      exact hret _ _ _ dX5_volumeOf_192 rfl (Eq.symm (by rw [f5_volumeOf] <;> exact (st_neg c1 (st_neg c2 (st_neg c3 (st_neg c4 (st_neg c5 (st_neg c6 (st_neg c7 (st_neg c9 (st_neg c10 (st_neg c11 (st_pos c12 rfl)))))))))))))
    refine wk_tableOut (tgt := 193) F dX5_volumeOf_15 (by have ec2 := ti_ne (k := 0) c2 (by decide); have ec3 := ti_ne (k := 1) c3 (by decide); have ec4 := ti_ne (k := 2) c4 (by decide); have ec5 := ti_ne (k := 3) c5 (by decide); have ec6 := ti_ne (k := 4) c6 (by decide); have ec7 := ti_ne (k := 5) c7 (by decide); have ec9 := ti_ne (k := 6) c9 (by decide); have ec10 := ti_ne (k := 7) c10 (by decide); have ec11 := ti_ne (k := 8) c11 (by decide); have ec12 := ti_ne (k := 9) c12 (by decide); omega) (by decide) ?_
    refine wk_ldc F dX5_volumeOf_193 w_2 (pc' := 195) rfl ?_
    refine wk_perm (w' := (wTvo ha hq) ++ ((wPool cI (hq 0) (Z 0)) ++ ((wHist cP ha hq (Z 8)) ++ ((wPool cI (hq 1) (Z 1)) ++ ((wPool cI (hq 2) (Z 2)) ++ ((wPool cI (hq 3) (Z 3)) ++ ((wPool cI (hq 4) (Z 4)) ++ ((wPool cI (hq 5) (Z 5)) ++ ((wText cI (hq 7) (Z 7)) ++ ((wReh ha hq (Z 9)) ++ ((wPool cI (hq 6) (Z 6)) ++ []))))))))))) ((List.Perm.append_left _ (List.Perm.refl _)).trans (List.perm_append_comm_assoc _ _ _)) ?_
    refine wk_w (w' := wTV cI cP ha hq Z) rfl ?_
    exact hret _ _ _ dX5_volumeOf_195 rfl (Eq.symm (by rw [f5_volumeOf] <;> exact (st_neg c1 (st_neg c2 (st_neg c3 (st_neg c4 (st_neg c5 (st_neg c6 (st_neg c7 (st_neg c9 (st_neg c10 (st_neg c11 (st_neg c12 rfl)))))))))))))
  · refine wk_ldc F dX5_volumeOf_11 w_2 (pc' := 13) rfl ?_
    refine wk_perm (w' := (wTvo ha hq) ++ ((wPool cI (hq 0) (Z 0)) ++ ((wHist cP ha hq (Z 8)) ++ ((wPool cI (hq 1) (Z 1)) ++ ((wPool cI (hq 2) (Z 2)) ++ ((wPool cI (hq 3) (Z 3)) ++ ((wPool cI (hq 4) (Z 4)) ++ ((wPool cI (hq 5) (Z 5)) ++ ((wText cI (hq 7) (Z 7)) ++ ((wReh ha hq (Z 9)) ++ ((wPool cI (hq 6) (Z 6)) ++ []))))))))))) ((List.Perm.append_left _ (List.Perm.refl _)).trans (List.perm_append_comm_assoc _ _ _)) ?_
    refine wk_w (w' := wTV cI cP ha hq Z) rfl ?_
    exact hret _ _ _ dX5_volumeOf_13 rfl (Eq.symm (by rw [f5_volumeOf] <;> exact (st_pos c1 rfl)))
def f5_pieceOf (Z : ST) (p1 : Int32) (p2 : Int32) : Int32 := (if (f1_isPiece (Z 0) p1) = 0 then (-1000001 : Int32) else (if p2 < 0 then (-1000001 : Int32) else (if p2 ≤ (2 : Int32) then (if ((Z 0) 8 p1.toNatClampNeg) = 0 then (-1000004 : Int32) else (if p2 = (0 : Int32) then (Z 0) 7 p1.toNatClampNeg else (if p2 = (1 : Int32) then (Z 0) 8 p1.toNatClampNeg else f1_volumesThatOwn (Z 0) p1))) else (-1000001 : Int32))))
set_option maxHeartbeats 4000000 in
set_option maxRecDepth 100000 in
theorem c5_pieceOf (l : Launch) (D : va_G) (cI cP : ClassId) (ha : Nat → Nat) (hq : Nat → Nat → Nat) (Z : ST) (p1 : Int32) (p2 : Int32) : CP l yX5_pieceOf wsX5_pieceOf ({ frames := 4, cells := 0, slots := 0, locals := 89 } : Room) D (cty cI cP) (wTV cI cP ha hq) Z [.ref (ha 0), .int p1, .int p2] (f5_pieceOf Z p1 p2) := by
  refine CP.of (cc := cX5_pieceOf) (maxL := 3) (rt := .int) (own := RX5) (lv0 := [(0, .ref (ha 0)), (1, .int p1), (2, .int p2)]) pnX5 rfl rfl (Nat.le_of_ble_eq_true rfl) rfl (fun p e s m args below meth c A Q F hret => ?_)
  have w_1 := F.at (x := Cond.fieldLink RX5 12 "ThinVolumes" "pool" "LThinVolumes$Pool;") 1 rfl
  have w_2 := F.at (x := Cond.constant RX5 79 (-1000001)) 2 rfl
  have w_3 := F.at (x := Cond.fieldLink RX5 125 "ThinVolumes$Pool" "owners" "[I") 3 rfl
  have w_5 := F.at (x := Cond.fieldLink RX5 128 "ThinVolumes$Pool" "values" "[I") 5 rfl
  have w_4 := F.at (x := Cond.constant RX5 86 (-1000004)) 4 rfl
  refine wk_w (w' := (wTvo ha hq) ++ ((wPool cI (hq 0) (Z 0)) ++ ((wHist cP ha hq (Z 8)) ++ ((wPool cI (hq 1) (Z 1)) ++ ((wPool cI (hq 2) (Z 2)) ++ ((wPool cI (hq 3) (Z 3)) ++ ((wPool cI (hq 4) (Z 4)) ++ ((wPool cI (hq 5) (Z 5)) ++ ((wText cI (hq 7) (Z 7)) ++ ((wReh ha hq (Z 9)) ++ ((wPool cI (hq 6) (Z 6)) ++ []))))))))))) rfl ?_
  have k_1 : ∀ w ∈ wsX10, w ∈ wsX5_pieceOf := fun _ h => List.mem_cons_of_mem _ (List.mem_append_right _ (h))
  have k_5 : ∀ w ∈ wsX50, w ∈ wsX5_pieceOf := fun _ h => List.mem_cons_of_mem _ (List.mem_append_left _ (List.mem_append_right _ (h)))
  refine wk_aload_n F dX5_pieceOf_0 rfl 0 rfl (pc' := 1) rfl ?_
  refine wk_get (C := RX5) (T := TX5) (N := 4) F 0 rfl rfl k_5 0 (Nat.le_of_ble_eq_true rfl) w_1 rfl dX5_pieceOf_1 (pc' := 4) rfl ?_
  refine wk_iload_n F dX5_pieceOf_4 rfl 1 rfl (pc' := 5) rfl ?_
  refine wk_perm (w' := (wPool cI (hq 0) (Z 0)) ++ ((wTvo ha hq) ++ ((wHist cP ha hq (Z 8)) ++ ((wPool cI (hq 1) (Z 1)) ++ ((wPool cI (hq 2) (Z 2)) ++ ((wPool cI (hq 3) (Z 3)) ++ ((wPool cI (hq 4) (Z 4)) ++ ((wPool cI (hq 5) (Z 5)) ++ ((wText cI (hq 7) (Z 7)) ++ ((wReh ha hq (Z 9)) ++ ((wPool cI (hq 6) (Z 6)) ++ []))))))))))) ((List.Perm.append_left _ (List.Perm.refl _)).trans (List.perm_append_comm_assoc _ _ _)) ?_
  refine wk_fr_p F (c1_isPiece l D cI cP (hq 0) (Z 0) p1) (cwV 1 F.hts gX5_pieceOf_X1_isPiece rfl rfl rfl hdX1_isPiece ⟨Nat.le_of_ble_eq_true rfl, Nat.le_of_ble_eq_true rfl⟩) 0 1 rfl rfl rfl rfl (Nat.le_of_ble_eq_true rfl) dX5_pieceOf_5 ⟨Nat.zero_le _, Nat.zero_le _⟩ (pc' := 8) rfl ?_
  refine wk_if_eq (tgt := 20) F dX5_pieceOf_8 (by decide) (pc' := 11) rfl (fun c1 => ?_) (fun c1 => ?_)
  · refine wk_ldc F dX5_pieceOf_20 w_2 (pc' := 22) rfl ?_
    refine wk_perm (w' := (wTvo ha hq) ++ ((wPool cI (hq 0) (Z 0)) ++ ((wHist cP ha hq (Z 8)) ++ ((wPool cI (hq 1) (Z 1)) ++ ((wPool cI (hq 2) (Z 2)) ++ ((wPool cI (hq 3) (Z 3)) ++ ((wPool cI (hq 4) (Z 4)) ++ ((wPool cI (hq 5) (Z 5)) ++ ((wText cI (hq 7) (Z 7)) ++ ((wReh ha hq (Z 9)) ++ ((wPool cI (hq 6) (Z 6)) ++ []))))))))))) ((List.Perm.append_left _ (List.Perm.refl _)).trans (List.perm_append_comm_assoc _ _ _)) ?_
    refine wk_w (w' := wTV cI cP ha hq Z) rfl ?_
    exact hret _ _ _ dX5_pieceOf_22 rfl (Eq.symm (by rw [f5_pieceOf] <;> exact (st_pos c1 rfl)))
  · refine wk_iload_n F dX5_pieceOf_11 rfl 2 rfl (pc' := 12) rfl ?_
    refine wk_if_lt (tgt := 20) F dX5_pieceOf_12 (by decide) (pc' := 15) rfl (fun c2 => ?_) (fun c2 => ?_)
    · refine wk_ldc F dX5_pieceOf_20 w_2 (pc' := 22) rfl ?_
      refine wk_perm (w' := (wTvo ha hq) ++ ((wPool cI (hq 0) (Z 0)) ++ ((wHist cP ha hq (Z 8)) ++ ((wPool cI (hq 1) (Z 1)) ++ ((wPool cI (hq 2) (Z 2)) ++ ((wPool cI (hq 3) (Z 3)) ++ ((wPool cI (hq 4) (Z 4)) ++ ((wPool cI (hq 5) (Z 5)) ++ ((wText cI (hq 7) (Z 7)) ++ ((wReh ha hq (Z 9)) ++ ((wPool cI (hq 6) (Z 6)) ++ []))))))))))) ((List.Perm.append_left _ (List.Perm.refl _)).trans (List.perm_append_comm_assoc _ _ _)) ?_
      refine wk_w (w' := wTV cI cP ha hq Z) rfl ?_
      exact hret _ _ _ dX5_pieceOf_22 rfl (Eq.symm (by rw [f5_pieceOf] <;> exact (st_neg c1 (st_pos c2 rfl))))
    · refine wk_iload_n F dX5_pieceOf_15 rfl 2 rfl (pc' := 16) rfl ?_
      refine wk_iconst F dX5_pieceOf_16 ic_2 (pc' := 17) rfl ?_
      refine wk_icmp_le (tgt := 23) F dX5_pieceOf_17 (by decide) (pc' := 20) rfl (fun c3 => ?_) (fun c3 => ?_)
      · refine wk_aload_n F dX5_pieceOf_23 rfl 0 rfl (pc' := 24) rfl ?_
        refine wk_perm (w' := (wTvo ha hq) ++ ((wPool cI (hq 0) (Z 0)) ++ ((wHist cP ha hq (Z 8)) ++ ((wPool cI (hq 1) (Z 1)) ++ ((wPool cI (hq 2) (Z 2)) ++ ((wPool cI (hq 3) (Z 3)) ++ ((wPool cI (hq 4) (Z 4)) ++ ((wPool cI (hq 5) (Z 5)) ++ ((wText cI (hq 7) (Z 7)) ++ ((wReh ha hq (Z 9)) ++ ((wPool cI (hq 6) (Z 6)) ++ []))))))))))) ((List.Perm.append_left _ (List.Perm.refl _)).trans (List.perm_append_comm_assoc _ _ _)) ?_
        refine wk_get (C := RX5) (T := TX5) (N := 4) F 0 rfl rfl k_5 0 (Nat.le_of_ble_eq_true rfl) w_1 rfl dX5_pieceOf_24 (pc' := 27) rfl ?_
        refine wk_perm (w' := (wPool cI (hq 0) (Z 0)) ++ ((wTvo ha hq) ++ ((wHist cP ha hq (Z 8)) ++ ((wPool cI (hq 1) (Z 1)) ++ ((wPool cI (hq 2) (Z 2)) ++ ((wPool cI (hq 3) (Z 3)) ++ ((wPool cI (hq 4) (Z 4)) ++ ((wPool cI (hq 5) (Z 5)) ++ ((wText cI (hq 7) (Z 7)) ++ ((wReh ha hq (Z 9)) ++ ((wPool cI (hq 6) (Z 6)) ++ []))))))))))) ((List.Perm.append_left _ (List.Perm.refl _)).trans (List.perm_append_comm_assoc _ _ _)) ?_
        refine wk_get (C := RX1) (T := TX1) (N := 14) F 0 rfl rfl k_1 8 (Nat.le_of_ble_eq_true rfl) w_3 rfl dX5_pieceOf_27 (pc' := 30) rfl ?_
        refine wk_iload_n F dX5_pieceOf_30 rfl 1 rfl (pc' := 31) rfl ?_
        refine wk_iald F 9 0 rfl rfl (isPiece_in c1) dX5_pieceOf_31 (pc' := 32) rfl ?_
        refine wk_if_ne (tgt := 38) F dX5_pieceOf_32 (by decide) (pc' := 35) rfl (fun c4 => ?_) (fun c4 => ?_)
        · refine wk_iload_n F dX5_pieceOf_38 rfl 2 rfl (pc' := 39) rfl ?_
          by_cases c5 : p2 = (0 : Int32)
          · refine wk_top c5 ?_
            refine wk_lookup (off := 25) (tgt := 64) F dX5_pieceOf_39 (by decide) (by decide) (by decide) ?_
            refine wk_aload_n F dX5_pieceOf_64 rfl 0 rfl (pc' := 65) rfl ?_
            refine wk_perm (w' := (wTvo ha hq) ++ ((wPool cI (hq 0) (Z 0)) ++ ((wHist cP ha hq (Z 8)) ++ ((wPool cI (hq 1) (Z 1)) ++ ((wPool cI (hq 2) (Z 2)) ++ ((wPool cI (hq 3) (Z 3)) ++ ((wPool cI (hq 4) (Z 4)) ++ ((wPool cI (hq 5) (Z 5)) ++ ((wText cI (hq 7) (Z 7)) ++ ((wReh ha hq (Z 9)) ++ ((wPool cI (hq 6) (Z 6)) ++ []))))))))))) ((List.Perm.append_left _ (List.Perm.refl _)).trans (List.perm_append_comm_assoc _ _ _)) ?_
            refine wk_get (C := RX5) (T := TX5) (N := 4) F 0 rfl rfl k_5 0 (Nat.le_of_ble_eq_true rfl) w_1 rfl dX5_pieceOf_65 (pc' := 68) rfl ?_
            refine wk_perm (w' := (wPool cI (hq 0) (Z 0)) ++ ((wTvo ha hq) ++ ((wHist cP ha hq (Z 8)) ++ ((wPool cI (hq 1) (Z 1)) ++ ((wPool cI (hq 2) (Z 2)) ++ ((wPool cI (hq 3) (Z 3)) ++ ((wPool cI (hq 4) (Z 4)) ++ ((wPool cI (hq 5) (Z 5)) ++ ((wText cI (hq 7) (Z 7)) ++ ((wReh ha hq (Z 9)) ++ ((wPool cI (hq 6) (Z 6)) ++ []))))))))))) ((List.Perm.append_left _ (List.Perm.refl _)).trans (List.perm_append_comm_assoc _ _ _)) ?_
            refine wk_get (C := RX1) (T := TX1) (N := 14) F 0 rfl rfl k_1 7 (Nat.le_of_ble_eq_true rfl) w_5 rfl dX5_pieceOf_68 (pc' := 71) rfl ?_
            refine wk_iload_n F dX5_pieceOf_71 rfl 1 rfl (pc' := 72) rfl ?_
            refine wk_iald F 8 0 rfl rfl (isPiece_in c1) dX5_pieceOf_72 (pc' := 73) rfl ?_
            refine wk_perm (w' := (wTvo ha hq) ++ ((wPool cI (hq 0) (Z 0)) ++ ((wHist cP ha hq (Z 8)) ++ ((wPool cI (hq 1) (Z 1)) ++ ((wPool cI (hq 2) (Z 2)) ++ ((wPool cI (hq 3) (Z 3)) ++ ((wPool cI (hq 4) (Z 4)) ++ ((wPool cI (hq 5) (Z 5)) ++ ((wText cI (hq 7) (Z 7)) ++ ((wReh ha hq (Z 9)) ++ ((wPool cI (hq 6) (Z 6)) ++ []))))))))))) ((List.Perm.append_left _ (List.Perm.refl _)).trans (List.perm_append_comm_assoc _ _ _)) ?_
            refine wk_w (w' := wTV cI cP ha hq Z) rfl ?_
            exact hret _ _ _ dX5_pieceOf_73 rfl (Eq.symm (by rw [f5_pieceOf] <;> exact (st_neg c1 (st_neg c2 (st_pos c3 (st_neg c4 (st_pos c5 rfl)))))))
          by_cases c6 : p2 = (1 : Int32)
          · refine wk_top c6 ?_
            refine wk_lookup (off := 35) (tgt := 74) F dX5_pieceOf_39 (by decide) (by decide) (by decide) ?_
            refine wk_aload_n F dX5_pieceOf_74 rfl 0 rfl (pc' := 75) rfl ?_
            refine wk_perm (w' := (wTvo ha hq) ++ ((wPool cI (hq 0) (Z 0)) ++ ((wHist cP ha hq (Z 8)) ++ ((wPool cI (hq 1) (Z 1)) ++ ((wPool cI (hq 2) (Z 2)) ++ ((wPool cI (hq 3) (Z 3)) ++ ((wPool cI (hq 4) (Z 4)) ++ ((wPool cI (hq 5) (Z 5)) ++ ((wText cI (hq 7) (Z 7)) ++ ((wReh ha hq (Z 9)) ++ ((wPool cI (hq 6) (Z 6)) ++ []))))))))))) ((List.Perm.append_left _ (List.Perm.refl _)).trans (List.perm_append_comm_assoc _ _ _)) ?_
            refine wk_get (C := RX5) (T := TX5) (N := 4) F 0 rfl rfl k_5 0 (Nat.le_of_ble_eq_true rfl) w_1 rfl dX5_pieceOf_75 (pc' := 78) rfl ?_
            refine wk_perm (w' := (wPool cI (hq 0) (Z 0)) ++ ((wTvo ha hq) ++ ((wHist cP ha hq (Z 8)) ++ ((wPool cI (hq 1) (Z 1)) ++ ((wPool cI (hq 2) (Z 2)) ++ ((wPool cI (hq 3) (Z 3)) ++ ((wPool cI (hq 4) (Z 4)) ++ ((wPool cI (hq 5) (Z 5)) ++ ((wText cI (hq 7) (Z 7)) ++ ((wReh ha hq (Z 9)) ++ ((wPool cI (hq 6) (Z 6)) ++ []))))))))))) ((List.Perm.append_left _ (List.Perm.refl _)).trans (List.perm_append_comm_assoc _ _ _)) ?_
            refine wk_get (C := RX1) (T := TX1) (N := 14) F 0 rfl rfl k_1 8 (Nat.le_of_ble_eq_true rfl) w_3 rfl dX5_pieceOf_78 (pc' := 81) rfl ?_
            refine wk_iload_n F dX5_pieceOf_81 rfl 1 rfl (pc' := 82) rfl ?_
            refine wk_iald F 9 0 rfl rfl (isPiece_in c1) dX5_pieceOf_82 (pc' := 83) rfl ?_
            refine wk_perm (w' := (wTvo ha hq) ++ ((wPool cI (hq 0) (Z 0)) ++ ((wHist cP ha hq (Z 8)) ++ ((wPool cI (hq 1) (Z 1)) ++ ((wPool cI (hq 2) (Z 2)) ++ ((wPool cI (hq 3) (Z 3)) ++ ((wPool cI (hq 4) (Z 4)) ++ ((wPool cI (hq 5) (Z 5)) ++ ((wText cI (hq 7) (Z 7)) ++ ((wReh ha hq (Z 9)) ++ ((wPool cI (hq 6) (Z 6)) ++ []))))))))))) ((List.Perm.append_left _ (List.Perm.refl _)).trans (List.perm_append_comm_assoc _ _ _)) ?_
            refine wk_w (w' := wTV cI cP ha hq Z) rfl ?_
            exact hret _ _ _ dX5_pieceOf_83 rfl (Eq.symm (by rw [f5_pieceOf] <;> exact (st_neg c1 (st_neg c2 (st_pos c3 (st_neg c4 (st_neg c5 (st_pos c6 rfl))))))))
          refine wk_lookup (off := 45) (tgt := 84) F dX5_pieceOf_39 (by decide) (by have ec5 := ti_ne (k := 0) c5 (by decide); have ec6 := ti_ne (k := 1) c6 (by decide); simp [Op.lookupswitch.offset, Ne.symm ec5, Ne.symm ec6]) (by decide) ?_
          refine wk_aload_n F dX5_pieceOf_84 rfl 0 rfl (pc' := 85) rfl ?_
          refine wk_perm (w' := (wTvo ha hq) ++ ((wPool cI (hq 0) (Z 0)) ++ ((wHist cP ha hq (Z 8)) ++ ((wPool cI (hq 1) (Z 1)) ++ ((wPool cI (hq 2) (Z 2)) ++ ((wPool cI (hq 3) (Z 3)) ++ ((wPool cI (hq 4) (Z 4)) ++ ((wPool cI (hq 5) (Z 5)) ++ ((wText cI (hq 7) (Z 7)) ++ ((wReh ha hq (Z 9)) ++ ((wPool cI (hq 6) (Z 6)) ++ []))))))))))) ((List.Perm.append_left _ (List.Perm.refl _)).trans (List.perm_append_comm_assoc _ _ _)) ?_
          refine wk_get (C := RX5) (T := TX5) (N := 4) F 0 rfl rfl k_5 0 (Nat.le_of_ble_eq_true rfl) w_1 rfl dX5_pieceOf_85 (pc' := 88) rfl ?_
          refine wk_iload_n F dX5_pieceOf_88 rfl 1 rfl (pc' := 89) rfl ?_
          refine wk_perm (w' := (wPool cI (hq 0) (Z 0)) ++ ((wTvo ha hq) ++ ((wHist cP ha hq (Z 8)) ++ ((wPool cI (hq 1) (Z 1)) ++ ((wPool cI (hq 2) (Z 2)) ++ ((wPool cI (hq 3) (Z 3)) ++ ((wPool cI (hq 4) (Z 4)) ++ ((wPool cI (hq 5) (Z 5)) ++ ((wText cI (hq 7) (Z 7)) ++ ((wReh ha hq (Z 9)) ++ ((wPool cI (hq 6) (Z 6)) ++ []))))))))))) ((List.Perm.append_left _ (List.Perm.refl _)).trans (List.perm_append_comm_assoc _ _ _)) ?_
          refine wk_fr_p F (c1_volumesThatOwn l D cI cP (hq 0) (Z 0) p1) (cwV 1 F.hts gX5_pieceOf_X1_volumesThatOwn rfl rfl rfl hdX1_volumesThatOwn ⟨Nat.le_of_ble_eq_true rfl, Nat.le_of_ble_eq_true rfl⟩) 0 1 rfl rfl rfl rfl (Nat.le_of_ble_eq_true rfl) dX5_pieceOf_89 ⟨Nat.zero_le _, Nat.zero_le _⟩ (pc' := 92) rfl ?_
          refine wk_perm (w' := (wTvo ha hq) ++ ((wPool cI (hq 0) (Z 0)) ++ ((wHist cP ha hq (Z 8)) ++ ((wPool cI (hq 1) (Z 1)) ++ ((wPool cI (hq 2) (Z 2)) ++ ((wPool cI (hq 3) (Z 3)) ++ ((wPool cI (hq 4) (Z 4)) ++ ((wPool cI (hq 5) (Z 5)) ++ ((wText cI (hq 7) (Z 7)) ++ ((wReh ha hq (Z 9)) ++ ((wPool cI (hq 6) (Z 6)) ++ []))))))))))) ((List.Perm.append_left _ (List.Perm.refl _)).trans (List.perm_append_comm_assoc _ _ _)) ?_
          refine wk_w (w' := wTV cI cP ha hq Z) rfl ?_
          exact hret _ _ _ dX5_pieceOf_92 rfl (Eq.symm (by rw [f5_pieceOf] <;> exact (st_neg c1 (st_neg c2 (st_pos c3 (st_neg c4 (st_neg c5 (st_neg c6 rfl))))))))
        · refine wk_ldc F dX5_pieceOf_35 w_4 (pc' := 37) rfl ?_
          refine wk_perm (w' := (wTvo ha hq) ++ ((wPool cI (hq 0) (Z 0)) ++ ((wHist cP ha hq (Z 8)) ++ ((wPool cI (hq 1) (Z 1)) ++ ((wPool cI (hq 2) (Z 2)) ++ ((wPool cI (hq 3) (Z 3)) ++ ((wPool cI (hq 4) (Z 4)) ++ ((wPool cI (hq 5) (Z 5)) ++ ((wText cI (hq 7) (Z 7)) ++ ((wReh ha hq (Z 9)) ++ ((wPool cI (hq 6) (Z 6)) ++ []))))))))))) ((List.Perm.append_left _ (List.Perm.refl _)).trans (List.perm_append_comm_assoc _ _ _)) ?_
          refine wk_w (w' := wTV cI cP ha hq Z) rfl ?_
          exact hret _ _ _ dX5_pieceOf_37 rfl (Eq.symm (by rw [f5_pieceOf] <;> exact (st_neg c1 (st_neg c2 (st_pos c3 (st_pos c4 rfl))))))
      · refine wk_ldc F dX5_pieceOf_20 w_2 (pc' := 22) rfl ?_
        refine wk_perm (w' := (wTvo ha hq) ++ ((wPool cI (hq 0) (Z 0)) ++ ((wHist cP ha hq (Z 8)) ++ ((wPool cI (hq 1) (Z 1)) ++ ((wPool cI (hq 2) (Z 2)) ++ ((wPool cI (hq 3) (Z 3)) ++ ((wPool cI (hq 4) (Z 4)) ++ ((wPool cI (hq 5) (Z 5)) ++ ((wText cI (hq 7) (Z 7)) ++ ((wReh ha hq (Z 9)) ++ ((wPool cI (hq 6) (Z 6)) ++ []))))))))))) ((List.Perm.append_left _ (List.Perm.refl _)).trans (List.perm_append_comm_assoc _ _ _)) ?_
        refine wk_w (w' := wTV cI cP ha hq Z) rfl ?_
        exact hret _ _ _ dX5_pieceOf_22 rfl (Eq.symm (by rw [f5_pieceOf] <;> exact (st_neg c1 (st_neg c2 (st_neg c3 rfl)))))
def f5_warningOf (Z : ST) (p1 : Int32) (p2 : Int32) : Int32 := (if p1 < 0 then (-1000001 : Int32) else (if p2 < 0 then (-1000001 : Int32) else (if p2 ≤ (2 : Int32) then f4_tell (Z 0) p1 p2 else (-1000001 : Int32))))
set_option maxHeartbeats 4000000 in
set_option maxRecDepth 100000 in
theorem c5_warningOf (l : Launch) (D : va_G) (cI cP : ClassId) (ha : Nat → Nat) (hq : Nat → Nat → Nat) (Z : ST) (p1 : Int32) (p2 : Int32) : CP l yX5_warningOf wsX5_warningOf ({ frames := 1, cells := 0, slots := 0, locals := 22 } : Room) D (cty cI cP) (wTV cI cP ha hq) Z [.ref (ha 0), .int p1, .int p2] (f5_warningOf Z p1 p2) := by
  refine CP.of (cc := cX5_warningOf) (maxL := 3) (rt := .int) (own := RX5) (lv0 := [(0, .ref (ha 0)), (1, .int p1), (2, .int p2)]) pnX5 rfl rfl (Nat.le_of_ble_eq_true rfl) rfl (fun p e s m args below meth c A Q F hret => ?_)
  have w_1 := F.at (x := Cond.constant RX5 79 (-1000001)) 1 rfl
  have w_2 := F.at (x := Cond.fieldLink RX5 12 "ThinVolumes" "pool" "LThinVolumes$Pool;") 2 rfl
  have w_3 := F.at (x := Cond.fieldLink RX5 134 "ThinVolumes$Pool" "warnings" "LThinVolumes$Warnings;") 3 rfl
  refine wk_w (w' := (wTvo ha hq) ++ ((wPool cI (hq 0) (Z 0)) ++ ((wHist cP ha hq (Z 8)) ++ ((wPool cI (hq 1) (Z 1)) ++ ((wPool cI (hq 2) (Z 2)) ++ ((wPool cI (hq 3) (Z 3)) ++ ((wPool cI (hq 4) (Z 4)) ++ ((wPool cI (hq 5) (Z 5)) ++ ((wText cI (hq 7) (Z 7)) ++ ((wReh ha hq (Z 9)) ++ ((wPool cI (hq 6) (Z 6)) ++ []))))))))))) rfl ?_
  have k_1 : ∀ w ∈ wsX10, w ∈ wsX5_warningOf := fun _ h => List.mem_cons_of_mem _ (List.mem_append_left _ (List.mem_append_right _ (h)))
  have k_5 : ∀ w ∈ wsX50, w ∈ wsX5_warningOf := fun _ h => List.mem_cons_of_mem _ (List.mem_append_left _ (List.mem_append_left _ (List.mem_append_right _ (h))))
  refine wk_iload_n F dX5_warningOf_0 rfl 1 rfl (pc' := 1) rfl ?_
  refine wk_if_lt (tgt := 13) F dX5_warningOf_1 (by decide) (pc' := 4) rfl (fun c1 => ?_) (fun c1 => ?_)
  · refine wk_ldc F dX5_warningOf_13 w_1 (pc' := 15) rfl ?_
    refine wk_w (w' := wTV cI cP ha hq Z) rfl ?_
    exact hret _ _ _ dX5_warningOf_15 rfl (Eq.symm (by rw [f5_warningOf] <;> exact (st_pos c1 rfl)))
  · refine wk_iload_n F dX5_warningOf_4 rfl 2 rfl (pc' := 5) rfl ?_
    refine wk_if_lt (tgt := 13) F dX5_warningOf_5 (by decide) (pc' := 8) rfl (fun c2 => ?_) (fun c2 => ?_)
    · refine wk_ldc F dX5_warningOf_13 w_1 (pc' := 15) rfl ?_
      refine wk_w (w' := wTV cI cP ha hq Z) rfl ?_
      exact hret _ _ _ dX5_warningOf_15 rfl (Eq.symm (by rw [f5_warningOf] <;> exact (st_neg c1 (st_pos c2 rfl))))
    · refine wk_iload_n F dX5_warningOf_8 rfl 2 rfl (pc' := 9) rfl ?_
      refine wk_iconst F dX5_warningOf_9 ic_2 (pc' := 10) rfl ?_
      refine wk_icmp_le (tgt := 16) F dX5_warningOf_10 (by decide) (pc' := 13) rfl (fun c3 => ?_) (fun c3 => ?_)
      · refine wk_aload_n F dX5_warningOf_16 rfl 0 rfl (pc' := 17) rfl ?_
        refine wk_get (C := RX5) (T := TX5) (N := 4) F 0 rfl rfl k_5 0 (Nat.le_of_ble_eq_true rfl) w_2 rfl dX5_warningOf_17 (pc' := 20) rfl ?_
        refine wk_perm (w' := (wPool cI (hq 0) (Z 0)) ++ ((wTvo ha hq) ++ ((wHist cP ha hq (Z 8)) ++ ((wPool cI (hq 1) (Z 1)) ++ ((wPool cI (hq 2) (Z 2)) ++ ((wPool cI (hq 3) (Z 3)) ++ ((wPool cI (hq 4) (Z 4)) ++ ((wPool cI (hq 5) (Z 5)) ++ ((wText cI (hq 7) (Z 7)) ++ ((wReh ha hq (Z 9)) ++ ((wPool cI (hq 6) (Z 6)) ++ []))))))))))) ((List.Perm.append_left _ (List.Perm.refl _)).trans (List.perm_append_comm_assoc _ _ _)) ?_
        refine wk_get (C := RX1) (T := TX1) (N := 14) F 0 rfl rfl k_1 10 (Nat.le_of_ble_eq_true rfl) w_3 rfl dX5_warningOf_20 (pc' := 23) rfl ?_
        refine wk_iload_n F dX5_warningOf_23 rfl 1 rfl (pc' := 24) rfl ?_
        refine wk_iload_n F dX5_warningOf_24 rfl 2 rfl (pc' := 25) rfl ?_
        refine wk_perm (w' := wWarn cI (hq 0) (Z 0) ++ (wPool11 cI (hq 0) (Z 0) ++ ((wTvo ha hq) ++ ((wHist cP ha hq (Z 8)) ++ ((wPool cI (hq 1) (Z 1)) ++ ((wPool cI (hq 2) (Z 2)) ++ ((wPool cI (hq 3) (Z 3)) ++ ((wPool cI (hq 4) (Z 4)) ++ ((wPool cI (hq 5) (Z 5)) ++ ((wText cI (hq 7) (Z 7)) ++ ((wReh ha hq (Z 9)) ++ ((wPool cI (hq 6) (Z 6)) ++ [])))))))))))) (List.Perm.trans (List.Perm.of_eq (List.append_assoc (wPool11 cI (hq 0) (Z 0)) (wWarn cI (hq 0) (Z 0)) ((wTvo ha hq) ++ ((wHist cP ha hq (Z 8)) ++ ((wPool cI (hq 1) (Z 1)) ++ ((wPool cI (hq 2) (Z 2)) ++ ((wPool cI (hq 3) (Z 3)) ++ ((wPool cI (hq 4) (Z 4)) ++ ((wPool cI (hq 5) (Z 5)) ++ ((wText cI (hq 7) (Z 7)) ++ ((wReh ha hq (Z 9)) ++ ((wPool cI (hq 6) (Z 6)) ++ [])))))))))))) (List.perm_append_comm_assoc _ _ _)) ?_
        refine wk_fr_p F (c4_tell l D cI cP (hq 0) (Z 0) p1 p2) (cwV 2 F.hts gX5_warningOf_X4_tell rfl rfl rfl hdX4_tell ⟨Nat.le_of_ble_eq_true rfl, Nat.le_of_ble_eq_true rfl⟩) 0 4 rfl rfl rfl rfl (Nat.le_of_ble_eq_true rfl) dX5_warningOf_25 ⟨Nat.zero_le _, Nat.zero_le _⟩ (pc' := 28) rfl ?_
        refine wk_perm (w' := (wPool cI (hq 0) (Z 0)) ++ ((wTvo ha hq) ++ ((wHist cP ha hq (Z 8)) ++ ((wPool cI (hq 1) (Z 1)) ++ ((wPool cI (hq 2) (Z 2)) ++ ((wPool cI (hq 3) (Z 3)) ++ ((wPool cI (hq 4) (Z 4)) ++ ((wPool cI (hq 5) (Z 5)) ++ ((wText cI (hq 7) (Z 7)) ++ ((wReh ha hq (Z 9)) ++ ((wPool cI (hq 6) (Z 6)) ++ []))))))))))) (List.Perm.trans (List.perm_append_comm_assoc _ _ _) (List.Perm.of_eq (List.append_assoc (wPool11 cI (hq 0) (Z 0)) (wWarn cI (hq 0) (Z 0)) ((wTvo ha hq) ++ ((wHist cP ha hq (Z 8)) ++ ((wPool cI (hq 1) (Z 1)) ++ ((wPool cI (hq 2) (Z 2)) ++ ((wPool cI (hq 3) (Z 3)) ++ ((wPool cI (hq 4) (Z 4)) ++ ((wPool cI (hq 5) (Z 5)) ++ ((wText cI (hq 7) (Z 7)) ++ ((wReh ha hq (Z 9)) ++ ((wPool cI (hq 6) (Z 6)) ++ []))))))))))).symm)) ?_
        refine wk_perm (w' := (wTvo ha hq) ++ ((wPool cI (hq 0) (Z 0)) ++ ((wHist cP ha hq (Z 8)) ++ ((wPool cI (hq 1) (Z 1)) ++ ((wPool cI (hq 2) (Z 2)) ++ ((wPool cI (hq 3) (Z 3)) ++ ((wPool cI (hq 4) (Z 4)) ++ ((wPool cI (hq 5) (Z 5)) ++ ((wText cI (hq 7) (Z 7)) ++ ((wReh ha hq (Z 9)) ++ ((wPool cI (hq 6) (Z 6)) ++ []))))))))))) ((List.Perm.append_left _ (List.Perm.refl _)).trans (List.perm_append_comm_assoc _ _ _)) ?_
        refine wk_w (w' := wTV cI cP ha hq Z) rfl ?_
        exact hret _ _ _ dX5_warningOf_28 rfl (Eq.symm (by rw [f5_warningOf] <;> exact (st_neg c1 (st_neg c2 (st_pos c3 rfl)))))
      · refine wk_ldc F dX5_warningOf_13 w_1 (pc' := 15) rfl ?_
        refine wk_w (w' := wTV cI cP ha hq Z) rfl ?_
        exact hret _ _ _ dX5_warningOf_15 rfl (Eq.symm (by rw [f5_warningOf] <;> exact (st_neg c1 (st_neg c2 (st_neg c3 rfl)))))
def f5_couldGet (Z : ST) (p1 : Int32) : Int32 := (if (f1_lives (Z 0) p1) = 0 then (-1000001 : Int32) else f1_piecesInReach (Z 0) p1)
set_option maxHeartbeats 4000000 in
set_option maxRecDepth 100000 in
theorem c5_couldGet (l : Launch) (D : va_G) (cI cP : ClassId) (ha : Nat → Nat) (hq : Nat → Nat → Nat) (Z : ST) (p1 : Int32) : CP l yX5_couldGet wsX5_couldGet ({ frames := 4, cells := 0, slots := 0, locals := 94 } : Room) D (cty cI cP) (wTV cI cP ha hq) Z [.ref (ha 0), .int p1] (f5_couldGet Z p1) := by
  refine CP.of (cc := cX5_couldGet) (maxL := 2) (rt := .int) (own := RX5) (lv0 := [(0, .ref (ha 0)), (1, .int p1)]) pnX5 rfl rfl (Nat.le_of_ble_eq_true rfl) rfl (fun p e s m args below meth c A Q F hret => ?_)
  have w_1 := F.at (x := Cond.fieldLink RX5 12 "ThinVolumes" "pool" "LThinVolumes$Pool;") 1 rfl
  have w_2 := F.at (x := Cond.constant RX5 79 (-1000001)) 2 rfl
  refine wk_w (w' := (wTvo ha hq) ++ ((wPool cI (hq 0) (Z 0)) ++ ((wHist cP ha hq (Z 8)) ++ ((wPool cI (hq 1) (Z 1)) ++ ((wPool cI (hq 2) (Z 2)) ++ ((wPool cI (hq 3) (Z 3)) ++ ((wPool cI (hq 4) (Z 4)) ++ ((wPool cI (hq 5) (Z 5)) ++ ((wText cI (hq 7) (Z 7)) ++ ((wReh ha hq (Z 9)) ++ ((wPool cI (hq 6) (Z 6)) ++ []))))))))))) rfl ?_
  have k_5 : ∀ w ∈ wsX50, w ∈ wsX5_couldGet := fun _ h => List.mem_cons_of_mem _ (List.mem_append_left _ (List.mem_append_right _ (h)))
  refine wk_aload_n F dX5_couldGet_0 rfl 0 rfl (pc' := 1) rfl ?_
  refine wk_get (C := RX5) (T := TX5) (N := 4) F 0 rfl rfl k_5 0 (Nat.le_of_ble_eq_true rfl) w_1 rfl dX5_couldGet_1 (pc' := 4) rfl ?_
  refine wk_iload_n F dX5_couldGet_4 rfl 1 rfl (pc' := 5) rfl ?_
  refine wk_perm (w' := (wPool cI (hq 0) (Z 0)) ++ ((wTvo ha hq) ++ ((wHist cP ha hq (Z 8)) ++ ((wPool cI (hq 1) (Z 1)) ++ ((wPool cI (hq 2) (Z 2)) ++ ((wPool cI (hq 3) (Z 3)) ++ ((wPool cI (hq 4) (Z 4)) ++ ((wPool cI (hq 5) (Z 5)) ++ ((wText cI (hq 7) (Z 7)) ++ ((wReh ha hq (Z 9)) ++ ((wPool cI (hq 6) (Z 6)) ++ []))))))))))) ((List.Perm.append_left _ (List.Perm.refl _)).trans (List.perm_append_comm_assoc _ _ _)) ?_
  refine wk_fr_p F (c1_lives l D cI cP (hq 0) (Z 0) p1) (cwV 1 F.hts gX5_couldGet_X1_lives rfl rfl rfl hdX1_lives ⟨Nat.le_of_ble_eq_true rfl, Nat.le_of_ble_eq_true rfl⟩) 0 1 rfl rfl rfl rfl (Nat.le_of_ble_eq_true rfl) dX5_couldGet_5 ⟨Nat.zero_le _, Nat.zero_le _⟩ (pc' := 8) rfl ?_
  refine wk_if_eq (tgt := 22) F dX5_couldGet_8 (by decide) (pc' := 11) rfl (fun c1 => ?_) (fun c1 => ?_)
  · refine wk_ldc F dX5_couldGet_22 w_2 (pc' := 24) rfl ?_
    refine wk_perm (w' := (wTvo ha hq) ++ ((wPool cI (hq 0) (Z 0)) ++ ((wHist cP ha hq (Z 8)) ++ ((wPool cI (hq 1) (Z 1)) ++ ((wPool cI (hq 2) (Z 2)) ++ ((wPool cI (hq 3) (Z 3)) ++ ((wPool cI (hq 4) (Z 4)) ++ ((wPool cI (hq 5) (Z 5)) ++ ((wText cI (hq 7) (Z 7)) ++ ((wReh ha hq (Z 9)) ++ ((wPool cI (hq 6) (Z 6)) ++ []))))))))))) ((List.Perm.append_left _ (List.Perm.refl _)).trans (List.perm_append_comm_assoc _ _ _)) ?_
    refine wk_w (w' := wTV cI cP ha hq Z) rfl ?_
    exact hret _ _ _ dX5_couldGet_24 rfl (Eq.symm (by rw [f5_couldGet] <;> exact (st_pos c1 rfl)))
  · refine wk_aload_n F dX5_couldGet_11 rfl 0 rfl (pc' := 12) rfl ?_
    refine wk_perm (w' := (wTvo ha hq) ++ ((wPool cI (hq 0) (Z 0)) ++ ((wHist cP ha hq (Z 8)) ++ ((wPool cI (hq 1) (Z 1)) ++ ((wPool cI (hq 2) (Z 2)) ++ ((wPool cI (hq 3) (Z 3)) ++ ((wPool cI (hq 4) (Z 4)) ++ ((wPool cI (hq 5) (Z 5)) ++ ((wText cI (hq 7) (Z 7)) ++ ((wReh ha hq (Z 9)) ++ ((wPool cI (hq 6) (Z 6)) ++ []))))))))))) ((List.Perm.append_left _ (List.Perm.refl _)).trans (List.perm_append_comm_assoc _ _ _)) ?_
    refine wk_get (C := RX5) (T := TX5) (N := 4) F 0 rfl rfl k_5 0 (Nat.le_of_ble_eq_true rfl) w_1 rfl dX5_couldGet_12 (pc' := 15) rfl ?_
    refine wk_iload_n F dX5_couldGet_15 rfl 1 rfl (pc' := 16) rfl ?_
    refine wk_perm (w' := (wPool cI (hq 0) (Z 0)) ++ ((wTvo ha hq) ++ ((wHist cP ha hq (Z 8)) ++ ((wPool cI (hq 1) (Z 1)) ++ ((wPool cI (hq 2) (Z 2)) ++ ((wPool cI (hq 3) (Z 3)) ++ ((wPool cI (hq 4) (Z 4)) ++ ((wPool cI (hq 5) (Z 5)) ++ ((wText cI (hq 7) (Z 7)) ++ ((wReh ha hq (Z 9)) ++ ((wPool cI (hq 6) (Z 6)) ++ []))))))))))) ((List.Perm.append_left _ (List.Perm.refl _)).trans (List.perm_append_comm_assoc _ _ _)) ?_
    refine wk_fr_p F (c1_piecesInReach l D cI cP (hq 0) (Z 0) p1) (cwV 1 F.hts gX5_couldGet_X1_piecesInReach rfl rfl rfl hdX1_piecesInReach ⟨Nat.le_of_ble_eq_true rfl, Nat.le_of_ble_eq_true rfl⟩) 0 1 rfl rfl rfl rfl (Nat.le_of_ble_eq_true rfl) dX5_couldGet_16 ⟨Nat.zero_le _, Nat.zero_le _⟩ (pc' := 19) rfl ?_
    refine wk_goto (tgt := 24) F dX5_couldGet_19 (by decide) ?_
    refine wk_perm (w' := (wTvo ha hq) ++ ((wPool cI (hq 0) (Z 0)) ++ ((wHist cP ha hq (Z 8)) ++ ((wPool cI (hq 1) (Z 1)) ++ ((wPool cI (hq 2) (Z 2)) ++ ((wPool cI (hq 3) (Z 3)) ++ ((wPool cI (hq 4) (Z 4)) ++ ((wPool cI (hq 5) (Z 5)) ++ ((wText cI (hq 7) (Z 7)) ++ ((wReh ha hq (Z 9)) ++ ((wPool cI (hq 6) (Z 6)) ++ []))))))))))) ((List.Perm.append_left _ (List.Perm.refl _)).trans (List.perm_append_comm_assoc _ _ _)) ?_
    refine wk_w (w' := wTV cI cP ha hq Z) rfl ?_
    exact hret _ _ _ dX5_couldGet_24 rfl (Eq.symm (by rw [f5_couldGet] <;> exact (st_neg c1 rfl)))
def f5_family (Z : ST) (p1 : Int32) (p2 : Int32) : Int32 := (if (f1_lives (Z 0) p1) = 0 then (-1000001 : Int32) else (if p2 = (0 : Int32) then f1_familyOf (Z 0) p1 else (if p2 = (1 : Int32) then f1_piecesOwnedOnlyBy (Z 0) (f1_familyOf (Z 0) p1) else (if p2 = (2 : Int32) then f1_longestLineFrom (Z 0) p1 else (-1000001 : Int32)))))
set_option maxHeartbeats 4000000 in
set_option maxRecDepth 100000 in
theorem c5_family (l : Launch) (D : va_G) (cI cP : ClassId) (ha : Nat → Nat) (hq : Nat → Nat → Nat) (Z : ST) (p1 : Int32) (p2 : Int32) : CP l yX5_family wsX5_family ({ frames := 5, cells := 0, slots := 0, locals := 112 } : Room) D (cty cI cP) (wTV cI cP ha hq) Z [.ref (ha 0), .int p1, .int p2] (f5_family Z p1 p2) := by
  refine CP.of (cc := cX5_family) (maxL := 3) (rt := .int) (own := RX5) (lv0 := [(0, .ref (ha 0)), (1, .int p1), (2, .int p2)]) pnX5 rfl rfl (Nat.le_of_ble_eq_true rfl) rfl (fun p e s m args below meth c A Q F hret => ?_)
  have w_1 := F.at (x := Cond.fieldLink RX5 12 "ThinVolumes" "pool" "LThinVolumes$Pool;") 1 rfl
  have w_2 := F.at (x := Cond.constant RX5 79 (-1000001)) 2 rfl
  refine wk_w (w' := (wTvo ha hq) ++ ((wPool cI (hq 0) (Z 0)) ++ ((wHist cP ha hq (Z 8)) ++ ((wPool cI (hq 1) (Z 1)) ++ ((wPool cI (hq 2) (Z 2)) ++ ((wPool cI (hq 3) (Z 3)) ++ ((wPool cI (hq 4) (Z 4)) ++ ((wPool cI (hq 5) (Z 5)) ++ ((wText cI (hq 7) (Z 7)) ++ ((wReh ha hq (Z 9)) ++ ((wPool cI (hq 6) (Z 6)) ++ []))))))))))) rfl ?_
  have k_5 : ∀ w ∈ wsX50, w ∈ wsX5_family := fun _ h => List.mem_cons_of_mem _ (List.mem_append_left _ (List.mem_append_right _ (h)))
  refine wk_aload_n F dX5_family_0 rfl 0 rfl (pc' := 1) rfl ?_
  refine wk_get (C := RX5) (T := TX5) (N := 4) F 0 rfl rfl k_5 0 (Nat.le_of_ble_eq_true rfl) w_1 rfl dX5_family_1 (pc' := 4) rfl ?_
  refine wk_iload_n F dX5_family_4 rfl 1 rfl (pc' := 5) rfl ?_
  refine wk_perm (w' := (wPool cI (hq 0) (Z 0)) ++ ((wTvo ha hq) ++ ((wHist cP ha hq (Z 8)) ++ ((wPool cI (hq 1) (Z 1)) ++ ((wPool cI (hq 2) (Z 2)) ++ ((wPool cI (hq 3) (Z 3)) ++ ((wPool cI (hq 4) (Z 4)) ++ ((wPool cI (hq 5) (Z 5)) ++ ((wText cI (hq 7) (Z 7)) ++ ((wReh ha hq (Z 9)) ++ ((wPool cI (hq 6) (Z 6)) ++ []))))))))))) ((List.Perm.append_left _ (List.Perm.refl _)).trans (List.perm_append_comm_assoc _ _ _)) ?_
  refine wk_fr_p F (c1_lives l D cI cP (hq 0) (Z 0) p1) (cwV 1 F.hts gX5_family_X1_lives rfl rfl rfl hdX1_lives ⟨Nat.le_of_ble_eq_true rfl, Nat.le_of_ble_eq_true rfl⟩) 0 1 rfl rfl rfl rfl (Nat.le_of_ble_eq_true rfl) dX5_family_5 ⟨Nat.zero_le _, Nat.zero_le _⟩ (pc' := 8) rfl ?_
  refine wk_if_ne (tgt := 14) F dX5_family_8 (by decide) (pc' := 11) rfl (fun c1 => ?_) (fun c1 => ?_)
  · refine wk_iload_n F dX5_family_14 rfl 2 rfl (pc' := 15) rfl ?_
    by_cases c2 : p2 = (0 : Int32)
    · refine wk_top c2 ?_
      refine wk_tableIn (off := 25) (tgt := 40) F dX5_family_15 (by decide) (by decide) (by decide) (by decide) ?_
      refine wk_aload_n F dX5_family_40 rfl 0 rfl (pc' := 41) rfl ?_
      refine wk_perm (w' := (wTvo ha hq) ++ ((wPool cI (hq 0) (Z 0)) ++ ((wHist cP ha hq (Z 8)) ++ ((wPool cI (hq 1) (Z 1)) ++ ((wPool cI (hq 2) (Z 2)) ++ ((wPool cI (hq 3) (Z 3)) ++ ((wPool cI (hq 4) (Z 4)) ++ ((wPool cI (hq 5) (Z 5)) ++ ((wText cI (hq 7) (Z 7)) ++ ((wReh ha hq (Z 9)) ++ ((wPool cI (hq 6) (Z 6)) ++ []))))))))))) ((List.Perm.append_left _ (List.Perm.refl _)).trans (List.perm_append_comm_assoc _ _ _)) ?_
      refine wk_get (C := RX5) (T := TX5) (N := 4) F 0 rfl rfl k_5 0 (Nat.le_of_ble_eq_true rfl) w_1 rfl dX5_family_41 (pc' := 44) rfl ?_
      refine wk_iload_n F dX5_family_44 rfl 1 rfl (pc' := 45) rfl ?_
      refine wk_perm (w' := (wPool cI (hq 0) (Z 0)) ++ ((wTvo ha hq) ++ ((wHist cP ha hq (Z 8)) ++ ((wPool cI (hq 1) (Z 1)) ++ ((wPool cI (hq 2) (Z 2)) ++ ((wPool cI (hq 3) (Z 3)) ++ ((wPool cI (hq 4) (Z 4)) ++ ((wPool cI (hq 5) (Z 5)) ++ ((wText cI (hq 7) (Z 7)) ++ ((wReh ha hq (Z 9)) ++ ((wPool cI (hq 6) (Z 6)) ++ []))))))))))) ((List.Perm.append_left _ (List.Perm.refl _)).trans (List.perm_append_comm_assoc _ _ _)) ?_
      refine wk_fr_p F (c1_familyOf l D cI cP (hq 0) (Z 0) p1) (cwV 1 F.hts gX5_family_X1_familyOf rfl rfl rfl hdX1_familyOf ⟨Nat.le_of_ble_eq_true rfl, Nat.le_of_ble_eq_true rfl⟩) 0 1 rfl rfl rfl rfl (Nat.le_of_ble_eq_true rfl) dX5_family_45 ⟨Nat.zero_le _, Nat.zero_le _⟩ (pc' := 48) rfl ?_
      refine wk_perm (w' := (wTvo ha hq) ++ ((wPool cI (hq 0) (Z 0)) ++ ((wHist cP ha hq (Z 8)) ++ ((wPool cI (hq 1) (Z 1)) ++ ((wPool cI (hq 2) (Z 2)) ++ ((wPool cI (hq 3) (Z 3)) ++ ((wPool cI (hq 4) (Z 4)) ++ ((wPool cI (hq 5) (Z 5)) ++ ((wText cI (hq 7) (Z 7)) ++ ((wReh ha hq (Z 9)) ++ ((wPool cI (hq 6) (Z 6)) ++ []))))))))))) ((List.Perm.append_left _ (List.Perm.refl _)).trans (List.perm_append_comm_assoc _ _ _)) ?_
      refine wk_w (w' := wTV cI cP ha hq Z) rfl ?_
      exact hret _ _ _ dX5_family_48 rfl (Eq.symm (by rw [f5_family] <;> exact (st_neg c1 (st_pos c2 rfl))))
    by_cases c3 : p2 = (1 : Int32)
    · refine wk_top c3 ?_
      refine wk_tableIn (off := 34) (tgt := 49) F dX5_family_15 (by decide) (by decide) (by decide) (by decide) ?_
      refine wk_aload_n F dX5_family_49 rfl 0 rfl (pc' := 50) rfl ?_
      refine wk_perm (w' := (wTvo ha hq) ++ ((wPool cI (hq 0) (Z 0)) ++ ((wHist cP ha hq (Z 8)) ++ ((wPool cI (hq 1) (Z 1)) ++ ((wPool cI (hq 2) (Z 2)) ++ ((wPool cI (hq 3) (Z 3)) ++ ((wPool cI (hq 4) (Z 4)) ++ ((wPool cI (hq 5) (Z 5)) ++ ((wText cI (hq 7) (Z 7)) ++ ((wReh ha hq (Z 9)) ++ ((wPool cI (hq 6) (Z 6)) ++ []))))))))))) ((List.Perm.append_left _ (List.Perm.refl _)).trans (List.perm_append_comm_assoc _ _ _)) ?_
      refine wk_get (C := RX5) (T := TX5) (N := 4) F 0 rfl rfl k_5 0 (Nat.le_of_ble_eq_true rfl) w_1 rfl dX5_family_50 (pc' := 53) rfl ?_
      refine wk_aload_n F dX5_family_53 rfl 0 rfl (pc' := 54) rfl ?_
      refine wk_get (C := RX5) (T := TX5) (N := 4) F 0 rfl rfl k_5 0 (Nat.le_of_ble_eq_true rfl) w_1 rfl dX5_family_54 (pc' := 57) rfl ?_
      refine wk_iload_n F dX5_family_57 rfl 1 rfl (pc' := 58) rfl ?_
      refine wk_perm (w' := (wPool cI (hq 0) (Z 0)) ++ ((wTvo ha hq) ++ ((wHist cP ha hq (Z 8)) ++ ((wPool cI (hq 1) (Z 1)) ++ ((wPool cI (hq 2) (Z 2)) ++ ((wPool cI (hq 3) (Z 3)) ++ ((wPool cI (hq 4) (Z 4)) ++ ((wPool cI (hq 5) (Z 5)) ++ ((wText cI (hq 7) (Z 7)) ++ ((wReh ha hq (Z 9)) ++ ((wPool cI (hq 6) (Z 6)) ++ []))))))))))) ((List.Perm.append_left _ (List.Perm.refl _)).trans (List.perm_append_comm_assoc _ _ _)) ?_
      refine wk_fr_p F (c1_familyOf l D cI cP (hq 0) (Z 0) p1) (cwV 1 F.hts gX5_family_X1_familyOf rfl rfl rfl hdX1_familyOf ⟨Nat.le_of_ble_eq_true rfl, Nat.le_of_ble_eq_true rfl⟩) 0 1 rfl rfl rfl rfl (Nat.le_of_ble_eq_true rfl) dX5_family_58 ⟨Nat.zero_le _, Nat.zero_le _⟩ (pc' := 61) rfl ?_
      refine wk_fr_p F (c1_piecesOwnedOnlyBy l D cI cP (hq 0) (Z 0) (f1_familyOf (Z 0) p1)) (cwV 1 F.hts gX5_family_X1_piecesOwnedOnlyBy rfl rfl rfl hdX1_piecesOwnedOnlyBy ⟨Nat.le_of_ble_eq_true rfl, Nat.le_of_ble_eq_true rfl⟩) 0 1 rfl rfl rfl rfl (Nat.le_of_ble_eq_true rfl) dX5_family_61 ⟨Nat.zero_le _, Nat.zero_le _⟩ (pc' := 64) rfl ?_
      refine wk_perm (w' := (wTvo ha hq) ++ ((wPool cI (hq 0) (Z 0)) ++ ((wHist cP ha hq (Z 8)) ++ ((wPool cI (hq 1) (Z 1)) ++ ((wPool cI (hq 2) (Z 2)) ++ ((wPool cI (hq 3) (Z 3)) ++ ((wPool cI (hq 4) (Z 4)) ++ ((wPool cI (hq 5) (Z 5)) ++ ((wText cI (hq 7) (Z 7)) ++ ((wReh ha hq (Z 9)) ++ ((wPool cI (hq 6) (Z 6)) ++ []))))))))))) ((List.Perm.append_left _ (List.Perm.refl _)).trans (List.perm_append_comm_assoc _ _ _)) ?_
      refine wk_w (w' := wTV cI cP ha hq Z) rfl ?_
      exact hret _ _ _ dX5_family_64 rfl (Eq.symm (by rw [f5_family] <;> exact (st_neg c1 (st_neg c2 (st_pos c3 rfl)))))
    by_cases c4 : p2 = (2 : Int32)
    · refine wk_top c4 ?_
      refine wk_tableIn (off := 50) (tgt := 65) F dX5_family_15 (by decide) (by decide) (by decide) (by decide) ?_
      refine wk_aload_n F dX5_family_65 rfl 0 rfl (pc' := 66) rfl ?_
      refine wk_perm (w' := (wTvo ha hq) ++ ((wPool cI (hq 0) (Z 0)) ++ ((wHist cP ha hq (Z 8)) ++ ((wPool cI (hq 1) (Z 1)) ++ ((wPool cI (hq 2) (Z 2)) ++ ((wPool cI (hq 3) (Z 3)) ++ ((wPool cI (hq 4) (Z 4)) ++ ((wPool cI (hq 5) (Z 5)) ++ ((wText cI (hq 7) (Z 7)) ++ ((wReh ha hq (Z 9)) ++ ((wPool cI (hq 6) (Z 6)) ++ []))))))))))) ((List.Perm.append_left _ (List.Perm.refl _)).trans (List.perm_append_comm_assoc _ _ _)) ?_
      refine wk_get (C := RX5) (T := TX5) (N := 4) F 0 rfl rfl k_5 0 (Nat.le_of_ble_eq_true rfl) w_1 rfl dX5_family_66 (pc' := 69) rfl ?_
      refine wk_iload_n F dX5_family_69 rfl 1 rfl (pc' := 70) rfl ?_
      refine wk_perm (w' := (wPool cI (hq 0) (Z 0)) ++ ((wTvo ha hq) ++ ((wHist cP ha hq (Z 8)) ++ ((wPool cI (hq 1) (Z 1)) ++ ((wPool cI (hq 2) (Z 2)) ++ ((wPool cI (hq 3) (Z 3)) ++ ((wPool cI (hq 4) (Z 4)) ++ ((wPool cI (hq 5) (Z 5)) ++ ((wText cI (hq 7) (Z 7)) ++ ((wReh ha hq (Z 9)) ++ ((wPool cI (hq 6) (Z 6)) ++ []))))))))))) ((List.Perm.append_left _ (List.Perm.refl _)).trans (List.perm_append_comm_assoc _ _ _)) ?_
      refine wk_fr_p F (c1_longestLineFrom l D cI cP (hq 0) (Z 0) p1) (cwV 1 F.hts gX5_family_X1_longestLineFrom rfl rfl rfl hdX1_longestLineFrom ⟨Nat.le_of_ble_eq_true rfl, Nat.le_of_ble_eq_true rfl⟩) 0 1 rfl rfl rfl rfl (Nat.le_of_ble_eq_true rfl) dX5_family_70 ⟨Nat.zero_le _, Nat.zero_le _⟩ (pc' := 73) rfl ?_
      refine wk_perm (w' := (wTvo ha hq) ++ ((wPool cI (hq 0) (Z 0)) ++ ((wHist cP ha hq (Z 8)) ++ ((wPool cI (hq 1) (Z 1)) ++ ((wPool cI (hq 2) (Z 2)) ++ ((wPool cI (hq 3) (Z 3)) ++ ((wPool cI (hq 4) (Z 4)) ++ ((wPool cI (hq 5) (Z 5)) ++ ((wText cI (hq 7) (Z 7)) ++ ((wReh ha hq (Z 9)) ++ ((wPool cI (hq 6) (Z 6)) ++ []))))))))))) ((List.Perm.append_left _ (List.Perm.refl _)).trans (List.perm_append_comm_assoc _ _ _)) ?_
      refine wk_w (w' := wTV cI cP ha hq Z) rfl ?_
      exact hret _ _ _ dX5_family_73 rfl (Eq.symm (by rw [f5_family] <;> exact (st_neg c1 (st_neg c2 (st_neg c3 (st_pos c4 rfl))))))
    refine wk_tableOut (tgt := 74) F dX5_family_15 (by have ec2 := ti_ne (k := 0) c2 (by decide); have ec3 := ti_ne (k := 1) c3 (by decide); have ec4 := ti_ne (k := 2) c4 (by decide); omega) (by decide) ?_
    refine wk_ldc F dX5_family_74 w_2 (pc' := 76) rfl ?_
    refine wk_perm (w' := (wTvo ha hq) ++ ((wPool cI (hq 0) (Z 0)) ++ ((wHist cP ha hq (Z 8)) ++ ((wPool cI (hq 1) (Z 1)) ++ ((wPool cI (hq 2) (Z 2)) ++ ((wPool cI (hq 3) (Z 3)) ++ ((wPool cI (hq 4) (Z 4)) ++ ((wPool cI (hq 5) (Z 5)) ++ ((wText cI (hq 7) (Z 7)) ++ ((wReh ha hq (Z 9)) ++ ((wPool cI (hq 6) (Z 6)) ++ []))))))))))) ((List.Perm.append_left _ (List.Perm.refl _)).trans (List.perm_append_comm_assoc _ _ _)) ?_
    refine wk_w (w' := wTV cI cP ha hq Z) rfl ?_
    exact hret _ _ _ dX5_family_76 rfl (Eq.symm (by rw [f5_family] <;> exact (st_neg c1 (st_neg c2 (st_neg c3 (st_neg c4 rfl))))))
  · refine wk_ldc F dX5_family_11 w_2 (pc' := 13) rfl ?_
    refine wk_perm (w' := (wTvo ha hq) ++ ((wPool cI (hq 0) (Z 0)) ++ ((wHist cP ha hq (Z 8)) ++ ((wPool cI (hq 1) (Z 1)) ++ ((wPool cI (hq 2) (Z 2)) ++ ((wPool cI (hq 3) (Z 3)) ++ ((wPool cI (hq 4) (Z 4)) ++ ((wPool cI (hq 5) (Z 5)) ++ ((wText cI (hq 7) (Z 7)) ++ ((wReh ha hq (Z 9)) ++ ((wPool cI (hq 6) (Z 6)) ++ []))))))))))) ((List.Perm.append_left _ (List.Perm.refl _)).trans (List.perm_append_comm_assoc _ _ _)) ?_
    refine wk_w (w' := wTV cI cP ha hq Z) rfl ?_
    exact hret _ _ _ dX5_family_13 rfl (Eq.symm (by rw [f5_family] <;> exact (st_pos c1 rfl)))
def f5_ranked (Z : ST) (p1 : Int32) : Int32 := (if 0 ≤ p1 then f1_volumeWithRank (Z 0) p1 else (-1000001 : Int32))
set_option maxHeartbeats 4000000 in
set_option maxRecDepth 100000 in
theorem c5_ranked (l : Launch) (D : va_G) (cI cP : ClassId) (ha : Nat → Nat) (hq : Nat → Nat → Nat) (Z : ST) (p1 : Int32) : CP l yX5_ranked wsX5_ranked ({ frames := 3, cells := 0, slots := 0, locals := 68 } : Room) D (cty cI cP) (wTV cI cP ha hq) Z [.ref (ha 0), .int p1] (f5_ranked Z p1) := by
  refine CP.of (cc := cX5_ranked) (maxL := 2) (rt := .int) (own := RX5) (lv0 := [(0, .ref (ha 0)), (1, .int p1)]) pnX5 rfl rfl (Nat.le_of_ble_eq_true rfl) rfl (fun p e s m args below meth c A Q F hret => ?_)
  have w_2 := F.at (x := Cond.fieldLink RX5 12 "ThinVolumes" "pool" "LThinVolumes$Pool;") 2 rfl
  have w_1 := F.at (x := Cond.constant RX5 79 (-1000001)) 1 rfl
  refine wk_w (w' := (wTvo ha hq) ++ ((wPool cI (hq 0) (Z 0)) ++ ((wHist cP ha hq (Z 8)) ++ ((wPool cI (hq 1) (Z 1)) ++ ((wPool cI (hq 2) (Z 2)) ++ ((wPool cI (hq 3) (Z 3)) ++ ((wPool cI (hq 4) (Z 4)) ++ ((wPool cI (hq 5) (Z 5)) ++ ((wText cI (hq 7) (Z 7)) ++ ((wReh ha hq (Z 9)) ++ ((wPool cI (hq 6) (Z 6)) ++ []))))))))))) rfl ?_
  have k_5 : ∀ w ∈ wsX50, w ∈ wsX5_ranked := fun _ h => List.mem_cons_of_mem _ (List.mem_append_left _ (List.mem_append_right _ (h)))
  refine wk_iload_n F dX5_ranked_0 rfl 1 rfl (pc' := 1) rfl ?_
  refine wk_if_ge (tgt := 9) F dX5_ranked_1 (by decide) (pc' := 4) rfl (fun c1 => ?_) (fun c1 => ?_)
  · refine wk_aload_n F dX5_ranked_9 rfl 0 rfl (pc' := 10) rfl ?_
    refine wk_get (C := RX5) (T := TX5) (N := 4) F 0 rfl rfl k_5 0 (Nat.le_of_ble_eq_true rfl) w_2 rfl dX5_ranked_10 (pc' := 13) rfl ?_
    refine wk_iload_n F dX5_ranked_13 rfl 1 rfl (pc' := 14) rfl ?_
    refine wk_perm (w' := (wPool cI (hq 0) (Z 0)) ++ ((wTvo ha hq) ++ ((wHist cP ha hq (Z 8)) ++ ((wPool cI (hq 1) (Z 1)) ++ ((wPool cI (hq 2) (Z 2)) ++ ((wPool cI (hq 3) (Z 3)) ++ ((wPool cI (hq 4) (Z 4)) ++ ((wPool cI (hq 5) (Z 5)) ++ ((wText cI (hq 7) (Z 7)) ++ ((wReh ha hq (Z 9)) ++ ((wPool cI (hq 6) (Z 6)) ++ []))))))))))) ((List.Perm.append_left _ (List.Perm.refl _)).trans (List.perm_append_comm_assoc _ _ _)) ?_
    refine wk_fr_p F (c1_volumeWithRank l D cI cP (hq 0) (Z 0) p1) (cwV 1 F.hts gX5_ranked_X1_volumeWithRank rfl rfl rfl hdX1_volumeWithRank ⟨Nat.le_of_ble_eq_true rfl, Nat.le_of_ble_eq_true rfl⟩) 0 1 rfl rfl rfl rfl (Nat.le_of_ble_eq_true rfl) dX5_ranked_14 ⟨Nat.zero_le _, Nat.zero_le _⟩ (pc' := 17) rfl ?_
    refine wk_perm (w' := (wTvo ha hq) ++ ((wPool cI (hq 0) (Z 0)) ++ ((wHist cP ha hq (Z 8)) ++ ((wPool cI (hq 1) (Z 1)) ++ ((wPool cI (hq 2) (Z 2)) ++ ((wPool cI (hq 3) (Z 3)) ++ ((wPool cI (hq 4) (Z 4)) ++ ((wPool cI (hq 5) (Z 5)) ++ ((wText cI (hq 7) (Z 7)) ++ ((wReh ha hq (Z 9)) ++ ((wPool cI (hq 6) (Z 6)) ++ []))))))))))) ((List.Perm.append_left _ (List.Perm.refl _)).trans (List.perm_append_comm_assoc _ _ _)) ?_
    refine wk_w (w' := wTV cI cP ha hq Z) rfl ?_
    exact hret _ _ _ dX5_ranked_17 rfl (Eq.symm (by rw [f5_ranked] <;> exact (st_pos c1 rfl)))
  · refine wk_ldc F dX5_ranked_4 w_1 (pc' := 6) rfl ?_
    refine wk_goto (tgt := 17) F dX5_ranked_6 (by decide) ?_
    refine wk_w (w' := wTV cI cP ha hq Z) rfl ?_
    exact hret _ _ _ dX5_ranked_17 rfl (Eq.symm (by rw [f5_ranked] <;> exact (st_neg c1 rfl)))
def f5_over_L35 (Z : ST) (p1 : Int32) (y2 : Int32) (y3 : Int32) : Nat → Nat → Int32
  | 0, i => y3
  | n + 1, i => (if (y2 - y2 / (nI i) * (nI i)) = 0 then (if ((30 : Int32) - (30 : Int32) / (nI i) * (nI i)) = 0 then y3 / (nI i) else f5_over_L35 Z p1 y2 y3 n (i - 1)) else f5_over_L35 Z p1 y2 y3 n (i - 1))
def f5_over (Z : ST) (p1 : Int32) : Int32 := (if p1 < 0 then (-1000001 : Int32) else (if p1 ≤ (1 : Int32) then (if p1 = 0 then f5_over_L35 Z p1 (f1_allSizes (Z 0)) (f1_allSizes (Z 0)) 29 30 else f5_over_L35 Z p1 (f1_allSizes (Z 0)) (30 : Int32) 29 30) else (-1000001 : Int32)))
set_option maxHeartbeats 4000000 in
set_option maxRecDepth 100000 in
theorem c5_over (l : Launch) (D : va_G) (cI cP : ClassId) (ha : Nat → Nat) (hq : Nat → Nat → Nat) (Z : ST) (p1 : Int32) : CP l yX5_over wsX5_over ({ frames := 1, cells := 0, slots := 0, locals := 22 } : Room) D (cty cI cP) (wTV cI cP ha hq) Z [.ref (ha 0), .int p1] (f5_over Z p1) := by
  refine CP.of (cc := cX5_over) (maxL := 5) (rt := .int) (own := RX5) (lv0 := [(0, .ref (ha 0)), (1, .int p1)]) pnX5 rfl rfl (Nat.le_of_ble_eq_true rfl) rfl (fun p e s m args below meth c A Q F hret => ?_)
  have w_1 := F.at (x := Cond.constant RX5 79 (-1000001)) 1 rfl
  have w_2 := F.at (x := Cond.fieldLink RX5 12 "ThinVolumes" "pool" "LThinVolumes$Pool;") 2 rfl
  refine wk_w (w' := (wTvo ha hq) ++ ((wPool cI (hq 0) (Z 0)) ++ ((wHist cP ha hq (Z 8)) ++ ((wPool cI (hq 1) (Z 1)) ++ ((wPool cI (hq 2) (Z 2)) ++ ((wPool cI (hq 3) (Z 3)) ++ ((wPool cI (hq 4) (Z 4)) ++ ((wPool cI (hq 5) (Z 5)) ++ ((wText cI (hq 7) (Z 7)) ++ ((wReh ha hq (Z 9)) ++ ((wPool cI (hq 6) (Z 6)) ++ []))))))))))) rfl ?_
  have k_5 : ∀ w ∈ wsX50, w ∈ wsX5_over := fun _ h => List.mem_cons_of_mem _ (List.mem_append_left _ (List.mem_append_right _ (h)))
  have L35 : ∀ (y2 : Int32) (y3 : Int32) (n : Nat) (i : Nat), i + 1 = 2 + n → n ≤ 29 → f5_over_L35 Z p1 y2 y3 n i = f5_over Z p1 → Wk p l e ({ frames := 1, cells := 0, slots := 0, locals := 22 } : Room) s m args below meth c 5 D A 0 0 Q ((wTvo ha hq) ++ ((wPool cI (hq 0) (Z 0)) ++ ((wHist cP ha hq (Z 8)) ++ ((wPool cI (hq 1) (Z 1)) ++ ((wPool cI (hq 2) (Z 2)) ++ ((wPool cI (hq 3) (Z 3)) ++ ((wPool cI (hq 4) (Z 4)) ++ ((wPool cI (hq 5) (Z 5)) ++ ((wText cI (hq 7) (Z 7)) ++ ((wReh ha hq (Z 9)) ++ ((wPool cI (hq 6) (Z 6)) ++ []))))))))))) [(2, .int y2), (3, .int y3), (4, .int (nI i))] 35 [] := by
    intro y2 y3 n
    induction n with
    | zero =>
      intro i hi hv0 hp
      refine wk_iload F dX5_over_35 2 rfl (pc' := 37) rfl ?_
      refine wk_iconst F dX5_over_37 ic_1 (pc' := 38) rfl ?_
      refine wk_icmp_le (tgt := 67) F dX5_over_38 (by decide) (pc' := 41) rfl (fun _ => ?_) (fun c => absurd ((nI_leI (a := i) (b := 1) (by omega) (by omega)).mpr (by omega)) c)
      refine wk_iload_n F dX5_over_67 rfl 1 rfl (pc' := 68) rfl ?_
      refine wk_w (w' := wTV cI cP ha hq Z) rfl ?_
      exact hret _ _ _ dX5_over_68 rfl (Eq.trans (Eq.symm (by rw [f5_over_L35] <;> exact rfl)) hp)
    | succ n ih =>
      intro i hi hv0 hp
      refine wk_iload F dX5_over_35 2 rfl (pc' := 37) rfl ?_
      refine wk_iconst F dX5_over_37 ic_1 (pc' := 38) rfl ?_
      refine wk_icmp_le (tgt := 67) F dX5_over_38 (by decide) (pc' := 41) rfl (fun c => absurd ((nI_leI (a := i) (b := 1) (by omega) (by omega)).mp c) (by omega)) (fun _ => ?_)
      refine wk_iload_n F dX5_over_41 rfl 0 rfl (pc' := 42) rfl ?_
      refine wk_iload F dX5_over_42 2 rfl (pc' := 44) rfl ?_
      refine wk_irem F dX5_over_44 (nI_ne0 (by omega) (by omega)) (pc' := 45) rfl ?_
      refine wk_if_ne (tgt := 61) F dX5_over_45 (by decide) (pc' := 48) rfl (fun c1 => ?_) (fun c1 => ?_)
      · refine wk_iinc (k := 2) (v := nI (i - 1)) (lv' := [(4, .int (nI (i - 1))), (2, .int y2), (3, .int y3)]) F dX5_over_61 rfl (nI_dec (by omega)) (Nat.le_of_ble_eq_true rfl) rfl (pc' := 64) rfl ?_
        refine wk_goto (tgt := 35) F dX5_over_64 (by decide) ?_
        refine wk_lv [1, 2, 0] rfl ?_
        exact ih (i - 1) (by omega) (by omega) (Eq.trans (Eq.symm (by rw [f5_over_L35] <;> exact (st_neg c1 rfl))) hp)
      · refine wk_bipush F dX5_over_48 bp_30 (pc' := 50) rfl ?_
        refine wk_iload F dX5_over_50 2 rfl (pc' := 52) rfl ?_
        refine wk_irem F dX5_over_52 (nI_ne0 (by omega) (by omega)) (pc' := 53) rfl ?_
        refine wk_if_ne (tgt := 61) F dX5_over_53 (by decide) (pc' := 56) rfl (fun c2 => ?_) (fun c2 => ?_)
        · refine wk_iinc (k := 2) (v := nI (i - 1)) (lv' := [(4, .int (nI (i - 1))), (2, .int y2), (3, .int y3)]) F dX5_over_61 rfl (nI_dec (by omega)) (Nat.le_of_ble_eq_true rfl) rfl (pc' := 64) rfl ?_
          refine wk_goto (tgt := 35) F dX5_over_64 (by decide) ?_
          refine wk_lv [1, 2, 0] rfl ?_
          exact ih (i - 1) (by omega) (by omega) (Eq.trans (Eq.symm (by rw [f5_over_L35] <;> exact (st_pos c1 (st_neg c2 rfl)))) hp)
        · refine wk_iload_n F dX5_over_56 rfl 1 rfl (pc' := 57) rfl ?_
          refine wk_iload F dX5_over_57 2 rfl (pc' := 59) rfl ?_
          refine wk_idiv F dX5_over_59 (nI_ne0 (by omega) (by omega)) (pc' := 60) rfl ?_
          refine wk_w (w' := wTV cI cP ha hq Z) rfl ?_
          exact hret _ _ _ dX5_over_60 rfl (Eq.trans (Eq.symm (by rw [f5_over_L35] <;> exact (st_pos c1 (st_pos c2 rfl)))) hp)
  refine wk_iload_n F dX5_over_0 rfl 1 rfl (pc' := 1) rfl ?_
  refine wk_if_lt (tgt := 9) F dX5_over_1 (by decide) (pc' := 4) rfl (fun c3 => ?_) (fun c3 => ?_)
  · refine wk_ldc F dX5_over_9 w_1 (pc' := 11) rfl ?_
    refine wk_w (w' := wTV cI cP ha hq Z) rfl ?_
    exact hret _ _ _ dX5_over_11 rfl (Eq.symm (by rw [f5_over] <;> exact (st_pos c3 rfl)))
  · refine wk_iload_n F dX5_over_4 rfl 1 rfl (pc' := 5) rfl ?_
    refine wk_iconst F dX5_over_5 ic_1 (pc' := 6) rfl ?_
    refine wk_icmp_le (tgt := 12) F dX5_over_6 (by decide) (pc' := 9) rfl (fun c4 => ?_) (fun c4 => ?_)
    · refine wk_aload_n F dX5_over_12 rfl 0 rfl (pc' := 13) rfl ?_
      refine wk_get (C := RX5) (T := TX5) (N := 4) F 0 rfl rfl k_5 0 (Nat.le_of_ble_eq_true rfl) w_2 rfl dX5_over_13 (pc' := 16) rfl ?_
      refine wk_perm (w' := (wPool cI (hq 0) (Z 0)) ++ ((wTvo ha hq) ++ ((wHist cP ha hq (Z 8)) ++ ((wPool cI (hq 1) (Z 1)) ++ ((wPool cI (hq 2) (Z 2)) ++ ((wPool cI (hq 3) (Z 3)) ++ ((wPool cI (hq 4) (Z 4)) ++ ((wPool cI (hq 5) (Z 5)) ++ ((wText cI (hq 7) (Z 7)) ++ ((wReh ha hq (Z 9)) ++ ((wPool cI (hq 6) (Z 6)) ++ []))))))))))) ((List.Perm.append_left _ (List.Perm.refl _)).trans (List.perm_append_comm_assoc _ _ _)) ?_
      refine wk_fr_p F (c1_allSizes l D cI cP (hq 0) (Z 0)) (cwV 0 F.hts gX5_over_X1_allSizes rfl rfl rfl hdX1_allSizes ⟨Nat.le_of_ble_eq_true rfl, Nat.le_of_ble_eq_true rfl⟩) 0 1 rfl rfl rfl rfl (Nat.le_of_ble_eq_true rfl) dX5_over_16 ⟨Nat.zero_le _, Nat.zero_le _⟩ (pc' := 19) rfl ?_
      refine wk_istore_n (lv' := [(2, .int (f1_allSizes (Z 0))), (0, .ref (ha 0)), (1, .int p1)]) F dX5_over_19 rfl (Nat.le_of_ble_eq_true rfl) rfl (pc' := 20) rfl ?_
      refine wk_iload_n F dX5_over_20 rfl 2 rfl (pc' := 21) rfl ?_
      refine wk_if_ne (tgt := 28) F dX5_over_21 (by decide) (pc' := 24) rfl (fun c5 => ?_) (fun c5 => ?_)
      · refine wk_bipush F dX5_over_28 bp_30 (pc' := 30) rfl ?_
        refine wk_istore_n (lv' := [(3, .int (30 : Int32)), (2, .int (f1_allSizes (Z 0))), (0, .ref (ha 0)), (1, .int p1)]) F dX5_over_30 rfl (Nat.le_of_ble_eq_true rfl) rfl (pc' := 31) rfl ?_
        refine wk_bipush F dX5_over_31 bp_30 (pc' := 33) rfl ?_
        refine wk_istore (lv' := [(4, .int (30 : Int32)), (3, .int (30 : Int32)), (2, .int (f1_allSizes (Z 0))), (0, .ref (ha 0)), (1, .int p1)]) F dX5_over_33 (Nat.le_of_ble_eq_true rfl) rfl (pc' := 35) rfl ?_
        refine wk_perm (w' := (wTvo ha hq) ++ ((wPool cI (hq 0) (Z 0)) ++ ((wHist cP ha hq (Z 8)) ++ ((wPool cI (hq 1) (Z 1)) ++ ((wPool cI (hq 2) (Z 2)) ++ ((wPool cI (hq 3) (Z 3)) ++ ((wPool cI (hq 4) (Z 4)) ++ ((wPool cI (hq 5) (Z 5)) ++ ((wText cI (hq 7) (Z 7)) ++ ((wReh ha hq (Z 9)) ++ ((wPool cI (hq 6) (Z 6)) ++ []))))))))))) ((List.Perm.append_left _ (List.Perm.refl _)).trans (List.perm_append_comm_assoc _ _ _)) ?_
        refine wk_lv [2, 1, 0] rfl ?_
        exact L35 (f1_allSizes (Z 0)) (30 : Int32) 29 30 (by omega) (by omega) (Eq.symm (by rw [f5_over] <;> exact (st_neg c3 (st_pos c4 (st_neg c5 rfl)))))
      · refine wk_iload_n F dX5_over_24 rfl 0 rfl (pc' := 25) rfl ?_
        refine wk_goto (tgt := 30) F dX5_over_25 (by decide) ?_
        refine wk_istore_n (lv' := [(3, .int (f1_allSizes (Z 0))), (2, .int (f1_allSizes (Z 0))), (0, .ref (ha 0)), (1, .int p1)]) F dX5_over_30 rfl (Nat.le_of_ble_eq_true rfl) rfl (pc' := 31) rfl ?_
        refine wk_bipush F dX5_over_31 bp_30 (pc' := 33) rfl ?_
        refine wk_istore (lv' := [(4, .int (30 : Int32)), (3, .int (f1_allSizes (Z 0))), (2, .int (f1_allSizes (Z 0))), (0, .ref (ha 0)), (1, .int p1)]) F dX5_over_33 (Nat.le_of_ble_eq_true rfl) rfl (pc' := 35) rfl ?_
        refine wk_perm (w' := (wTvo ha hq) ++ ((wPool cI (hq 0) (Z 0)) ++ ((wHist cP ha hq (Z 8)) ++ ((wPool cI (hq 1) (Z 1)) ++ ((wPool cI (hq 2) (Z 2)) ++ ((wPool cI (hq 3) (Z 3)) ++ ((wPool cI (hq 4) (Z 4)) ++ ((wPool cI (hq 5) (Z 5)) ++ ((wText cI (hq 7) (Z 7)) ++ ((wReh ha hq (Z 9)) ++ ((wPool cI (hq 6) (Z 6)) ++ []))))))))))) ((List.Perm.append_left _ (List.Perm.refl _)).trans (List.perm_append_comm_assoc _ _ _)) ?_
        refine wk_lv [2, 1, 0] rfl ?_
        exact L35 (f1_allSizes (Z 0)) (f1_allSizes (Z 0)) 29 30 (by omega) (by omega) (Eq.symm (by rw [f5_over] <;> exact (st_neg c3 (st_pos c4 (st_pos c5 rfl)))))
    · refine wk_ldc F dX5_over_9 w_1 (pc' := 11) rfl ?_
      refine wk_w (w' := wTV cI cP ha hq Z) rfl ?_
      exact hret _ _ _ dX5_over_11 rfl (Eq.symm (by rw [f5_over] <;> exact (st_neg c3 (st_neg c4 rfl))))
def f5_count (Z : ST) (p1 : Int32) : Int32 := (if p1 = (0 : Int32) then f1_volumesThatLive (Z 0) else (if p1 = (1 : Int32) then f1_freePieces (Z 0) else (if p1 = (2 : Int32) then f1_available (Z 0) else (if p1 = (3 : Int32) then f1_level (Z 0) else (if p1 = (4 : Int32) then f1_allPromises (Z 0) else (if p1 = (5 : Int32) then f1_allOwners (Z 0) else (if p1 = (6 : Int32) then f1_sharedPieces (Z 0) else (if p1 = (7 : Int32) then (Z 0) 13 0 else (if p1 = (8 : Int32) then (Z 0) 13 1 else (if p1 = (9 : Int32) then (Z 0) 13 2 else (if p1 = (10 : Int32) then (Z 0) 13 3 else (if p1 = (11 : Int32) then (Z 8) 0 0 else (if p1 = (12 : Int32) then (Z 7) 2 0 else (if p1 = (20 : Int32) then (Z 0) 9 0 else (if p1 = (21 : Int32) then (Z 0) 9 1 else (if p1 = (22 : Int32) then (Z 0) 9 2 else (-1000001 : Int32)))))))))))))))))
set_option maxHeartbeats 4000000 in
set_option maxRecDepth 100000 in
theorem c5_count (l : Launch) (D : va_G) (cI cP : ClassId) (ha : Nat → Nat) (hq : Nat → Nat → Nat) (Z : ST) (p1 : Int32) : CP l yX5_count wsX5_count ({ frames := 3, cells := 0, slots := 0, locals := 62 } : Room) D (cty cI cP) (wTV cI cP ha hq) Z [.ref (ha 0), .int p1] (f5_count Z p1) := by
  refine CP.of (cc := cX5_count) (maxL := 2) (rt := .int) (own := RX5) (lv0 := [(0, .ref (ha 0)), (1, .int p1)]) pnX5 rfl rfl (Nat.le_of_ble_eq_true rfl) rfl (fun p e s m args below meth c A Q F hret => ?_)
  have w_1 := F.at (x := Cond.fieldLink RX5 12 "ThinVolumes" "pool" "LThinVolumes$Pool;") 1 rfl
  have w_2 := F.at (x := Cond.fieldLink RX5 185 "ThinVolumes$Pool" "refusals" "I") 2 rfl
  have w_3 := F.at (x := Cond.fieldLink RX5 189 "ThinVolumes$Pool" "piecesGot" "I") 3 rfl
  have w_4 := F.at (x := Cond.fieldLink RX5 192 "ThinVolumes$Pool" "piecesFreed" "I") 4 rfl
  have w_5 := F.at (x := Cond.fieldLink RX5 134 "ThinVolumes$Pool" "warnings" "LThinVolumes$Warnings;") 5 rfl
  have w_6 := F.at (x := Cond.fieldLink RX5 195 "ThinVolumes$Warnings" "kept" "I") 6 rfl
  have w_7 := F.at (x := Cond.fieldLink RX5 19 "ThinVolumes" "history" "LThinVolumes$History;") 7 rfl
  have w_8 := F.at (x := Cond.fieldLink RX5 198 "ThinVolumes$History" "kept" "I") 8 rfl
  have w_9 := F.at (x := Cond.fieldLink RX5 26 "ThinVolumes" "text" "LThinVolumes$Text;") 9 rfl
  have w_10 := F.at (x := Cond.fieldLink RX5 199 "ThinVolumes$Text" "length" "I") 10 rfl
  have w_11 := F.at (x := Cond.fieldLink RX5 202 "ThinVolumes$Pool" "settings" "[I") 11 rfl
  have w_12 := F.at (x := Cond.constant RX5 79 (-1000001)) 12 rfl
  refine wk_w (w' := (wTvo ha hq) ++ ((wPool cI (hq 0) (Z 0)) ++ ((wHist cP ha hq (Z 8)) ++ ((wPool cI (hq 1) (Z 1)) ++ ((wPool cI (hq 2) (Z 2)) ++ ((wPool cI (hq 3) (Z 3)) ++ ((wPool cI (hq 4) (Z 4)) ++ ((wPool cI (hq 5) (Z 5)) ++ ((wText cI (hq 7) (Z 7)) ++ ((wReh ha hq (Z 9)) ++ ((wPool cI (hq 6) (Z 6)) ++ []))))))))))) rfl ?_
  have k_0 : ∀ w ∈ wsX00, w ∈ wsX5_count := fun _ h => List.mem_cons_of_mem _ (List.mem_append_left _ (List.mem_append_right _ (h)))
  have k_1 : ∀ w ∈ wsX10, w ∈ wsX5_count := fun _ h => List.mem_cons_of_mem _ (List.mem_append_left _ (List.mem_append_left _ (List.mem_append_left _ (List.mem_append_right _ (h)))))
  have k_3 : ∀ w ∈ wsX30, w ∈ wsX5_count := fun _ h => List.mem_cons_of_mem _ (List.mem_append_right _ (h))
  have k_4 : ∀ w ∈ wsX40, w ∈ wsX5_count := fun _ h => List.mem_cons_of_mem _ (List.mem_append_left _ (List.mem_append_left _ (List.mem_append_right _ (h))))
  have k_5 : ∀ w ∈ wsX50, w ∈ wsX5_count := fun _ h => List.mem_cons_of_mem _ (List.mem_append_left _ (List.mem_append_left _ (List.mem_append_left _ (List.mem_append_left _ (List.mem_append_right _ (h))))))
  refine wk_iload_n F dX5_count_0 rfl 1 rfl (pc' := 1) rfl ?_
  by_cases c1 : p1 = (0 : Int32)
  · refine wk_top c1 ?_
    refine wk_tableIn (off := 107) (tgt := 108) F dX5_count_1 (by decide) (by decide) (by decide) (by decide) ?_
    refine wk_aload_n F dX5_count_108 rfl 0 rfl (pc' := 109) rfl ?_
    refine wk_get (C := RX5) (T := TX5) (N := 4) F 0 rfl rfl k_5 0 (Nat.le_of_ble_eq_true rfl) w_1 rfl dX5_count_109 (pc' := 112) rfl ?_
    refine wk_perm (w' := (wPool cI (hq 0) (Z 0)) ++ ((wTvo ha hq) ++ ((wHist cP ha hq (Z 8)) ++ ((wPool cI (hq 1) (Z 1)) ++ ((wPool cI (hq 2) (Z 2)) ++ ((wPool cI (hq 3) (Z 3)) ++ ((wPool cI (hq 4) (Z 4)) ++ ((wPool cI (hq 5) (Z 5)) ++ ((wText cI (hq 7) (Z 7)) ++ ((wReh ha hq (Z 9)) ++ ((wPool cI (hq 6) (Z 6)) ++ []))))))))))) ((List.Perm.append_left _ (List.Perm.refl _)).trans (List.perm_append_comm_assoc _ _ _)) ?_
    refine wk_fr_p F (c1_volumesThatLive l D cI cP (hq 0) (Z 0)) (cwV 0 F.hts gX5_count_X1_volumesThatLive rfl rfl rfl hdX1_volumesThatLive ⟨Nat.le_of_ble_eq_true rfl, Nat.le_of_ble_eq_true rfl⟩) 0 1 rfl rfl rfl rfl (Nat.le_of_ble_eq_true rfl) dX5_count_112 ⟨Nat.zero_le _, Nat.zero_le _⟩ (pc' := 115) rfl ?_
    refine wk_perm (w' := (wTvo ha hq) ++ ((wPool cI (hq 0) (Z 0)) ++ ((wHist cP ha hq (Z 8)) ++ ((wPool cI (hq 1) (Z 1)) ++ ((wPool cI (hq 2) (Z 2)) ++ ((wPool cI (hq 3) (Z 3)) ++ ((wPool cI (hq 4) (Z 4)) ++ ((wPool cI (hq 5) (Z 5)) ++ ((wText cI (hq 7) (Z 7)) ++ ((wReh ha hq (Z 9)) ++ ((wPool cI (hq 6) (Z 6)) ++ []))))))))))) ((List.Perm.append_left _ (List.Perm.refl _)).trans (List.perm_append_comm_assoc _ _ _)) ?_
    refine wk_w (w' := wTV cI cP ha hq Z) rfl ?_
    exact hret _ _ _ dX5_count_115 rfl (Eq.symm (by rw [f5_count] <;> exact (st_pos c1 rfl)))
  by_cases c2 : p1 = (1 : Int32)
  · refine wk_top c2 ?_
    refine wk_tableIn (off := 115) (tgt := 116) F dX5_count_1 (by decide) (by decide) (by decide) (by decide) ?_
    refine wk_aload_n F dX5_count_116 rfl 0 rfl (pc' := 117) rfl ?_
    refine wk_get (C := RX5) (T := TX5) (N := 4) F 0 rfl rfl k_5 0 (Nat.le_of_ble_eq_true rfl) w_1 rfl dX5_count_117 (pc' := 120) rfl ?_
    refine wk_perm (w' := (wPool cI (hq 0) (Z 0)) ++ ((wTvo ha hq) ++ ((wHist cP ha hq (Z 8)) ++ ((wPool cI (hq 1) (Z 1)) ++ ((wPool cI (hq 2) (Z 2)) ++ ((wPool cI (hq 3) (Z 3)) ++ ((wPool cI (hq 4) (Z 4)) ++ ((wPool cI (hq 5) (Z 5)) ++ ((wText cI (hq 7) (Z 7)) ++ ((wReh ha hq (Z 9)) ++ ((wPool cI (hq 6) (Z 6)) ++ []))))))))))) ((List.Perm.append_left _ (List.Perm.refl _)).trans (List.perm_append_comm_assoc _ _ _)) ?_
    refine wk_fr_p F (c1_freePieces l D cI cP (hq 0) (Z 0)) (cwV 0 F.hts gX5_count_X1_freePieces rfl rfl rfl hdX1_freePieces ⟨Nat.le_of_ble_eq_true rfl, Nat.le_of_ble_eq_true rfl⟩) 0 1 rfl rfl rfl rfl (Nat.le_of_ble_eq_true rfl) dX5_count_120 ⟨Nat.zero_le _, Nat.zero_le _⟩ (pc' := 123) rfl ?_
    refine wk_perm (w' := (wTvo ha hq) ++ ((wPool cI (hq 0) (Z 0)) ++ ((wHist cP ha hq (Z 8)) ++ ((wPool cI (hq 1) (Z 1)) ++ ((wPool cI (hq 2) (Z 2)) ++ ((wPool cI (hq 3) (Z 3)) ++ ((wPool cI (hq 4) (Z 4)) ++ ((wPool cI (hq 5) (Z 5)) ++ ((wText cI (hq 7) (Z 7)) ++ ((wReh ha hq (Z 9)) ++ ((wPool cI (hq 6) (Z 6)) ++ []))))))))))) ((List.Perm.append_left _ (List.Perm.refl _)).trans (List.perm_append_comm_assoc _ _ _)) ?_
    refine wk_w (w' := wTV cI cP ha hq Z) rfl ?_
    exact hret _ _ _ dX5_count_123 rfl (Eq.symm (by rw [f5_count] <;> exact (st_neg c1 (st_pos c2 rfl))))
  by_cases c3 : p1 = (2 : Int32)
  · refine wk_top c3 ?_
    refine wk_tableIn (off := 123) (tgt := 124) F dX5_count_1 (by decide) (by decide) (by decide) (by decide) ?_
    refine wk_aload_n F dX5_count_124 rfl 0 rfl (pc' := 125) rfl ?_
    refine wk_get (C := RX5) (T := TX5) (N := 4) F 0 rfl rfl k_5 0 (Nat.le_of_ble_eq_true rfl) w_1 rfl dX5_count_125 (pc' := 128) rfl ?_
    refine wk_perm (w' := (wPool cI (hq 0) (Z 0)) ++ ((wTvo ha hq) ++ ((wHist cP ha hq (Z 8)) ++ ((wPool cI (hq 1) (Z 1)) ++ ((wPool cI (hq 2) (Z 2)) ++ ((wPool cI (hq 3) (Z 3)) ++ ((wPool cI (hq 4) (Z 4)) ++ ((wPool cI (hq 5) (Z 5)) ++ ((wText cI (hq 7) (Z 7)) ++ ((wReh ha hq (Z 9)) ++ ((wPool cI (hq 6) (Z 6)) ++ []))))))))))) ((List.Perm.append_left _ (List.Perm.refl _)).trans (List.perm_append_comm_assoc _ _ _)) ?_
    refine wk_fr_p F (c1_available l D cI cP (hq 0) (Z 0)) (cwV 0 F.hts gX5_count_X1_available rfl rfl rfl hdX1_available ⟨Nat.le_of_ble_eq_true rfl, Nat.le_of_ble_eq_true rfl⟩) 0 1 rfl rfl rfl rfl (Nat.le_of_ble_eq_true rfl) dX5_count_128 ⟨Nat.zero_le _, Nat.zero_le _⟩ (pc' := 131) rfl ?_
    refine wk_perm (w' := (wTvo ha hq) ++ ((wPool cI (hq 0) (Z 0)) ++ ((wHist cP ha hq (Z 8)) ++ ((wPool cI (hq 1) (Z 1)) ++ ((wPool cI (hq 2) (Z 2)) ++ ((wPool cI (hq 3) (Z 3)) ++ ((wPool cI (hq 4) (Z 4)) ++ ((wPool cI (hq 5) (Z 5)) ++ ((wText cI (hq 7) (Z 7)) ++ ((wReh ha hq (Z 9)) ++ ((wPool cI (hq 6) (Z 6)) ++ []))))))))))) ((List.Perm.append_left _ (List.Perm.refl _)).trans (List.perm_append_comm_assoc _ _ _)) ?_
    refine wk_w (w' := wTV cI cP ha hq Z) rfl ?_
    exact hret _ _ _ dX5_count_131 rfl (Eq.symm (by rw [f5_count] <;> exact (st_neg c1 (st_neg c2 (st_pos c3 rfl)))))
  by_cases c4 : p1 = (3 : Int32)
  · refine wk_top c4 ?_
    refine wk_tableIn (off := 131) (tgt := 132) F dX5_count_1 (by decide) (by decide) (by decide) (by decide) ?_
    refine wk_aload_n F dX5_count_132 rfl 0 rfl (pc' := 133) rfl ?_
    refine wk_get (C := RX5) (T := TX5) (N := 4) F 0 rfl rfl k_5 0 (Nat.le_of_ble_eq_true rfl) w_1 rfl dX5_count_133 (pc' := 136) rfl ?_
    refine wk_perm (w' := (wPool cI (hq 0) (Z 0)) ++ ((wTvo ha hq) ++ ((wHist cP ha hq (Z 8)) ++ ((wPool cI (hq 1) (Z 1)) ++ ((wPool cI (hq 2) (Z 2)) ++ ((wPool cI (hq 3) (Z 3)) ++ ((wPool cI (hq 4) (Z 4)) ++ ((wPool cI (hq 5) (Z 5)) ++ ((wText cI (hq 7) (Z 7)) ++ ((wReh ha hq (Z 9)) ++ ((wPool cI (hq 6) (Z 6)) ++ []))))))))))) ((List.Perm.append_left _ (List.Perm.refl _)).trans (List.perm_append_comm_assoc _ _ _)) ?_
    refine wk_fr_p F (c1_level l D cI cP (hq 0) (Z 0)) (cwV 0 F.hts gX5_count_X1_level rfl rfl rfl hdX1_level ⟨Nat.le_of_ble_eq_true rfl, Nat.le_of_ble_eq_true rfl⟩) 0 1 rfl rfl rfl rfl (Nat.le_of_ble_eq_true rfl) dX5_count_136 ⟨Nat.zero_le _, Nat.zero_le _⟩ (pc' := 139) rfl ?_
    refine wk_perm (w' := (wTvo ha hq) ++ ((wPool cI (hq 0) (Z 0)) ++ ((wHist cP ha hq (Z 8)) ++ ((wPool cI (hq 1) (Z 1)) ++ ((wPool cI (hq 2) (Z 2)) ++ ((wPool cI (hq 3) (Z 3)) ++ ((wPool cI (hq 4) (Z 4)) ++ ((wPool cI (hq 5) (Z 5)) ++ ((wText cI (hq 7) (Z 7)) ++ ((wReh ha hq (Z 9)) ++ ((wPool cI (hq 6) (Z 6)) ++ []))))))))))) ((List.Perm.append_left _ (List.Perm.refl _)).trans (List.perm_append_comm_assoc _ _ _)) ?_
    refine wk_w (w' := wTV cI cP ha hq Z) rfl ?_
    exact hret _ _ _ dX5_count_139 rfl (Eq.symm (by rw [f5_count] <;> exact (st_neg c1 (st_neg c2 (st_neg c3 (st_pos c4 rfl))))))
  by_cases c5 : p1 = (4 : Int32)
  · refine wk_top c5 ?_
    refine wk_tableIn (off := 139) (tgt := 140) F dX5_count_1 (by decide) (by decide) (by decide) (by decide) ?_
    refine wk_aload_n F dX5_count_140 rfl 0 rfl (pc' := 141) rfl ?_
    refine wk_get (C := RX5) (T := TX5) (N := 4) F 0 rfl rfl k_5 0 (Nat.le_of_ble_eq_true rfl) w_1 rfl dX5_count_141 (pc' := 144) rfl ?_
    refine wk_perm (w' := (wPool cI (hq 0) (Z 0)) ++ ((wTvo ha hq) ++ ((wHist cP ha hq (Z 8)) ++ ((wPool cI (hq 1) (Z 1)) ++ ((wPool cI (hq 2) (Z 2)) ++ ((wPool cI (hq 3) (Z 3)) ++ ((wPool cI (hq 4) (Z 4)) ++ ((wPool cI (hq 5) (Z 5)) ++ ((wText cI (hq 7) (Z 7)) ++ ((wReh ha hq (Z 9)) ++ ((wPool cI (hq 6) (Z 6)) ++ []))))))))))) ((List.Perm.append_left _ (List.Perm.refl _)).trans (List.perm_append_comm_assoc _ _ _)) ?_
    refine wk_fr_p F (c1_allPromises l D cI cP (hq 0) (Z 0)) (cwV 0 F.hts gX5_count_X1_allPromises rfl rfl rfl hdX1_allPromises ⟨Nat.le_of_ble_eq_true rfl, Nat.le_of_ble_eq_true rfl⟩) 0 1 rfl rfl rfl rfl (Nat.le_of_ble_eq_true rfl) dX5_count_144 ⟨Nat.zero_le _, Nat.zero_le _⟩ (pc' := 147) rfl ?_
    refine wk_perm (w' := (wTvo ha hq) ++ ((wPool cI (hq 0) (Z 0)) ++ ((wHist cP ha hq (Z 8)) ++ ((wPool cI (hq 1) (Z 1)) ++ ((wPool cI (hq 2) (Z 2)) ++ ((wPool cI (hq 3) (Z 3)) ++ ((wPool cI (hq 4) (Z 4)) ++ ((wPool cI (hq 5) (Z 5)) ++ ((wText cI (hq 7) (Z 7)) ++ ((wReh ha hq (Z 9)) ++ ((wPool cI (hq 6) (Z 6)) ++ []))))))))))) ((List.Perm.append_left _ (List.Perm.refl _)).trans (List.perm_append_comm_assoc _ _ _)) ?_
    refine wk_w (w' := wTV cI cP ha hq Z) rfl ?_
    exact hret _ _ _ dX5_count_147 rfl (Eq.symm (by rw [f5_count] <;> exact (st_neg c1 (st_neg c2 (st_neg c3 (st_neg c4 (st_pos c5 rfl)))))))
  by_cases c6 : p1 = (5 : Int32)
  · refine wk_top c6 ?_
    refine wk_tableIn (off := 147) (tgt := 148) F dX5_count_1 (by decide) (by decide) (by decide) (by decide) ?_
    refine wk_aload_n F dX5_count_148 rfl 0 rfl (pc' := 149) rfl ?_
    refine wk_get (C := RX5) (T := TX5) (N := 4) F 0 rfl rfl k_5 0 (Nat.le_of_ble_eq_true rfl) w_1 rfl dX5_count_149 (pc' := 152) rfl ?_
    refine wk_perm (w' := (wPool cI (hq 0) (Z 0)) ++ ((wTvo ha hq) ++ ((wHist cP ha hq (Z 8)) ++ ((wPool cI (hq 1) (Z 1)) ++ ((wPool cI (hq 2) (Z 2)) ++ ((wPool cI (hq 3) (Z 3)) ++ ((wPool cI (hq 4) (Z 4)) ++ ((wPool cI (hq 5) (Z 5)) ++ ((wText cI (hq 7) (Z 7)) ++ ((wReh ha hq (Z 9)) ++ ((wPool cI (hq 6) (Z 6)) ++ []))))))))))) ((List.Perm.append_left _ (List.Perm.refl _)).trans (List.perm_append_comm_assoc _ _ _)) ?_
    refine wk_fr_p F (c1_allOwners l D cI cP (hq 0) (Z 0)) (cwV 0 F.hts gX5_count_X1_allOwners rfl rfl rfl hdX1_allOwners ⟨Nat.le_of_ble_eq_true rfl, Nat.le_of_ble_eq_true rfl⟩) 0 1 rfl rfl rfl rfl (Nat.le_of_ble_eq_true rfl) dX5_count_152 ⟨Nat.zero_le _, Nat.zero_le _⟩ (pc' := 155) rfl ?_
    refine wk_perm (w' := (wTvo ha hq) ++ ((wPool cI (hq 0) (Z 0)) ++ ((wHist cP ha hq (Z 8)) ++ ((wPool cI (hq 1) (Z 1)) ++ ((wPool cI (hq 2) (Z 2)) ++ ((wPool cI (hq 3) (Z 3)) ++ ((wPool cI (hq 4) (Z 4)) ++ ((wPool cI (hq 5) (Z 5)) ++ ((wText cI (hq 7) (Z 7)) ++ ((wReh ha hq (Z 9)) ++ ((wPool cI (hq 6) (Z 6)) ++ []))))))))))) ((List.Perm.append_left _ (List.Perm.refl _)).trans (List.perm_append_comm_assoc _ _ _)) ?_
    refine wk_w (w' := wTV cI cP ha hq Z) rfl ?_
    exact hret _ _ _ dX5_count_155 rfl (Eq.symm (by rw [f5_count] <;> exact (st_neg c1 (st_neg c2 (st_neg c3 (st_neg c4 (st_neg c5 (st_pos c6 rfl))))))))
  by_cases c7 : p1 = (6 : Int32)
  · refine wk_top c7 ?_
    refine wk_tableIn (off := 155) (tgt := 156) F dX5_count_1 (by decide) (by decide) (by decide) (by decide) ?_
    refine wk_aload_n F dX5_count_156 rfl 0 rfl (pc' := 157) rfl ?_
    refine wk_get (C := RX5) (T := TX5) (N := 4) F 0 rfl rfl k_5 0 (Nat.le_of_ble_eq_true rfl) w_1 rfl dX5_count_157 (pc' := 160) rfl ?_
    refine wk_perm (w' := (wPool cI (hq 0) (Z 0)) ++ ((wTvo ha hq) ++ ((wHist cP ha hq (Z 8)) ++ ((wPool cI (hq 1) (Z 1)) ++ ((wPool cI (hq 2) (Z 2)) ++ ((wPool cI (hq 3) (Z 3)) ++ ((wPool cI (hq 4) (Z 4)) ++ ((wPool cI (hq 5) (Z 5)) ++ ((wText cI (hq 7) (Z 7)) ++ ((wReh ha hq (Z 9)) ++ ((wPool cI (hq 6) (Z 6)) ++ []))))))))))) ((List.Perm.append_left _ (List.Perm.refl _)).trans (List.perm_append_comm_assoc _ _ _)) ?_
    refine wk_fr_p F (c1_sharedPieces l D cI cP (hq 0) (Z 0)) (cwV 0 F.hts gX5_count_X1_sharedPieces rfl rfl rfl hdX1_sharedPieces ⟨Nat.le_of_ble_eq_true rfl, Nat.le_of_ble_eq_true rfl⟩) 0 1 rfl rfl rfl rfl (Nat.le_of_ble_eq_true rfl) dX5_count_160 ⟨Nat.zero_le _, Nat.zero_le _⟩ (pc' := 163) rfl ?_
    refine wk_perm (w' := (wTvo ha hq) ++ ((wPool cI (hq 0) (Z 0)) ++ ((wHist cP ha hq (Z 8)) ++ ((wPool cI (hq 1) (Z 1)) ++ ((wPool cI (hq 2) (Z 2)) ++ ((wPool cI (hq 3) (Z 3)) ++ ((wPool cI (hq 4) (Z 4)) ++ ((wPool cI (hq 5) (Z 5)) ++ ((wText cI (hq 7) (Z 7)) ++ ((wReh ha hq (Z 9)) ++ ((wPool cI (hq 6) (Z 6)) ++ []))))))))))) ((List.Perm.append_left _ (List.Perm.refl _)).trans (List.perm_append_comm_assoc _ _ _)) ?_
    refine wk_w (w' := wTV cI cP ha hq Z) rfl ?_
    exact hret _ _ _ dX5_count_163 rfl (Eq.symm (by rw [f5_count] <;> exact (st_neg c1 (st_neg c2 (st_neg c3 (st_neg c4 (st_neg c5 (st_neg c6 (st_pos c7 rfl)))))))))
  by_cases c8 : p1 = (7 : Int32)
  · refine wk_top c8 ?_
    refine wk_tableIn (off := 163) (tgt := 164) F dX5_count_1 (by decide) (by decide) (by decide) (by decide) ?_
    refine wk_aload_n F dX5_count_164 rfl 0 rfl (pc' := 165) rfl ?_
    refine wk_get (C := RX5) (T := TX5) (N := 4) F 0 rfl rfl k_5 0 (Nat.le_of_ble_eq_true rfl) w_1 rfl dX5_count_165 (pc' := 168) rfl ?_
    refine wk_perm (w' := (wPool cI (hq 0) (Z 0)) ++ ((wTvo ha hq) ++ ((wHist cP ha hq (Z 8)) ++ ((wPool cI (hq 1) (Z 1)) ++ ((wPool cI (hq 2) (Z 2)) ++ ((wPool cI (hq 3) (Z 3)) ++ ((wPool cI (hq 4) (Z 4)) ++ ((wPool cI (hq 5) (Z 5)) ++ ((wText cI (hq 7) (Z 7)) ++ ((wReh ha hq (Z 9)) ++ ((wPool cI (hq 6) (Z 6)) ++ []))))))))))) ((List.Perm.append_left _ (List.Perm.refl _)).trans (List.perm_append_comm_assoc _ _ _)) ?_
    refine wk_get (C := RX1) (T := TX1) (N := 14) F 0 rfl rfl k_1 11 (Nat.le_of_ble_eq_true rfl) w_2 rfl dX5_count_168 (pc' := 171) rfl ?_
    refine wk_perm (w' := (wTvo ha hq) ++ ((wPool cI (hq 0) (Z 0)) ++ ((wHist cP ha hq (Z 8)) ++ ((wPool cI (hq 1) (Z 1)) ++ ((wPool cI (hq 2) (Z 2)) ++ ((wPool cI (hq 3) (Z 3)) ++ ((wPool cI (hq 4) (Z 4)) ++ ((wPool cI (hq 5) (Z 5)) ++ ((wText cI (hq 7) (Z 7)) ++ ((wReh ha hq (Z 9)) ++ ((wPool cI (hq 6) (Z 6)) ++ []))))))))))) ((List.Perm.append_left _ (List.Perm.refl _)).trans (List.perm_append_comm_assoc _ _ _)) ?_
    refine wk_w (w' := wTV cI cP ha hq Z) rfl ?_
    exact hret _ _ _ dX5_count_171 rfl (Eq.symm (by rw [f5_count] <;> exact (st_neg c1 (st_neg c2 (st_neg c3 (st_neg c4 (st_neg c5 (st_neg c6 (st_neg c7 (st_pos c8 rfl))))))))))
  by_cases c9 : p1 = (8 : Int32)
  · refine wk_top c9 ?_
    refine wk_tableIn (off := 171) (tgt := 172) F dX5_count_1 (by decide) (by decide) (by decide) (by decide) ?_
    refine wk_aload_n F dX5_count_172 rfl 0 rfl (pc' := 173) rfl ?_
    refine wk_get (C := RX5) (T := TX5) (N := 4) F 0 rfl rfl k_5 0 (Nat.le_of_ble_eq_true rfl) w_1 rfl dX5_count_173 (pc' := 176) rfl ?_
    refine wk_perm (w' := (wPool cI (hq 0) (Z 0)) ++ ((wTvo ha hq) ++ ((wHist cP ha hq (Z 8)) ++ ((wPool cI (hq 1) (Z 1)) ++ ((wPool cI (hq 2) (Z 2)) ++ ((wPool cI (hq 3) (Z 3)) ++ ((wPool cI (hq 4) (Z 4)) ++ ((wPool cI (hq 5) (Z 5)) ++ ((wText cI (hq 7) (Z 7)) ++ ((wReh ha hq (Z 9)) ++ ((wPool cI (hq 6) (Z 6)) ++ []))))))))))) ((List.Perm.append_left _ (List.Perm.refl _)).trans (List.perm_append_comm_assoc _ _ _)) ?_
    refine wk_get (C := RX1) (T := TX1) (N := 14) F 0 rfl rfl k_1 12 (Nat.le_of_ble_eq_true rfl) w_3 rfl dX5_count_176 (pc' := 179) rfl ?_
    refine wk_perm (w' := (wTvo ha hq) ++ ((wPool cI (hq 0) (Z 0)) ++ ((wHist cP ha hq (Z 8)) ++ ((wPool cI (hq 1) (Z 1)) ++ ((wPool cI (hq 2) (Z 2)) ++ ((wPool cI (hq 3) (Z 3)) ++ ((wPool cI (hq 4) (Z 4)) ++ ((wPool cI (hq 5) (Z 5)) ++ ((wText cI (hq 7) (Z 7)) ++ ((wReh ha hq (Z 9)) ++ ((wPool cI (hq 6) (Z 6)) ++ []))))))))))) ((List.Perm.append_left _ (List.Perm.refl _)).trans (List.perm_append_comm_assoc _ _ _)) ?_
    refine wk_w (w' := wTV cI cP ha hq Z) rfl ?_
    exact hret _ _ _ dX5_count_179 rfl (Eq.symm (by rw [f5_count] <;> exact (st_neg c1 (st_neg c2 (st_neg c3 (st_neg c4 (st_neg c5 (st_neg c6 (st_neg c7 (st_neg c8 (st_pos c9 rfl)))))))))))
  by_cases c10 : p1 = (9 : Int32)
  · refine wk_top c10 ?_
    refine wk_tableIn (off := 179) (tgt := 180) F dX5_count_1 (by decide) (by decide) (by decide) (by decide) ?_
    refine wk_aload_n F dX5_count_180 rfl 0 rfl (pc' := 181) rfl ?_
    refine wk_get (C := RX5) (T := TX5) (N := 4) F 0 rfl rfl k_5 0 (Nat.le_of_ble_eq_true rfl) w_1 rfl dX5_count_181 (pc' := 184) rfl ?_
    refine wk_perm (w' := (wPool cI (hq 0) (Z 0)) ++ ((wTvo ha hq) ++ ((wHist cP ha hq (Z 8)) ++ ((wPool cI (hq 1) (Z 1)) ++ ((wPool cI (hq 2) (Z 2)) ++ ((wPool cI (hq 3) (Z 3)) ++ ((wPool cI (hq 4) (Z 4)) ++ ((wPool cI (hq 5) (Z 5)) ++ ((wText cI (hq 7) (Z 7)) ++ ((wReh ha hq (Z 9)) ++ ((wPool cI (hq 6) (Z 6)) ++ []))))))))))) ((List.Perm.append_left _ (List.Perm.refl _)).trans (List.perm_append_comm_assoc _ _ _)) ?_
    refine wk_get (C := RX1) (T := TX1) (N := 14) F 0 rfl rfl k_1 13 (Nat.le_of_ble_eq_true rfl) w_4 rfl dX5_count_184 (pc' := 187) rfl ?_
    refine wk_perm (w' := (wTvo ha hq) ++ ((wPool cI (hq 0) (Z 0)) ++ ((wHist cP ha hq (Z 8)) ++ ((wPool cI (hq 1) (Z 1)) ++ ((wPool cI (hq 2) (Z 2)) ++ ((wPool cI (hq 3) (Z 3)) ++ ((wPool cI (hq 4) (Z 4)) ++ ((wPool cI (hq 5) (Z 5)) ++ ((wText cI (hq 7) (Z 7)) ++ ((wReh ha hq (Z 9)) ++ ((wPool cI (hq 6) (Z 6)) ++ []))))))))))) ((List.Perm.append_left _ (List.Perm.refl _)).trans (List.perm_append_comm_assoc _ _ _)) ?_
    refine wk_w (w' := wTV cI cP ha hq Z) rfl ?_
    exact hret _ _ _ dX5_count_187 rfl (Eq.symm (by rw [f5_count] <;> exact (st_neg c1 (st_neg c2 (st_neg c3 (st_neg c4 (st_neg c5 (st_neg c6 (st_neg c7 (st_neg c8 (st_neg c9 (st_pos c10 rfl))))))))))))
  by_cases c11 : p1 = (10 : Int32)
  · refine wk_top c11 ?_
    refine wk_tableIn (off := 187) (tgt := 188) F dX5_count_1 (by decide) (by decide) (by decide) (by decide) ?_
    refine wk_aload_n F dX5_count_188 rfl 0 rfl (pc' := 189) rfl ?_
    refine wk_get (C := RX5) (T := TX5) (N := 4) F 0 rfl rfl k_5 0 (Nat.le_of_ble_eq_true rfl) w_1 rfl dX5_count_189 (pc' := 192) rfl ?_
    refine wk_perm (w' := (wPool cI (hq 0) (Z 0)) ++ ((wTvo ha hq) ++ ((wHist cP ha hq (Z 8)) ++ ((wPool cI (hq 1) (Z 1)) ++ ((wPool cI (hq 2) (Z 2)) ++ ((wPool cI (hq 3) (Z 3)) ++ ((wPool cI (hq 4) (Z 4)) ++ ((wPool cI (hq 5) (Z 5)) ++ ((wText cI (hq 7) (Z 7)) ++ ((wReh ha hq (Z 9)) ++ ((wPool cI (hq 6) (Z 6)) ++ []))))))))))) ((List.Perm.append_left _ (List.Perm.refl _)).trans (List.perm_append_comm_assoc _ _ _)) ?_
    refine wk_get (C := RX1) (T := TX1) (N := 14) F 0 rfl rfl k_1 10 (Nat.le_of_ble_eq_true rfl) w_5 rfl dX5_count_192 (pc' := 195) rfl ?_
    refine wk_get (C := RX4) (T := TX4) (N := 4) F 11 rfl rfl k_4 3 (Nat.le_of_ble_eq_true rfl) w_6 rfl dX5_count_195 (pc' := 198) rfl ?_
    refine wk_perm (w' := (wTvo ha hq) ++ ((wPool cI (hq 0) (Z 0)) ++ ((wHist cP ha hq (Z 8)) ++ ((wPool cI (hq 1) (Z 1)) ++ ((wPool cI (hq 2) (Z 2)) ++ ((wPool cI (hq 3) (Z 3)) ++ ((wPool cI (hq 4) (Z 4)) ++ ((wPool cI (hq 5) (Z 5)) ++ ((wText cI (hq 7) (Z 7)) ++ ((wReh ha hq (Z 9)) ++ ((wPool cI (hq 6) (Z 6)) ++ []))))))))))) ((List.Perm.append_left _ (List.Perm.refl _)).trans (List.perm_append_comm_assoc _ _ _)) ?_
    refine wk_w (w' := wTV cI cP ha hq Z) rfl ?_
    exact hret _ _ _ dX5_count_198 rfl (Eq.symm (by rw [f5_count] <;> exact (st_neg c1 (st_neg c2 (st_neg c3 (st_neg c4 (st_neg c5 (st_neg c6 (st_neg c7 (st_neg c8 (st_neg c9 (st_neg c10 (st_pos c11 rfl)))))))))))))
  by_cases c12 : p1 = (11 : Int32)
  · refine wk_top c12 ?_
    refine wk_tableIn (off := 198) (tgt := 199) F dX5_count_1 (by decide) (by decide) (by decide) (by decide) ?_
    refine wk_aload_n F dX5_count_199 rfl 0 rfl (pc' := 200) rfl ?_
    refine wk_get (C := RX5) (T := TX5) (N := 4) F 0 rfl rfl k_5 1 (Nat.le_of_ble_eq_true rfl) w_7 rfl dX5_count_200 (pc' := 203) rfl ?_
    refine wk_perm (w' := (wHist cP ha hq (Z 8)) ++ ((wTvo ha hq) ++ ((wPool cI (hq 0) (Z 0)) ++ ((wPool cI (hq 1) (Z 1)) ++ ((wPool cI (hq 2) (Z 2)) ++ ((wPool cI (hq 3) (Z 3)) ++ ((wPool cI (hq 4) (Z 4)) ++ ((wPool cI (hq 5) (Z 5)) ++ ((wText cI (hq 7) (Z 7)) ++ ((wReh ha hq (Z 9)) ++ ((wPool cI (hq 6) (Z 6)) ++ []))))))))))) ((List.Perm.append_left _ ((List.Perm.append_left _ (List.Perm.refl _)).trans (List.perm_append_comm_assoc _ _ _))).trans (List.perm_append_comm_assoc _ _ _)) ?_
    refine wk_get (C := RX0) (T := TX0) (N := 2) F 0 rfl rfl k_0 1 (Nat.le_of_ble_eq_true rfl) w_8 rfl dX5_count_203 (pc' := 206) rfl ?_
    refine wk_perm (w' := (wPool cI (hq 0) (Z 0)) ++ ((wHist cP ha hq (Z 8)) ++ ((wTvo ha hq) ++ ((wPool cI (hq 1) (Z 1)) ++ ((wPool cI (hq 2) (Z 2)) ++ ((wPool cI (hq 3) (Z 3)) ++ ((wPool cI (hq 4) (Z 4)) ++ ((wPool cI (hq 5) (Z 5)) ++ ((wText cI (hq 7) (Z 7)) ++ ((wReh ha hq (Z 9)) ++ ((wPool cI (hq 6) (Z 6)) ++ []))))))))))) ((List.Perm.append_left _ ((List.Perm.append_left _ (List.Perm.refl _)).trans (List.perm_append_comm_assoc _ _ _))).trans (List.perm_append_comm_assoc _ _ _)) ?_
    refine wk_perm (w' := (wTvo ha hq) ++ ((wPool cI (hq 0) (Z 0)) ++ ((wHist cP ha hq (Z 8)) ++ ((wPool cI (hq 1) (Z 1)) ++ ((wPool cI (hq 2) (Z 2)) ++ ((wPool cI (hq 3) (Z 3)) ++ ((wPool cI (hq 4) (Z 4)) ++ ((wPool cI (hq 5) (Z 5)) ++ ((wText cI (hq 7) (Z 7)) ++ ((wReh ha hq (Z 9)) ++ ((wPool cI (hq 6) (Z 6)) ++ []))))))))))) ((List.Perm.append_left _ ((List.Perm.append_left _ (List.Perm.refl _)).trans (List.perm_append_comm_assoc _ _ _))).trans (List.perm_append_comm_assoc _ _ _)) ?_
    refine wk_w (w' := wTV cI cP ha hq Z) rfl ?_
    exact hret _ _ _ dX5_count_206 rfl (Eq.symm (by rw [f5_count] <;> exact (st_neg c1 (st_neg c2 (st_neg c3 (st_neg c4 (st_neg c5 (st_neg c6 (st_neg c7 (st_neg c8 (st_neg c9 (st_neg c10 (st_neg c11 (st_pos c12 rfl))))))))))))))
  by_cases c13 : p1 = (12 : Int32)
  · refine wk_top c13 ?_
    refine wk_tableIn (off := 206) (tgt := 207) F dX5_count_1 (by decide) (by decide) (by decide) (by decide) ?_
    refine wk_aload_n F dX5_count_207 rfl 0 rfl (pc' := 208) rfl ?_
    refine wk_get (C := RX5) (T := TX5) (N := 4) F 0 rfl rfl k_5 2 (Nat.le_of_ble_eq_true rfl) w_9 rfl dX5_count_208 (pc' := 211) rfl ?_
    refine wk_perm (w' := (wText cI (hq 7) (Z 7)) ++ ((wTvo ha hq) ++ ((wPool cI (hq 0) (Z 0)) ++ ((wHist cP ha hq (Z 8)) ++ ((wPool cI (hq 1) (Z 1)) ++ ((wPool cI (hq 2) (Z 2)) ++ ((wPool cI (hq 3) (Z 3)) ++ ((wPool cI (hq 4) (Z 4)) ++ ((wPool cI (hq 5) (Z 5)) ++ ((wReh ha hq (Z 9)) ++ ((wPool cI (hq 6) (Z 6)) ++ []))))))))))) ((List.Perm.append_left _ ((List.Perm.append_left _ ((List.Perm.append_left _ ((List.Perm.append_left _ ((List.Perm.append_left _ ((List.Perm.append_left _ ((List.Perm.append_left _ ((List.Perm.append_left _ (List.Perm.refl _)).trans (List.perm_append_comm_assoc _ _ _))).trans (List.perm_append_comm_assoc _ _ _))).trans (List.perm_append_comm_assoc _ _ _))).trans (List.perm_append_comm_assoc _ _ _))).trans (List.perm_append_comm_assoc _ _ _))).trans (List.perm_append_comm_assoc _ _ _))).trans (List.perm_append_comm_assoc _ _ _))).trans (List.perm_append_comm_assoc _ _ _)) ?_
    refine wk_get (C := RX3) (T := TX3) (N := 5) F 0 rfl rfl k_3 1 (Nat.le_of_ble_eq_true rfl) w_10 rfl dX5_count_211 (pc' := 214) rfl ?_
    refine wk_perm (w' := (wPool cI (hq 5) (Z 5)) ++ ((wText cI (hq 7) (Z 7)) ++ ((wTvo ha hq) ++ ((wPool cI (hq 0) (Z 0)) ++ ((wHist cP ha hq (Z 8)) ++ ((wPool cI (hq 1) (Z 1)) ++ ((wPool cI (hq 2) (Z 2)) ++ ((wPool cI (hq 3) (Z 3)) ++ ((wPool cI (hq 4) (Z 4)) ++ ((wReh ha hq (Z 9)) ++ ((wPool cI (hq 6) (Z 6)) ++ []))))))))))) ((List.Perm.append_left _ ((List.Perm.append_left _ ((List.Perm.append_left _ ((List.Perm.append_left _ ((List.Perm.append_left _ ((List.Perm.append_left _ ((List.Perm.append_left _ ((List.Perm.append_left _ (List.Perm.refl _)).trans (List.perm_append_comm_assoc _ _ _))).trans (List.perm_append_comm_assoc _ _ _))).trans (List.perm_append_comm_assoc _ _ _))).trans (List.perm_append_comm_assoc _ _ _))).trans (List.perm_append_comm_assoc _ _ _))).trans (List.perm_append_comm_assoc _ _ _))).trans (List.perm_append_comm_assoc _ _ _))).trans (List.perm_append_comm_assoc _ _ _)) ?_
    refine wk_perm (w' := (wPool cI (hq 4) (Z 4)) ++ ((wPool cI (hq 5) (Z 5)) ++ ((wText cI (hq 7) (Z 7)) ++ ((wTvo ha hq) ++ ((wPool cI (hq 0) (Z 0)) ++ ((wHist cP ha hq (Z 8)) ++ ((wPool cI (hq 1) (Z 1)) ++ ((wPool cI (hq 2) (Z 2)) ++ ((wPool cI (hq 3) (Z 3)) ++ ((wReh ha hq (Z 9)) ++ ((wPool cI (hq 6) (Z 6)) ++ []))))))))))) ((List.Perm.append_left _ ((List.Perm.append_left _ ((List.Perm.append_left _ ((List.Perm.append_left _ ((List.Perm.append_left _ ((List.Perm.append_left _ ((List.Perm.append_left _ ((List.Perm.append_left _ (List.Perm.refl _)).trans (List.perm_append_comm_assoc _ _ _))).trans (List.perm_append_comm_assoc _ _ _))).trans (List.perm_append_comm_assoc _ _ _))).trans (List.perm_append_comm_assoc _ _ _))).trans (List.perm_append_comm_assoc _ _ _))).trans (List.perm_append_comm_assoc _ _ _))).trans (List.perm_append_comm_assoc _ _ _))).trans (List.perm_append_comm_assoc _ _ _)) ?_
    refine wk_perm (w' := (wPool cI (hq 3) (Z 3)) ++ ((wPool cI (hq 4) (Z 4)) ++ ((wPool cI (hq 5) (Z 5)) ++ ((wText cI (hq 7) (Z 7)) ++ ((wTvo ha hq) ++ ((wPool cI (hq 0) (Z 0)) ++ ((wHist cP ha hq (Z 8)) ++ ((wPool cI (hq 1) (Z 1)) ++ ((wPool cI (hq 2) (Z 2)) ++ ((wReh ha hq (Z 9)) ++ ((wPool cI (hq 6) (Z 6)) ++ []))))))))))) ((List.Perm.append_left _ ((List.Perm.append_left _ ((List.Perm.append_left _ ((List.Perm.append_left _ ((List.Perm.append_left _ ((List.Perm.append_left _ ((List.Perm.append_left _ ((List.Perm.append_left _ (List.Perm.refl _)).trans (List.perm_append_comm_assoc _ _ _))).trans (List.perm_append_comm_assoc _ _ _))).trans (List.perm_append_comm_assoc _ _ _))).trans (List.perm_append_comm_assoc _ _ _))).trans (List.perm_append_comm_assoc _ _ _))).trans (List.perm_append_comm_assoc _ _ _))).trans (List.perm_append_comm_assoc _ _ _))).trans (List.perm_append_comm_assoc _ _ _)) ?_
    refine wk_perm (w' := (wPool cI (hq 2) (Z 2)) ++ ((wPool cI (hq 3) (Z 3)) ++ ((wPool cI (hq 4) (Z 4)) ++ ((wPool cI (hq 5) (Z 5)) ++ ((wText cI (hq 7) (Z 7)) ++ ((wTvo ha hq) ++ ((wPool cI (hq 0) (Z 0)) ++ ((wHist cP ha hq (Z 8)) ++ ((wPool cI (hq 1) (Z 1)) ++ ((wReh ha hq (Z 9)) ++ ((wPool cI (hq 6) (Z 6)) ++ []))))))))))) ((List.Perm.append_left _ ((List.Perm.append_left _ ((List.Perm.append_left _ ((List.Perm.append_left _ ((List.Perm.append_left _ ((List.Perm.append_left _ ((List.Perm.append_left _ ((List.Perm.append_left _ (List.Perm.refl _)).trans (List.perm_append_comm_assoc _ _ _))).trans (List.perm_append_comm_assoc _ _ _))).trans (List.perm_append_comm_assoc _ _ _))).trans (List.perm_append_comm_assoc _ _ _))).trans (List.perm_append_comm_assoc _ _ _))).trans (List.perm_append_comm_assoc _ _ _))).trans (List.perm_append_comm_assoc _ _ _))).trans (List.perm_append_comm_assoc _ _ _)) ?_
    refine wk_perm (w' := (wPool cI (hq 1) (Z 1)) ++ ((wPool cI (hq 2) (Z 2)) ++ ((wPool cI (hq 3) (Z 3)) ++ ((wPool cI (hq 4) (Z 4)) ++ ((wPool cI (hq 5) (Z 5)) ++ ((wText cI (hq 7) (Z 7)) ++ ((wTvo ha hq) ++ ((wPool cI (hq 0) (Z 0)) ++ ((wHist cP ha hq (Z 8)) ++ ((wReh ha hq (Z 9)) ++ ((wPool cI (hq 6) (Z 6)) ++ []))))))))))) ((List.Perm.append_left _ ((List.Perm.append_left _ ((List.Perm.append_left _ ((List.Perm.append_left _ ((List.Perm.append_left _ ((List.Perm.append_left _ ((List.Perm.append_left _ ((List.Perm.append_left _ (List.Perm.refl _)).trans (List.perm_append_comm_assoc _ _ _))).trans (List.perm_append_comm_assoc _ _ _))).trans (List.perm_append_comm_assoc _ _ _))).trans (List.perm_append_comm_assoc _ _ _))).trans (List.perm_append_comm_assoc _ _ _))).trans (List.perm_append_comm_assoc _ _ _))).trans (List.perm_append_comm_assoc _ _ _))).trans (List.perm_append_comm_assoc _ _ _)) ?_
    refine wk_perm (w' := (wHist cP ha hq (Z 8)) ++ ((wPool cI (hq 1) (Z 1)) ++ ((wPool cI (hq 2) (Z 2)) ++ ((wPool cI (hq 3) (Z 3)) ++ ((wPool cI (hq 4) (Z 4)) ++ ((wPool cI (hq 5) (Z 5)) ++ ((wText cI (hq 7) (Z 7)) ++ ((wTvo ha hq) ++ ((wPool cI (hq 0) (Z 0)) ++ ((wReh ha hq (Z 9)) ++ ((wPool cI (hq 6) (Z 6)) ++ []))))))))))) ((List.Perm.append_left _ ((List.Perm.append_left _ ((List.Perm.append_left _ ((List.Perm.append_left _ ((List.Perm.append_left _ ((List.Perm.append_left _ ((List.Perm.append_left _ ((List.Perm.append_left _ (List.Perm.refl _)).trans (List.perm_append_comm_assoc _ _ _))).trans (List.perm_append_comm_assoc _ _ _))).trans (List.perm_append_comm_assoc _ _ _))).trans (List.perm_append_comm_assoc _ _ _))).trans (List.perm_append_comm_assoc _ _ _))).trans (List.perm_append_comm_assoc _ _ _))).trans (List.perm_append_comm_assoc _ _ _))).trans (List.perm_append_comm_assoc _ _ _)) ?_
    refine wk_perm (w' := (wPool cI (hq 0) (Z 0)) ++ ((wHist cP ha hq (Z 8)) ++ ((wPool cI (hq 1) (Z 1)) ++ ((wPool cI (hq 2) (Z 2)) ++ ((wPool cI (hq 3) (Z 3)) ++ ((wPool cI (hq 4) (Z 4)) ++ ((wPool cI (hq 5) (Z 5)) ++ ((wText cI (hq 7) (Z 7)) ++ ((wTvo ha hq) ++ ((wReh ha hq (Z 9)) ++ ((wPool cI (hq 6) (Z 6)) ++ []))))))))))) ((List.Perm.append_left _ ((List.Perm.append_left _ ((List.Perm.append_left _ ((List.Perm.append_left _ ((List.Perm.append_left _ ((List.Perm.append_left _ ((List.Perm.append_left _ ((List.Perm.append_left _ (List.Perm.refl _)).trans (List.perm_append_comm_assoc _ _ _))).trans (List.perm_append_comm_assoc _ _ _))).trans (List.perm_append_comm_assoc _ _ _))).trans (List.perm_append_comm_assoc _ _ _))).trans (List.perm_append_comm_assoc _ _ _))).trans (List.perm_append_comm_assoc _ _ _))).trans (List.perm_append_comm_assoc _ _ _))).trans (List.perm_append_comm_assoc _ _ _)) ?_
    refine wk_perm (w' := (wTvo ha hq) ++ ((wPool cI (hq 0) (Z 0)) ++ ((wHist cP ha hq (Z 8)) ++ ((wPool cI (hq 1) (Z 1)) ++ ((wPool cI (hq 2) (Z 2)) ++ ((wPool cI (hq 3) (Z 3)) ++ ((wPool cI (hq 4) (Z 4)) ++ ((wPool cI (hq 5) (Z 5)) ++ ((wText cI (hq 7) (Z 7)) ++ ((wReh ha hq (Z 9)) ++ ((wPool cI (hq 6) (Z 6)) ++ []))))))))))) ((List.Perm.append_left _ ((List.Perm.append_left _ ((List.Perm.append_left _ ((List.Perm.append_left _ ((List.Perm.append_left _ ((List.Perm.append_left _ ((List.Perm.append_left _ ((List.Perm.append_left _ (List.Perm.refl _)).trans (List.perm_append_comm_assoc _ _ _))).trans (List.perm_append_comm_assoc _ _ _))).trans (List.perm_append_comm_assoc _ _ _))).trans (List.perm_append_comm_assoc _ _ _))).trans (List.perm_append_comm_assoc _ _ _))).trans (List.perm_append_comm_assoc _ _ _))).trans (List.perm_append_comm_assoc _ _ _))).trans (List.perm_append_comm_assoc _ _ _)) ?_
    refine wk_w (w' := wTV cI cP ha hq Z) rfl ?_
    exact hret _ _ _ dX5_count_214 rfl (Eq.symm (by rw [f5_count] <;> exact (st_neg c1 (st_neg c2 (st_neg c3 (st_neg c4 (st_neg c5 (st_neg c6 (st_neg c7 (st_neg c8 (st_neg c9 (st_neg c10 (st_neg c11 (st_neg c12 (st_pos c13 rfl)))))))))))))))
  by_cases c14 : p1 = (20 : Int32)
  · refine wk_top c14 ?_
    refine wk_tableIn (off := 214) (tgt := 215) F dX5_count_1 (by decide) (by decide) (by decide) (by decide) ?_
    refine wk_aload_n F dX5_count_215 rfl 0 rfl (pc' := 216) rfl ?_
    refine wk_get (C := RX5) (T := TX5) (N := 4) F 0 rfl rfl k_5 0 (Nat.le_of_ble_eq_true rfl) w_1 rfl dX5_count_216 (pc' := 219) rfl ?_
    refine wk_perm (w' := (wPool cI (hq 0) (Z 0)) ++ ((wTvo ha hq) ++ ((wHist cP ha hq (Z 8)) ++ ((wPool cI (hq 1) (Z 1)) ++ ((wPool cI (hq 2) (Z 2)) ++ ((wPool cI (hq 3) (Z 3)) ++ ((wPool cI (hq 4) (Z 4)) ++ ((wPool cI (hq 5) (Z 5)) ++ ((wText cI (hq 7) (Z 7)) ++ ((wReh ha hq (Z 9)) ++ ((wPool cI (hq 6) (Z 6)) ++ []))))))))))) ((List.Perm.append_left _ (List.Perm.refl _)).trans (List.perm_append_comm_assoc _ _ _)) ?_
    refine wk_get (C := RX1) (T := TX1) (N := 14) F 0 rfl rfl k_1 9 (Nat.le_of_ble_eq_true rfl) w_11 rfl dX5_count_219 (pc' := 222) rfl ?_
    refine wk_iconst F dX5_count_222 ic_0 (pc' := 223) rfl ?_
    refine wk_iald_n (i := 0) F 10 0 rfl rfl (by omega) (Nat.le_of_ble_eq_true rfl) dX5_count_223 (pc' := 224) rfl ?_
    refine wk_perm (w' := (wTvo ha hq) ++ ((wPool cI (hq 0) (Z 0)) ++ ((wHist cP ha hq (Z 8)) ++ ((wPool cI (hq 1) (Z 1)) ++ ((wPool cI (hq 2) (Z 2)) ++ ((wPool cI (hq 3) (Z 3)) ++ ((wPool cI (hq 4) (Z 4)) ++ ((wPool cI (hq 5) (Z 5)) ++ ((wText cI (hq 7) (Z 7)) ++ ((wReh ha hq (Z 9)) ++ ((wPool cI (hq 6) (Z 6)) ++ []))))))))))) ((List.Perm.append_left _ (List.Perm.refl _)).trans (List.perm_append_comm_assoc _ _ _)) ?_
    refine wk_w (w' := wTV cI cP ha hq Z) rfl ?_
    exact hret _ _ _ dX5_count_224 rfl (Eq.symm (by rw [f5_count] <;> exact (st_neg c1 (st_neg c2 (st_neg c3 (st_neg c4 (st_neg c5 (st_neg c6 (st_neg c7 (st_neg c8 (st_neg c9 (st_neg c10 (st_neg c11 (st_neg c12 (st_neg c13 (st_pos c14 rfl))))))))))))))))
  by_cases c15 : p1 = (21 : Int32)
  · refine wk_top c15 ?_
    refine wk_tableIn (off := 224) (tgt := 225) F dX5_count_1 (by decide) (by decide) (by decide) (by decide) ?_
    refine wk_aload_n F dX5_count_225 rfl 0 rfl (pc' := 226) rfl ?_
    refine wk_get (C := RX5) (T := TX5) (N := 4) F 0 rfl rfl k_5 0 (Nat.le_of_ble_eq_true rfl) w_1 rfl dX5_count_226 (pc' := 229) rfl ?_
    refine wk_perm (w' := (wPool cI (hq 0) (Z 0)) ++ ((wTvo ha hq) ++ ((wHist cP ha hq (Z 8)) ++ ((wPool cI (hq 1) (Z 1)) ++ ((wPool cI (hq 2) (Z 2)) ++ ((wPool cI (hq 3) (Z 3)) ++ ((wPool cI (hq 4) (Z 4)) ++ ((wPool cI (hq 5) (Z 5)) ++ ((wText cI (hq 7) (Z 7)) ++ ((wReh ha hq (Z 9)) ++ ((wPool cI (hq 6) (Z 6)) ++ []))))))))))) ((List.Perm.append_left _ (List.Perm.refl _)).trans (List.perm_append_comm_assoc _ _ _)) ?_
    refine wk_get (C := RX1) (T := TX1) (N := 14) F 0 rfl rfl k_1 9 (Nat.le_of_ble_eq_true rfl) w_11 rfl dX5_count_229 (pc' := 232) rfl ?_
    refine wk_iconst F dX5_count_232 ic_1 (pc' := 233) rfl ?_
    refine wk_iald_n (i := 1) F 10 0 rfl rfl (by omega) (Nat.le_of_ble_eq_true rfl) dX5_count_233 (pc' := 234) rfl ?_
    refine wk_perm (w' := (wTvo ha hq) ++ ((wPool cI (hq 0) (Z 0)) ++ ((wHist cP ha hq (Z 8)) ++ ((wPool cI (hq 1) (Z 1)) ++ ((wPool cI (hq 2) (Z 2)) ++ ((wPool cI (hq 3) (Z 3)) ++ ((wPool cI (hq 4) (Z 4)) ++ ((wPool cI (hq 5) (Z 5)) ++ ((wText cI (hq 7) (Z 7)) ++ ((wReh ha hq (Z 9)) ++ ((wPool cI (hq 6) (Z 6)) ++ []))))))))))) ((List.Perm.append_left _ (List.Perm.refl _)).trans (List.perm_append_comm_assoc _ _ _)) ?_
    refine wk_w (w' := wTV cI cP ha hq Z) rfl ?_
    exact hret _ _ _ dX5_count_234 rfl (Eq.symm (by rw [f5_count] <;> exact (st_neg c1 (st_neg c2 (st_neg c3 (st_neg c4 (st_neg c5 (st_neg c6 (st_neg c7 (st_neg c8 (st_neg c9 (st_neg c10 (st_neg c11 (st_neg c12 (st_neg c13 (st_neg c14 (st_pos c15 rfl)))))))))))))))))
  by_cases c16 : p1 = (22 : Int32)
  · refine wk_top c16 ?_
    refine wk_tableIn (off := 234) (tgt := 235) F dX5_count_1 (by decide) (by decide) (by decide) (by decide) ?_
    refine wk_aload_n F dX5_count_235 rfl 0 rfl (pc' := 236) rfl ?_
    refine wk_get (C := RX5) (T := TX5) (N := 4) F 0 rfl rfl k_5 0 (Nat.le_of_ble_eq_true rfl) w_1 rfl dX5_count_236 (pc' := 239) rfl ?_
    refine wk_perm (w' := (wPool cI (hq 0) (Z 0)) ++ ((wTvo ha hq) ++ ((wHist cP ha hq (Z 8)) ++ ((wPool cI (hq 1) (Z 1)) ++ ((wPool cI (hq 2) (Z 2)) ++ ((wPool cI (hq 3) (Z 3)) ++ ((wPool cI (hq 4) (Z 4)) ++ ((wPool cI (hq 5) (Z 5)) ++ ((wText cI (hq 7) (Z 7)) ++ ((wReh ha hq (Z 9)) ++ ((wPool cI (hq 6) (Z 6)) ++ []))))))))))) ((List.Perm.append_left _ (List.Perm.refl _)).trans (List.perm_append_comm_assoc _ _ _)) ?_
    refine wk_get (C := RX1) (T := TX1) (N := 14) F 0 rfl rfl k_1 9 (Nat.le_of_ble_eq_true rfl) w_11 rfl dX5_count_239 (pc' := 242) rfl ?_
    refine wk_iconst F dX5_count_242 ic_2 (pc' := 243) rfl ?_
    refine wk_iald_n (i := 2) F 10 0 rfl rfl (by omega) (Nat.le_of_ble_eq_true rfl) dX5_count_243 (pc' := 244) rfl ?_
    refine wk_perm (w' := (wTvo ha hq) ++ ((wPool cI (hq 0) (Z 0)) ++ ((wHist cP ha hq (Z 8)) ++ ((wPool cI (hq 1) (Z 1)) ++ ((wPool cI (hq 2) (Z 2)) ++ ((wPool cI (hq 3) (Z 3)) ++ ((wPool cI (hq 4) (Z 4)) ++ ((wPool cI (hq 5) (Z 5)) ++ ((wText cI (hq 7) (Z 7)) ++ ((wReh ha hq (Z 9)) ++ ((wPool cI (hq 6) (Z 6)) ++ []))))))))))) ((List.Perm.append_left _ (List.Perm.refl _)).trans (List.perm_append_comm_assoc _ _ _)) ?_
    refine wk_w (w' := wTV cI cP ha hq Z) rfl ?_
    exact hret _ _ _ dX5_count_244 rfl (Eq.symm (by rw [f5_count] <;> exact (st_neg c1 (st_neg c2 (st_neg c3 (st_neg c4 (st_neg c5 (st_neg c6 (st_neg c7 (st_neg c8 (st_neg c9 (st_neg c10 (st_neg c11 (st_neg c12 (st_neg c13 (st_neg c14 (st_neg c15 (st_pos c16 rfl))))))))))))))))))
  by_cases c17 : p1 = (13 : Int32)
  · refine wk_top c17 ?_
    refine wk_tableIn (off := 244) (tgt := 245) F dX5_count_1 (by decide) (by decide) (by decide) (by decide) ?_
    refine wk_ldc F dX5_count_245 w_12 (pc' := 247) rfl ?_
    refine wk_w (w' := wTV cI cP ha hq Z) rfl ?_
    exact hret _ _ _ dX5_count_247 rfl (Eq.symm (by rw [f5_count] <;> exact (st_neg c1 (st_neg c2 (st_neg c3 (st_neg c4 (st_neg c5 (st_neg c6 (st_neg c7 (st_neg c8 (st_neg c9 (st_neg c10 (st_neg c11 (st_neg c12 (st_neg c13 (st_neg c14 (st_neg c15 (st_neg c16 rfl))))))))))))))))))
  by_cases c18 : p1 = (14 : Int32)
  · refine wk_top c18 ?_
    refine wk_tableIn (off := 244) (tgt := 245) F dX5_count_1 (by decide) (by decide) (by decide) (by decide) ?_
    refine wk_ldc F dX5_count_245 w_12 (pc' := 247) rfl ?_
    refine wk_w (w' := wTV cI cP ha hq Z) rfl ?_
    exact hret _ _ _ dX5_count_247 rfl (Eq.symm (by rw [f5_count] <;> exact (st_neg c1 (st_neg c2 (st_neg c3 (st_neg c4 (st_neg c5 (st_neg c6 (st_neg c7 (st_neg c8 (st_neg c9 (st_neg c10 (st_neg c11 (st_neg c12 (st_neg c13 (st_neg c14 (st_neg c15 (st_neg c16 rfl))))))))))))))))))
  by_cases c19 : p1 = (15 : Int32)
  · refine wk_top c19 ?_
    refine wk_tableIn (off := 244) (tgt := 245) F dX5_count_1 (by decide) (by decide) (by decide) (by decide) ?_
    refine wk_ldc F dX5_count_245 w_12 (pc' := 247) rfl ?_
    refine wk_w (w' := wTV cI cP ha hq Z) rfl ?_
    exact hret _ _ _ dX5_count_247 rfl (Eq.symm (by rw [f5_count] <;> exact (st_neg c1 (st_neg c2 (st_neg c3 (st_neg c4 (st_neg c5 (st_neg c6 (st_neg c7 (st_neg c8 (st_neg c9 (st_neg c10 (st_neg c11 (st_neg c12 (st_neg c13 (st_neg c14 (st_neg c15 (st_neg c16 rfl))))))))))))))))))
  by_cases c20 : p1 = (16 : Int32)
  · refine wk_top c20 ?_
    refine wk_tableIn (off := 244) (tgt := 245) F dX5_count_1 (by decide) (by decide) (by decide) (by decide) ?_
    refine wk_ldc F dX5_count_245 w_12 (pc' := 247) rfl ?_
    refine wk_w (w' := wTV cI cP ha hq Z) rfl ?_
    exact hret _ _ _ dX5_count_247 rfl (Eq.symm (by rw [f5_count] <;> exact (st_neg c1 (st_neg c2 (st_neg c3 (st_neg c4 (st_neg c5 (st_neg c6 (st_neg c7 (st_neg c8 (st_neg c9 (st_neg c10 (st_neg c11 (st_neg c12 (st_neg c13 (st_neg c14 (st_neg c15 (st_neg c16 rfl))))))))))))))))))
  by_cases c21 : p1 = (17 : Int32)
  · refine wk_top c21 ?_
    refine wk_tableIn (off := 244) (tgt := 245) F dX5_count_1 (by decide) (by decide) (by decide) (by decide) ?_
    refine wk_ldc F dX5_count_245 w_12 (pc' := 247) rfl ?_
    refine wk_w (w' := wTV cI cP ha hq Z) rfl ?_
    exact hret _ _ _ dX5_count_247 rfl (Eq.symm (by rw [f5_count] <;> exact (st_neg c1 (st_neg c2 (st_neg c3 (st_neg c4 (st_neg c5 (st_neg c6 (st_neg c7 (st_neg c8 (st_neg c9 (st_neg c10 (st_neg c11 (st_neg c12 (st_neg c13 (st_neg c14 (st_neg c15 (st_neg c16 rfl))))))))))))))))))
  by_cases c22 : p1 = (18 : Int32)
  · refine wk_top c22 ?_
    refine wk_tableIn (off := 244) (tgt := 245) F dX5_count_1 (by decide) (by decide) (by decide) (by decide) ?_
    refine wk_ldc F dX5_count_245 w_12 (pc' := 247) rfl ?_
    refine wk_w (w' := wTV cI cP ha hq Z) rfl ?_
    exact hret _ _ _ dX5_count_247 rfl (Eq.symm (by rw [f5_count] <;> exact (st_neg c1 (st_neg c2 (st_neg c3 (st_neg c4 (st_neg c5 (st_neg c6 (st_neg c7 (st_neg c8 (st_neg c9 (st_neg c10 (st_neg c11 (st_neg c12 (st_neg c13 (st_neg c14 (st_neg c15 (st_neg c16 rfl))))))))))))))))))
  by_cases c23 : p1 = (19 : Int32)
  · refine wk_top c23 ?_
    refine wk_tableIn (off := 244) (tgt := 245) F dX5_count_1 (by decide) (by decide) (by decide) (by decide) ?_
    refine wk_ldc F dX5_count_245 w_12 (pc' := 247) rfl ?_
    refine wk_w (w' := wTV cI cP ha hq Z) rfl ?_
    exact hret _ _ _ dX5_count_247 rfl (Eq.symm (by rw [f5_count] <;> exact (st_neg c1 (st_neg c2 (st_neg c3 (st_neg c4 (st_neg c5 (st_neg c6 (st_neg c7 (st_neg c8 (st_neg c9 (st_neg c10 (st_neg c11 (st_neg c12 (st_neg c13 (st_neg c14 (st_neg c15 (st_neg c16 rfl))))))))))))))))))
  refine wk_tableOut (tgt := 245) F dX5_count_1 (by have ec1 := ti_ne (k := 0) c1 (by decide); have ec2 := ti_ne (k := 1) c2 (by decide); have ec3 := ti_ne (k := 2) c3 (by decide); have ec4 := ti_ne (k := 3) c4 (by decide); have ec5 := ti_ne (k := 4) c5 (by decide); have ec6 := ti_ne (k := 5) c6 (by decide); have ec7 := ti_ne (k := 6) c7 (by decide); have ec8 := ti_ne (k := 7) c8 (by decide); have ec9 := ti_ne (k := 8) c9 (by decide); have ec10 := ti_ne (k := 9) c10 (by decide); have ec11 := ti_ne (k := 10) c11 (by decide); have ec12 := ti_ne (k := 11) c12 (by decide); have ec13 := ti_ne (k := 12) c13 (by decide); have ec14 := ti_ne (k := 20) c14 (by decide); have ec15 := ti_ne (k := 21) c15 (by decide); have ec16 := ti_ne (k := 22) c16 (by decide); have ec17 := ti_ne (k := 13) c17 (by decide); have ec18 := ti_ne (k := 14) c18 (by decide); have ec19 := ti_ne (k := 15) c19 (by decide); have ec20 := ti_ne (k := 16) c20 (by decide); have ec21 := ti_ne (k := 17) c21 (by decide); have ec22 := ti_ne (k := 18) c22 (by decide); have ec23 := ti_ne (k := 19) c23 (by decide); omega) (by decide) ?_
  refine wk_ldc F dX5_count_245 w_12 (pc' := 247) rfl ?_
  refine wk_w (w' := wTV cI cP ha hq Z) rfl ?_
  exact hret _ _ _ dX5_count_247 rfl (Eq.symm (by rw [f5_count] <;> exact (st_neg c1 (st_neg c2 (st_neg c3 (st_neg c4 (st_neg c5 (st_neg c6 (st_neg c7 (st_neg c8 (st_neg c9 (st_neg c10 (st_neg c11 (st_neg c12 (st_neg c13 (st_neg c14 (st_neg c15 (st_neg c16 rfl))))))))))))))))))
def f5_type (Z : ST) (p1 : Int32) : Int32 × ST := (if p1 < (32 : Int32) then ((-1000001 : Int32), Z) else (if p1 ≤ (126 : Int32) then (sq2 (f3_append (Z 7) p1) (fun (r4 : Int32) (u3 : PS) => (if r4 = 0 then ((-1000003 : Int32), mkZ (Z 0) (Z 1) (Z 2) (Z 3) (Z 4) (Z 5) (Z 6) u3 (Z 8) (Z 9)) else (u3 2 0, mkZ (Z 0) (Z 1) (Z 2) (Z 3) (Z 4) (Z 5) (Z 6) u3 (Z 8) (Z 9))))) else ((-1000001 : Int32), Z)))
set_option maxHeartbeats 4000000 in
set_option maxRecDepth 100000 in
theorem c5_type (l : Launch) (D : va_G) (cI cP : ClassId) (ha : Nat → Nat) (hq : Nat → Nat → Nat) (Z : ST) (p1 : Int32) : CI l yX5_type wsX5_type ({ frames := 1, cells := 0, slots := 0, locals := 21 } : Room) D (cty cI cP) (wTV cI cP ha hq Z) (wTV cI cP ha hq) [.ref (ha 0), .int p1] 0 0 (fun r u => f5_type Z p1 = (r, u)) := by
  refine CI.of (cc := cX5_type) (maxL := 2) (rt := .int) (own := RX5) (lv0 := [(0, .ref (ha 0)), (1, .int p1)]) pnX5 rfl rfl (Nat.le_of_ble_eq_true rfl) rfl (fun p e s m args below meth c A Q F hret => ?_)
  have w_1 := F.at (x := Cond.constant RX5 79 (-1000001)) 1 rfl
  have w_2 := F.at (x := Cond.fieldLink RX5 26 "ThinVolumes" "text" "LThinVolumes$Text;") 2 rfl
  have w_4 := F.at (x := Cond.constant RX5 213 (-1000003)) 4 rfl
  have w_3 := F.at (x := Cond.fieldLink RX5 199 "ThinVolumes$Text" "length" "I") 3 rfl
  refine wk_w (w' := (wTvo ha hq) ++ ((wPool cI (hq 0) (Z 0)) ++ ((wHist cP ha hq (Z 8)) ++ ((wPool cI (hq 1) (Z 1)) ++ ((wPool cI (hq 2) (Z 2)) ++ ((wPool cI (hq 3) (Z 3)) ++ ((wPool cI (hq 4) (Z 4)) ++ ((wPool cI (hq 5) (Z 5)) ++ ((wText cI (hq 7) (Z 7)) ++ ((wReh ha hq (Z 9)) ++ ((wPool cI (hq 6) (Z 6)) ++ []))))))))))) rfl ?_
  have k_3 : ∀ w ∈ wsX30, w ∈ wsX5_type := fun _ h => List.mem_cons_of_mem _ (List.mem_append_right _ (h))
  have k_5 : ∀ w ∈ wsX50, w ∈ wsX5_type := fun _ h => List.mem_cons_of_mem _ (List.mem_append_left _ (List.mem_append_right _ (h)))
  refine wk_iload_n F dX5_type_0 rfl 1 rfl (pc' := 1) rfl ?_
  refine wk_bipush F dX5_type_1 bp_32 (pc' := 3) rfl ?_
  refine wk_icmp_lt (tgt := 12) F dX5_type_3 (by decide) (pc' := 6) rfl (fun c1 => ?_) (fun c1 => ?_)
  · refine wk_ldc F dX5_type_12 w_1 (pc' := 14) rfl ?_
    refine wk_w (w' := wTV cI cP ha hq Z) rfl ?_
    exact hret _ _ _ _ dX5_type_14 rfl (by rw [f5_type] <;> exact (st_pos c1 rfl))
  · refine wk_iload_n F dX5_type_6 rfl 1 rfl (pc' := 7) rfl ?_
    refine wk_bipush F dX5_type_7 bp_126 (pc' := 9) rfl ?_
    refine wk_icmp_le (tgt := 15) F dX5_type_9 (by decide) (pc' := 12) rfl (fun c2 => ?_) (fun c2 => ?_)
    · refine wk_aload_n F dX5_type_15 rfl 0 rfl (pc' := 16) rfl ?_
      refine wk_get (C := RX5) (T := TX5) (N := 4) F 0 rfl rfl k_5 2 (Nat.le_of_ble_eq_true rfl) w_2 rfl dX5_type_16 (pc' := 19) rfl ?_
      refine wk_iload_n F dX5_type_19 rfl 1 rfl (pc' := 20) rfl ?_
      refine wk_perm (w' := (wText cI (hq 7) (Z 7)) ++ ((wTvo ha hq) ++ ((wPool cI (hq 0) (Z 0)) ++ ((wHist cP ha hq (Z 8)) ++ ((wPool cI (hq 1) (Z 1)) ++ ((wPool cI (hq 2) (Z 2)) ++ ((wPool cI (hq 3) (Z 3)) ++ ((wPool cI (hq 4) (Z 4)) ++ ((wPool cI (hq 5) (Z 5)) ++ ((wReh ha hq (Z 9)) ++ ((wPool cI (hq 6) (Z 6)) ++ []))))))))))) ((List.Perm.append_left _ ((List.Perm.append_left _ ((List.Perm.append_left _ ((List.Perm.append_left _ ((List.Perm.append_left _ ((List.Perm.append_left _ ((List.Perm.append_left _ ((List.Perm.append_left _ (List.Perm.refl _)).trans (List.perm_append_comm_assoc _ _ _))).trans (List.perm_append_comm_assoc _ _ _))).trans (List.perm_append_comm_assoc _ _ _))).trans (List.perm_append_comm_assoc _ _ _))).trans (List.perm_append_comm_assoc _ _ _))).trans (List.perm_append_comm_assoc _ _ _))).trans (List.perm_append_comm_assoc _ _ _))).trans (List.perm_append_comm_assoc _ _ _)) ?_
      refine wk_fr_i F (c3_append l D cI cP (hq 7) (Z 7) p1) (cwV 1 F.hts gX5_type_X3_append rfl rfl rfl hdX3_append ⟨Nat.le_of_ble_eq_true rfl, Nat.le_of_ble_eq_true rfl⟩) 0 3 rfl rfl rfl rfl (Nat.le_of_ble_eq_true rfl) dX5_type_20 ⟨Nat.zero_le _, Nat.zero_le _⟩ (pc' := 23) rfl (fun r4 u3 h5 => ?_)
      refine wk_if_eq (tgt := 36) F dX5_type_23 (by decide) (pc' := 26) rfl (fun c6 => ?_) (fun c6 => ?_)
      · refine wk_ldc F dX5_type_36 w_4 (pc' := 38) rfl ?_
        refine wk_perm (w' := (wPool cI (hq 5) (Z 5)) ++ ((wText cI (hq 7) u3) ++ ((wTvo ha hq) ++ ((wPool cI (hq 0) (Z 0)) ++ ((wHist cP ha hq (Z 8)) ++ ((wPool cI (hq 1) (Z 1)) ++ ((wPool cI (hq 2) (Z 2)) ++ ((wPool cI (hq 3) (Z 3)) ++ ((wPool cI (hq 4) (Z 4)) ++ ((wReh ha hq (Z 9)) ++ ((wPool cI (hq 6) (Z 6)) ++ []))))))))))) ((List.Perm.append_left _ ((List.Perm.append_left _ ((List.Perm.append_left _ ((List.Perm.append_left _ ((List.Perm.append_left _ ((List.Perm.append_left _ ((List.Perm.append_left _ ((List.Perm.append_left _ (List.Perm.refl _)).trans (List.perm_append_comm_assoc _ _ _))).trans (List.perm_append_comm_assoc _ _ _))).trans (List.perm_append_comm_assoc _ _ _))).trans (List.perm_append_comm_assoc _ _ _))).trans (List.perm_append_comm_assoc _ _ _))).trans (List.perm_append_comm_assoc _ _ _))).trans (List.perm_append_comm_assoc _ _ _))).trans (List.perm_append_comm_assoc _ _ _)) ?_
        refine wk_perm (w' := (wPool cI (hq 4) (Z 4)) ++ ((wPool cI (hq 5) (Z 5)) ++ ((wText cI (hq 7) u3) ++ ((wTvo ha hq) ++ ((wPool cI (hq 0) (Z 0)) ++ ((wHist cP ha hq (Z 8)) ++ ((wPool cI (hq 1) (Z 1)) ++ ((wPool cI (hq 2) (Z 2)) ++ ((wPool cI (hq 3) (Z 3)) ++ ((wReh ha hq (Z 9)) ++ ((wPool cI (hq 6) (Z 6)) ++ []))))))))))) ((List.Perm.append_left _ ((List.Perm.append_left _ ((List.Perm.append_left _ ((List.Perm.append_left _ ((List.Perm.append_left _ ((List.Perm.append_left _ ((List.Perm.append_left _ ((List.Perm.append_left _ (List.Perm.refl _)).trans (List.perm_append_comm_assoc _ _ _))).trans (List.perm_append_comm_assoc _ _ _))).trans (List.perm_append_comm_assoc _ _ _))).trans (List.perm_append_comm_assoc _ _ _))).trans (List.perm_append_comm_assoc _ _ _))).trans (List.perm_append_comm_assoc _ _ _))).trans (List.perm_append_comm_assoc _ _ _))).trans (List.perm_append_comm_assoc _ _ _)) ?_
        refine wk_perm (w' := (wPool cI (hq 3) (Z 3)) ++ ((wPool cI (hq 4) (Z 4)) ++ ((wPool cI (hq 5) (Z 5)) ++ ((wText cI (hq 7) u3) ++ ((wTvo ha hq) ++ ((wPool cI (hq 0) (Z 0)) ++ ((wHist cP ha hq (Z 8)) ++ ((wPool cI (hq 1) (Z 1)) ++ ((wPool cI (hq 2) (Z 2)) ++ ((wReh ha hq (Z 9)) ++ ((wPool cI (hq 6) (Z 6)) ++ []))))))))))) ((List.Perm.append_left _ ((List.Perm.append_left _ ((List.Perm.append_left _ ((List.Perm.append_left _ ((List.Perm.append_left _ ((List.Perm.append_left _ ((List.Perm.append_left _ ((List.Perm.append_left _ (List.Perm.refl _)).trans (List.perm_append_comm_assoc _ _ _))).trans (List.perm_append_comm_assoc _ _ _))).trans (List.perm_append_comm_assoc _ _ _))).trans (List.perm_append_comm_assoc _ _ _))).trans (List.perm_append_comm_assoc _ _ _))).trans (List.perm_append_comm_assoc _ _ _))).trans (List.perm_append_comm_assoc _ _ _))).trans (List.perm_append_comm_assoc _ _ _)) ?_
        refine wk_perm (w' := (wPool cI (hq 2) (Z 2)) ++ ((wPool cI (hq 3) (Z 3)) ++ ((wPool cI (hq 4) (Z 4)) ++ ((wPool cI (hq 5) (Z 5)) ++ ((wText cI (hq 7) u3) ++ ((wTvo ha hq) ++ ((wPool cI (hq 0) (Z 0)) ++ ((wHist cP ha hq (Z 8)) ++ ((wPool cI (hq 1) (Z 1)) ++ ((wReh ha hq (Z 9)) ++ ((wPool cI (hq 6) (Z 6)) ++ []))))))))))) ((List.Perm.append_left _ ((List.Perm.append_left _ ((List.Perm.append_left _ ((List.Perm.append_left _ ((List.Perm.append_left _ ((List.Perm.append_left _ ((List.Perm.append_left _ ((List.Perm.append_left _ (List.Perm.refl _)).trans (List.perm_append_comm_assoc _ _ _))).trans (List.perm_append_comm_assoc _ _ _))).trans (List.perm_append_comm_assoc _ _ _))).trans (List.perm_append_comm_assoc _ _ _))).trans (List.perm_append_comm_assoc _ _ _))).trans (List.perm_append_comm_assoc _ _ _))).trans (List.perm_append_comm_assoc _ _ _))).trans (List.perm_append_comm_assoc _ _ _)) ?_
        refine wk_perm (w' := (wPool cI (hq 1) (Z 1)) ++ ((wPool cI (hq 2) (Z 2)) ++ ((wPool cI (hq 3) (Z 3)) ++ ((wPool cI (hq 4) (Z 4)) ++ ((wPool cI (hq 5) (Z 5)) ++ ((wText cI (hq 7) u3) ++ ((wTvo ha hq) ++ ((wPool cI (hq 0) (Z 0)) ++ ((wHist cP ha hq (Z 8)) ++ ((wReh ha hq (Z 9)) ++ ((wPool cI (hq 6) (Z 6)) ++ []))))))))))) ((List.Perm.append_left _ ((List.Perm.append_left _ ((List.Perm.append_left _ ((List.Perm.append_left _ ((List.Perm.append_left _ ((List.Perm.append_left _ ((List.Perm.append_left _ ((List.Perm.append_left _ (List.Perm.refl _)).trans (List.perm_append_comm_assoc _ _ _))).trans (List.perm_append_comm_assoc _ _ _))).trans (List.perm_append_comm_assoc _ _ _))).trans (List.perm_append_comm_assoc _ _ _))).trans (List.perm_append_comm_assoc _ _ _))).trans (List.perm_append_comm_assoc _ _ _))).trans (List.perm_append_comm_assoc _ _ _))).trans (List.perm_append_comm_assoc _ _ _)) ?_
        refine wk_perm (w' := (wHist cP ha hq (Z 8)) ++ ((wPool cI (hq 1) (Z 1)) ++ ((wPool cI (hq 2) (Z 2)) ++ ((wPool cI (hq 3) (Z 3)) ++ ((wPool cI (hq 4) (Z 4)) ++ ((wPool cI (hq 5) (Z 5)) ++ ((wText cI (hq 7) u3) ++ ((wTvo ha hq) ++ ((wPool cI (hq 0) (Z 0)) ++ ((wReh ha hq (Z 9)) ++ ((wPool cI (hq 6) (Z 6)) ++ []))))))))))) ((List.Perm.append_left _ ((List.Perm.append_left _ ((List.Perm.append_left _ ((List.Perm.append_left _ ((List.Perm.append_left _ ((List.Perm.append_left _ ((List.Perm.append_left _ ((List.Perm.append_left _ (List.Perm.refl _)).trans (List.perm_append_comm_assoc _ _ _))).trans (List.perm_append_comm_assoc _ _ _))).trans (List.perm_append_comm_assoc _ _ _))).trans (List.perm_append_comm_assoc _ _ _))).trans (List.perm_append_comm_assoc _ _ _))).trans (List.perm_append_comm_assoc _ _ _))).trans (List.perm_append_comm_assoc _ _ _))).trans (List.perm_append_comm_assoc _ _ _)) ?_
        refine wk_perm (w' := (wPool cI (hq 0) (Z 0)) ++ ((wHist cP ha hq (Z 8)) ++ ((wPool cI (hq 1) (Z 1)) ++ ((wPool cI (hq 2) (Z 2)) ++ ((wPool cI (hq 3) (Z 3)) ++ ((wPool cI (hq 4) (Z 4)) ++ ((wPool cI (hq 5) (Z 5)) ++ ((wText cI (hq 7) u3) ++ ((wTvo ha hq) ++ ((wReh ha hq (Z 9)) ++ ((wPool cI (hq 6) (Z 6)) ++ []))))))))))) ((List.Perm.append_left _ ((List.Perm.append_left _ ((List.Perm.append_left _ ((List.Perm.append_left _ ((List.Perm.append_left _ ((List.Perm.append_left _ ((List.Perm.append_left _ ((List.Perm.append_left _ (List.Perm.refl _)).trans (List.perm_append_comm_assoc _ _ _))).trans (List.perm_append_comm_assoc _ _ _))).trans (List.perm_append_comm_assoc _ _ _))).trans (List.perm_append_comm_assoc _ _ _))).trans (List.perm_append_comm_assoc _ _ _))).trans (List.perm_append_comm_assoc _ _ _))).trans (List.perm_append_comm_assoc _ _ _))).trans (List.perm_append_comm_assoc _ _ _)) ?_
        refine wk_perm (w' := (wTvo ha hq) ++ ((wPool cI (hq 0) (Z 0)) ++ ((wHist cP ha hq (Z 8)) ++ ((wPool cI (hq 1) (Z 1)) ++ ((wPool cI (hq 2) (Z 2)) ++ ((wPool cI (hq 3) (Z 3)) ++ ((wPool cI (hq 4) (Z 4)) ++ ((wPool cI (hq 5) (Z 5)) ++ ((wText cI (hq 7) u3) ++ ((wReh ha hq (Z 9)) ++ ((wPool cI (hq 6) (Z 6)) ++ []))))))))))) ((List.Perm.append_left _ ((List.Perm.append_left _ ((List.Perm.append_left _ ((List.Perm.append_left _ ((List.Perm.append_left _ ((List.Perm.append_left _ ((List.Perm.append_left _ ((List.Perm.append_left _ (List.Perm.refl _)).trans (List.perm_append_comm_assoc _ _ _))).trans (List.perm_append_comm_assoc _ _ _))).trans (List.perm_append_comm_assoc _ _ _))).trans (List.perm_append_comm_assoc _ _ _))).trans (List.perm_append_comm_assoc _ _ _))).trans (List.perm_append_comm_assoc _ _ _))).trans (List.perm_append_comm_assoc _ _ _))).trans (List.perm_append_comm_assoc _ _ _)) ?_
        refine wk_w (w' := wTV cI cP ha hq (mkZ (Z 0) (Z 1) (Z 2) (Z 3) (Z 4) (Z 5) (Z 6) u3 (Z 8) (Z 9))) rfl ?_
        exact hret _ _ _ _ dX5_type_38 rfl (by rw [f5_type] <;> exact (st_neg c1 (st_pos c2 (st_match h5 (st_pos c6 rfl)))))
      · refine wk_aload_n F dX5_type_26 rfl 0 rfl (pc' := 27) rfl ?_
        refine wk_perm (w' := (wTvo ha hq) ++ ((wText cI (hq 7) u3) ++ ((wPool cI (hq 0) (Z 0)) ++ ((wHist cP ha hq (Z 8)) ++ ((wPool cI (hq 1) (Z 1)) ++ ((wPool cI (hq 2) (Z 2)) ++ ((wPool cI (hq 3) (Z 3)) ++ ((wPool cI (hq 4) (Z 4)) ++ ((wPool cI (hq 5) (Z 5)) ++ ((wReh ha hq (Z 9)) ++ ((wPool cI (hq 6) (Z 6)) ++ []))))))))))) ((List.Perm.append_left _ (List.Perm.refl _)).trans (List.perm_append_comm_assoc _ _ _)) ?_
        refine wk_get (C := RX5) (T := TX5) (N := 4) F 0 rfl rfl k_5 2 (Nat.le_of_ble_eq_true rfl) w_2 rfl dX5_type_27 (pc' := 30) rfl ?_
        refine wk_perm (w' := (wText cI (hq 7) u3) ++ ((wTvo ha hq) ++ ((wPool cI (hq 0) (Z 0)) ++ ((wHist cP ha hq (Z 8)) ++ ((wPool cI (hq 1) (Z 1)) ++ ((wPool cI (hq 2) (Z 2)) ++ ((wPool cI (hq 3) (Z 3)) ++ ((wPool cI (hq 4) (Z 4)) ++ ((wPool cI (hq 5) (Z 5)) ++ ((wReh ha hq (Z 9)) ++ ((wPool cI (hq 6) (Z 6)) ++ []))))))))))) ((List.Perm.append_left _ (List.Perm.refl _)).trans (List.perm_append_comm_assoc _ _ _)) ?_
        refine wk_get (C := RX3) (T := TX3) (N := 5) F 0 rfl rfl k_3 1 (Nat.le_of_ble_eq_true rfl) w_3 rfl dX5_type_30 (pc' := 33) rfl ?_
        refine wk_goto (tgt := 38) F dX5_type_33 (by decide) ?_
        refine wk_perm (w' := (wPool cI (hq 5) (Z 5)) ++ ((wText cI (hq 7) u3) ++ ((wTvo ha hq) ++ ((wPool cI (hq 0) (Z 0)) ++ ((wHist cP ha hq (Z 8)) ++ ((wPool cI (hq 1) (Z 1)) ++ ((wPool cI (hq 2) (Z 2)) ++ ((wPool cI (hq 3) (Z 3)) ++ ((wPool cI (hq 4) (Z 4)) ++ ((wReh ha hq (Z 9)) ++ ((wPool cI (hq 6) (Z 6)) ++ []))))))))))) ((List.Perm.append_left _ ((List.Perm.append_left _ ((List.Perm.append_left _ ((List.Perm.append_left _ ((List.Perm.append_left _ ((List.Perm.append_left _ ((List.Perm.append_left _ ((List.Perm.append_left _ (List.Perm.refl _)).trans (List.perm_append_comm_assoc _ _ _))).trans (List.perm_append_comm_assoc _ _ _))).trans (List.perm_append_comm_assoc _ _ _))).trans (List.perm_append_comm_assoc _ _ _))).trans (List.perm_append_comm_assoc _ _ _))).trans (List.perm_append_comm_assoc _ _ _))).trans (List.perm_append_comm_assoc _ _ _))).trans (List.perm_append_comm_assoc _ _ _)) ?_
        refine wk_perm (w' := (wPool cI (hq 4) (Z 4)) ++ ((wPool cI (hq 5) (Z 5)) ++ ((wText cI (hq 7) u3) ++ ((wTvo ha hq) ++ ((wPool cI (hq 0) (Z 0)) ++ ((wHist cP ha hq (Z 8)) ++ ((wPool cI (hq 1) (Z 1)) ++ ((wPool cI (hq 2) (Z 2)) ++ ((wPool cI (hq 3) (Z 3)) ++ ((wReh ha hq (Z 9)) ++ ((wPool cI (hq 6) (Z 6)) ++ []))))))))))) ((List.Perm.append_left _ ((List.Perm.append_left _ ((List.Perm.append_left _ ((List.Perm.append_left _ ((List.Perm.append_left _ ((List.Perm.append_left _ ((List.Perm.append_left _ ((List.Perm.append_left _ (List.Perm.refl _)).trans (List.perm_append_comm_assoc _ _ _))).trans (List.perm_append_comm_assoc _ _ _))).trans (List.perm_append_comm_assoc _ _ _))).trans (List.perm_append_comm_assoc _ _ _))).trans (List.perm_append_comm_assoc _ _ _))).trans (List.perm_append_comm_assoc _ _ _))).trans (List.perm_append_comm_assoc _ _ _))).trans (List.perm_append_comm_assoc _ _ _)) ?_
        refine wk_perm (w' := (wPool cI (hq 3) (Z 3)) ++ ((wPool cI (hq 4) (Z 4)) ++ ((wPool cI (hq 5) (Z 5)) ++ ((wText cI (hq 7) u3) ++ ((wTvo ha hq) ++ ((wPool cI (hq 0) (Z 0)) ++ ((wHist cP ha hq (Z 8)) ++ ((wPool cI (hq 1) (Z 1)) ++ ((wPool cI (hq 2) (Z 2)) ++ ((wReh ha hq (Z 9)) ++ ((wPool cI (hq 6) (Z 6)) ++ []))))))))))) ((List.Perm.append_left _ ((List.Perm.append_left _ ((List.Perm.append_left _ ((List.Perm.append_left _ ((List.Perm.append_left _ ((List.Perm.append_left _ ((List.Perm.append_left _ ((List.Perm.append_left _ (List.Perm.refl _)).trans (List.perm_append_comm_assoc _ _ _))).trans (List.perm_append_comm_assoc _ _ _))).trans (List.perm_append_comm_assoc _ _ _))).trans (List.perm_append_comm_assoc _ _ _))).trans (List.perm_append_comm_assoc _ _ _))).trans (List.perm_append_comm_assoc _ _ _))).trans (List.perm_append_comm_assoc _ _ _))).trans (List.perm_append_comm_assoc _ _ _)) ?_
        refine wk_perm (w' := (wPool cI (hq 2) (Z 2)) ++ ((wPool cI (hq 3) (Z 3)) ++ ((wPool cI (hq 4) (Z 4)) ++ ((wPool cI (hq 5) (Z 5)) ++ ((wText cI (hq 7) u3) ++ ((wTvo ha hq) ++ ((wPool cI (hq 0) (Z 0)) ++ ((wHist cP ha hq (Z 8)) ++ ((wPool cI (hq 1) (Z 1)) ++ ((wReh ha hq (Z 9)) ++ ((wPool cI (hq 6) (Z 6)) ++ []))))))))))) ((List.Perm.append_left _ ((List.Perm.append_left _ ((List.Perm.append_left _ ((List.Perm.append_left _ ((List.Perm.append_left _ ((List.Perm.append_left _ ((List.Perm.append_left _ ((List.Perm.append_left _ (List.Perm.refl _)).trans (List.perm_append_comm_assoc _ _ _))).trans (List.perm_append_comm_assoc _ _ _))).trans (List.perm_append_comm_assoc _ _ _))).trans (List.perm_append_comm_assoc _ _ _))).trans (List.perm_append_comm_assoc _ _ _))).trans (List.perm_append_comm_assoc _ _ _))).trans (List.perm_append_comm_assoc _ _ _))).trans (List.perm_append_comm_assoc _ _ _)) ?_
        refine wk_perm (w' := (wPool cI (hq 1) (Z 1)) ++ ((wPool cI (hq 2) (Z 2)) ++ ((wPool cI (hq 3) (Z 3)) ++ ((wPool cI (hq 4) (Z 4)) ++ ((wPool cI (hq 5) (Z 5)) ++ ((wText cI (hq 7) u3) ++ ((wTvo ha hq) ++ ((wPool cI (hq 0) (Z 0)) ++ ((wHist cP ha hq (Z 8)) ++ ((wReh ha hq (Z 9)) ++ ((wPool cI (hq 6) (Z 6)) ++ []))))))))))) ((List.Perm.append_left _ ((List.Perm.append_left _ ((List.Perm.append_left _ ((List.Perm.append_left _ ((List.Perm.append_left _ ((List.Perm.append_left _ ((List.Perm.append_left _ ((List.Perm.append_left _ (List.Perm.refl _)).trans (List.perm_append_comm_assoc _ _ _))).trans (List.perm_append_comm_assoc _ _ _))).trans (List.perm_append_comm_assoc _ _ _))).trans (List.perm_append_comm_assoc _ _ _))).trans (List.perm_append_comm_assoc _ _ _))).trans (List.perm_append_comm_assoc _ _ _))).trans (List.perm_append_comm_assoc _ _ _))).trans (List.perm_append_comm_assoc _ _ _)) ?_
        refine wk_perm (w' := (wHist cP ha hq (Z 8)) ++ ((wPool cI (hq 1) (Z 1)) ++ ((wPool cI (hq 2) (Z 2)) ++ ((wPool cI (hq 3) (Z 3)) ++ ((wPool cI (hq 4) (Z 4)) ++ ((wPool cI (hq 5) (Z 5)) ++ ((wText cI (hq 7) u3) ++ ((wTvo ha hq) ++ ((wPool cI (hq 0) (Z 0)) ++ ((wReh ha hq (Z 9)) ++ ((wPool cI (hq 6) (Z 6)) ++ []))))))))))) ((List.Perm.append_left _ ((List.Perm.append_left _ ((List.Perm.append_left _ ((List.Perm.append_left _ ((List.Perm.append_left _ ((List.Perm.append_left _ ((List.Perm.append_left _ ((List.Perm.append_left _ (List.Perm.refl _)).trans (List.perm_append_comm_assoc _ _ _))).trans (List.perm_append_comm_assoc _ _ _))).trans (List.perm_append_comm_assoc _ _ _))).trans (List.perm_append_comm_assoc _ _ _))).trans (List.perm_append_comm_assoc _ _ _))).trans (List.perm_append_comm_assoc _ _ _))).trans (List.perm_append_comm_assoc _ _ _))).trans (List.perm_append_comm_assoc _ _ _)) ?_
        refine wk_perm (w' := (wPool cI (hq 0) (Z 0)) ++ ((wHist cP ha hq (Z 8)) ++ ((wPool cI (hq 1) (Z 1)) ++ ((wPool cI (hq 2) (Z 2)) ++ ((wPool cI (hq 3) (Z 3)) ++ ((wPool cI (hq 4) (Z 4)) ++ ((wPool cI (hq 5) (Z 5)) ++ ((wText cI (hq 7) u3) ++ ((wTvo ha hq) ++ ((wReh ha hq (Z 9)) ++ ((wPool cI (hq 6) (Z 6)) ++ []))))))))))) ((List.Perm.append_left _ ((List.Perm.append_left _ ((List.Perm.append_left _ ((List.Perm.append_left _ ((List.Perm.append_left _ ((List.Perm.append_left _ ((List.Perm.append_left _ ((List.Perm.append_left _ (List.Perm.refl _)).trans (List.perm_append_comm_assoc _ _ _))).trans (List.perm_append_comm_assoc _ _ _))).trans (List.perm_append_comm_assoc _ _ _))).trans (List.perm_append_comm_assoc _ _ _))).trans (List.perm_append_comm_assoc _ _ _))).trans (List.perm_append_comm_assoc _ _ _))).trans (List.perm_append_comm_assoc _ _ _))).trans (List.perm_append_comm_assoc _ _ _)) ?_
        refine wk_perm (w' := (wTvo ha hq) ++ ((wPool cI (hq 0) (Z 0)) ++ ((wHist cP ha hq (Z 8)) ++ ((wPool cI (hq 1) (Z 1)) ++ ((wPool cI (hq 2) (Z 2)) ++ ((wPool cI (hq 3) (Z 3)) ++ ((wPool cI (hq 4) (Z 4)) ++ ((wPool cI (hq 5) (Z 5)) ++ ((wText cI (hq 7) u3) ++ ((wReh ha hq (Z 9)) ++ ((wPool cI (hq 6) (Z 6)) ++ []))))))))))) ((List.Perm.append_left _ ((List.Perm.append_left _ ((List.Perm.append_left _ ((List.Perm.append_left _ ((List.Perm.append_left _ ((List.Perm.append_left _ ((List.Perm.append_left _ ((List.Perm.append_left _ (List.Perm.refl _)).trans (List.perm_append_comm_assoc _ _ _))).trans (List.perm_append_comm_assoc _ _ _))).trans (List.perm_append_comm_assoc _ _ _))).trans (List.perm_append_comm_assoc _ _ _))).trans (List.perm_append_comm_assoc _ _ _))).trans (List.perm_append_comm_assoc _ _ _))).trans (List.perm_append_comm_assoc _ _ _))).trans (List.perm_append_comm_assoc _ _ _)) ?_
        refine wk_w (w' := wTV cI cP ha hq (mkZ (Z 0) (Z 1) (Z 2) (Z 3) (Z 4) (Z 5) (Z 6) u3 (Z 8) (Z 9))) rfl ?_
        exact hret _ _ _ _ dX5_type_38 rfl (by rw [f5_type] <;> exact (st_neg c1 (st_pos c2 (st_match h5 (st_neg c6 rfl)))))
    · refine wk_ldc F dX5_type_12 w_1 (pc' := 14) rfl ?_
      refine wk_w (w' := wTV cI cP ha hq Z) rfl ?_
      exact hret _ _ _ _ dX5_type_14 rfl (by rw [f5_type] <;> exact (st_neg c1 (st_neg c2 rfl)))
def f5_clearText (Z : ST) : Int32 × ST := (sq (wr (Z 7) 2 0 (0 : Int32)) (fun (u1 : PS) => ((Z 7) 2 0, mkZ (Z 0) (Z 1) (Z 2) (Z 3) (Z 4) (Z 5) (Z 6) u1 (Z 8) (Z 9))))
set_option maxHeartbeats 4000000 in
set_option maxRecDepth 100000 in
theorem c5_clearText (l : Launch) (D : va_G) (cI cP : ClassId) (ha : Nat → Nat) (hq : Nat → Nat → Nat) (Z : ST) : CI l yX5_clearText wsX5_clearText ({ frames := 0, cells := 0, slots := 0, locals := 0 } : Room) D (cty cI cP) (wTV cI cP ha hq Z) (wTV cI cP ha hq) [.ref (ha 0)] 0 0 (fun r u => f5_clearText Z = (r, u)) := by
  refine CI.of (cc := cX5_clearText) (maxL := 2) (rt := .int) (own := RX5) (lv0 := [(0, .ref (ha 0))]) pnX5 rfl rfl (Nat.le_of_ble_eq_true rfl) rfl (fun p e s m args below meth c A Q F hret => ?_)
  have w_1 := F.at (x := Cond.fieldLink RX5 26 "ThinVolumes" "text" "LThinVolumes$Text;") 1 rfl
  have w_2 := F.at (x := Cond.fieldLink RX5 199 "ThinVolumes$Text" "length" "I") 2 rfl
  refine wk_w (w' := (wTvo ha hq) ++ ((wPool cI (hq 0) (Z 0)) ++ ((wHist cP ha hq (Z 8)) ++ ((wPool cI (hq 1) (Z 1)) ++ ((wPool cI (hq 2) (Z 2)) ++ ((wPool cI (hq 3) (Z 3)) ++ ((wPool cI (hq 4) (Z 4)) ++ ((wPool cI (hq 5) (Z 5)) ++ ((wText cI (hq 7) (Z 7)) ++ ((wReh ha hq (Z 9)) ++ ((wPool cI (hq 6) (Z 6)) ++ []))))))))))) rfl ?_
  have k_3 : ∀ w ∈ wsX30, w ∈ wsX5_clearText := fun _ h => List.mem_cons_of_mem _ (List.mem_append_right _ (h))
  have k_5 : ∀ w ∈ wsX50, w ∈ wsX5_clearText := fun _ h => List.mem_cons_of_mem _ (List.mem_append_left _ (List.mem_append_right _ (h)))
  refine wk_aload_n F dX5_clearText_0 rfl 0 rfl (pc' := 1) rfl ?_
  refine wk_get (C := RX5) (T := TX5) (N := 4) F 0 rfl rfl k_5 2 (Nat.le_of_ble_eq_true rfl) w_1 rfl dX5_clearText_1 (pc' := 4) rfl ?_
  refine wk_perm (w' := (wText cI (hq 7) (Z 7)) ++ ((wTvo ha hq) ++ ((wPool cI (hq 0) (Z 0)) ++ ((wHist cP ha hq (Z 8)) ++ ((wPool cI (hq 1) (Z 1)) ++ ((wPool cI (hq 2) (Z 2)) ++ ((wPool cI (hq 3) (Z 3)) ++ ((wPool cI (hq 4) (Z 4)) ++ ((wPool cI (hq 5) (Z 5)) ++ ((wReh ha hq (Z 9)) ++ ((wPool cI (hq 6) (Z 6)) ++ []))))))))))) ((List.Perm.append_left _ ((List.Perm.append_left _ ((List.Perm.append_left _ ((List.Perm.append_left _ ((List.Perm.append_left _ ((List.Perm.append_left _ ((List.Perm.append_left _ ((List.Perm.append_left _ (List.Perm.refl _)).trans (List.perm_append_comm_assoc _ _ _))).trans (List.perm_append_comm_assoc _ _ _))).trans (List.perm_append_comm_assoc _ _ _))).trans (List.perm_append_comm_assoc _ _ _))).trans (List.perm_append_comm_assoc _ _ _))).trans (List.perm_append_comm_assoc _ _ _))).trans (List.perm_append_comm_assoc _ _ _))).trans (List.perm_append_comm_assoc _ _ _)) ?_
  refine wk_get (C := RX3) (T := TX3) (N := 5) F 0 rfl rfl k_3 1 (Nat.le_of_ble_eq_true rfl) w_2 rfl dX5_clearText_4 (pc' := 7) rfl ?_
  refine wk_istore_n (lv' := [(1, .int ((Z 7) 2 0)), (0, .ref (ha 0))]) F dX5_clearText_7 rfl (Nat.le_of_ble_eq_true rfl) rfl (pc' := 8) rfl ?_
  refine wk_aload_n F dX5_clearText_8 rfl 1 rfl (pc' := 9) rfl ?_
  refine wk_perm (w' := (wTvo ha hq) ++ ((wText cI (hq 7) (Z 7)) ++ ((wPool cI (hq 0) (Z 0)) ++ ((wHist cP ha hq (Z 8)) ++ ((wPool cI (hq 1) (Z 1)) ++ ((wPool cI (hq 2) (Z 2)) ++ ((wPool cI (hq 3) (Z 3)) ++ ((wPool cI (hq 4) (Z 4)) ++ ((wPool cI (hq 5) (Z 5)) ++ ((wReh ha hq (Z 9)) ++ ((wPool cI (hq 6) (Z 6)) ++ []))))))))))) ((List.Perm.append_left _ (List.Perm.refl _)).trans (List.perm_append_comm_assoc _ _ _)) ?_
  refine wk_get (C := RX5) (T := TX5) (N := 4) F 0 rfl rfl k_5 2 (Nat.le_of_ble_eq_true rfl) w_1 rfl dX5_clearText_9 (pc' := 12) rfl ?_
  refine wk_iconst F dX5_clearText_12 ic_0 (pc' := 13) rfl ?_
  refine wk_perm (w' := (wText cI (hq 7) (Z 7)) ++ ((wTvo ha hq) ++ ((wPool cI (hq 0) (Z 0)) ++ ((wHist cP ha hq (Z 8)) ++ ((wPool cI (hq 1) (Z 1)) ++ ((wPool cI (hq 2) (Z 2)) ++ ((wPool cI (hq 3) (Z 3)) ++ ((wPool cI (hq 4) (Z 4)) ++ ((wPool cI (hq 5) (Z 5)) ++ ((wReh ha hq (Z 9)) ++ ((wPool cI (hq 6) (Z 6)) ++ []))))))))))) ((List.Perm.append_left _ (List.Perm.refl _)).trans (List.perm_append_comm_assoc _ _ _)) ?_
  refine wk_putu (wg := fun z => (wText cI (hq 7) z) ++ ((wTvo ha hq) ++ ((wPool cI (hq 0) (Z 0)) ++ ((wHist cP ha hq (Z 8)) ++ ((wPool cI (hq 1) (Z 1)) ++ ((wPool cI (hq 2) (Z 2)) ++ ((wPool cI (hq 3) (Z 3)) ++ ((wPool cI (hq 4) (Z 4)) ++ ((wPool cI (hq 5) (Z 5)) ++ ((wReh ha hq (Z 9)) ++ ((wPool cI (hq 6) (Z 6)) ++ []))))))))))) (f0 := wr (Z 7) 2 0 (0 : Int32)) (C := RX3) (T := TX3) (N := 5) (ty0 := tyX3) F 0 rfl rfl k_3 tyX3_ok nmX3 1 (Nat.le_of_ble_eq_true rfl) w_2 rfl rfl rfl (Nat.le_of_ble_eq_true rfl) (set_fr (Nat.le_of_ble_eq_true rfl) sT_0) dX5_clearText_13 (pc' := 16) rfl (fun u1 h2 => ?_)
  refine wk_iload_n F dX5_clearText_16 rfl 0 rfl (pc' := 17) rfl ?_
  refine wk_perm (w' := (wPool cI (hq 5) (Z 5)) ++ ((wText cI (hq 7) u1) ++ ((wTvo ha hq) ++ ((wPool cI (hq 0) (Z 0)) ++ ((wHist cP ha hq (Z 8)) ++ ((wPool cI (hq 1) (Z 1)) ++ ((wPool cI (hq 2) (Z 2)) ++ ((wPool cI (hq 3) (Z 3)) ++ ((wPool cI (hq 4) (Z 4)) ++ ((wReh ha hq (Z 9)) ++ ((wPool cI (hq 6) (Z 6)) ++ []))))))))))) ((List.Perm.append_left _ ((List.Perm.append_left _ ((List.Perm.append_left _ ((List.Perm.append_left _ ((List.Perm.append_left _ ((List.Perm.append_left _ ((List.Perm.append_left _ ((List.Perm.append_left _ (List.Perm.refl _)).trans (List.perm_append_comm_assoc _ _ _))).trans (List.perm_append_comm_assoc _ _ _))).trans (List.perm_append_comm_assoc _ _ _))).trans (List.perm_append_comm_assoc _ _ _))).trans (List.perm_append_comm_assoc _ _ _))).trans (List.perm_append_comm_assoc _ _ _))).trans (List.perm_append_comm_assoc _ _ _))).trans (List.perm_append_comm_assoc _ _ _)) ?_
  refine wk_perm (w' := (wPool cI (hq 4) (Z 4)) ++ ((wPool cI (hq 5) (Z 5)) ++ ((wText cI (hq 7) u1) ++ ((wTvo ha hq) ++ ((wPool cI (hq 0) (Z 0)) ++ ((wHist cP ha hq (Z 8)) ++ ((wPool cI (hq 1) (Z 1)) ++ ((wPool cI (hq 2) (Z 2)) ++ ((wPool cI (hq 3) (Z 3)) ++ ((wReh ha hq (Z 9)) ++ ((wPool cI (hq 6) (Z 6)) ++ []))))))))))) ((List.Perm.append_left _ ((List.Perm.append_left _ ((List.Perm.append_left _ ((List.Perm.append_left _ ((List.Perm.append_left _ ((List.Perm.append_left _ ((List.Perm.append_left _ ((List.Perm.append_left _ (List.Perm.refl _)).trans (List.perm_append_comm_assoc _ _ _))).trans (List.perm_append_comm_assoc _ _ _))).trans (List.perm_append_comm_assoc _ _ _))).trans (List.perm_append_comm_assoc _ _ _))).trans (List.perm_append_comm_assoc _ _ _))).trans (List.perm_append_comm_assoc _ _ _))).trans (List.perm_append_comm_assoc _ _ _))).trans (List.perm_append_comm_assoc _ _ _)) ?_
  refine wk_perm (w' := (wPool cI (hq 3) (Z 3)) ++ ((wPool cI (hq 4) (Z 4)) ++ ((wPool cI (hq 5) (Z 5)) ++ ((wText cI (hq 7) u1) ++ ((wTvo ha hq) ++ ((wPool cI (hq 0) (Z 0)) ++ ((wHist cP ha hq (Z 8)) ++ ((wPool cI (hq 1) (Z 1)) ++ ((wPool cI (hq 2) (Z 2)) ++ ((wReh ha hq (Z 9)) ++ ((wPool cI (hq 6) (Z 6)) ++ []))))))))))) ((List.Perm.append_left _ ((List.Perm.append_left _ ((List.Perm.append_left _ ((List.Perm.append_left _ ((List.Perm.append_left _ ((List.Perm.append_left _ ((List.Perm.append_left _ ((List.Perm.append_left _ (List.Perm.refl _)).trans (List.perm_append_comm_assoc _ _ _))).trans (List.perm_append_comm_assoc _ _ _))).trans (List.perm_append_comm_assoc _ _ _))).trans (List.perm_append_comm_assoc _ _ _))).trans (List.perm_append_comm_assoc _ _ _))).trans (List.perm_append_comm_assoc _ _ _))).trans (List.perm_append_comm_assoc _ _ _))).trans (List.perm_append_comm_assoc _ _ _)) ?_
  refine wk_perm (w' := (wPool cI (hq 2) (Z 2)) ++ ((wPool cI (hq 3) (Z 3)) ++ ((wPool cI (hq 4) (Z 4)) ++ ((wPool cI (hq 5) (Z 5)) ++ ((wText cI (hq 7) u1) ++ ((wTvo ha hq) ++ ((wPool cI (hq 0) (Z 0)) ++ ((wHist cP ha hq (Z 8)) ++ ((wPool cI (hq 1) (Z 1)) ++ ((wReh ha hq (Z 9)) ++ ((wPool cI (hq 6) (Z 6)) ++ []))))))))))) ((List.Perm.append_left _ ((List.Perm.append_left _ ((List.Perm.append_left _ ((List.Perm.append_left _ ((List.Perm.append_left _ ((List.Perm.append_left _ ((List.Perm.append_left _ ((List.Perm.append_left _ (List.Perm.refl _)).trans (List.perm_append_comm_assoc _ _ _))).trans (List.perm_append_comm_assoc _ _ _))).trans (List.perm_append_comm_assoc _ _ _))).trans (List.perm_append_comm_assoc _ _ _))).trans (List.perm_append_comm_assoc _ _ _))).trans (List.perm_append_comm_assoc _ _ _))).trans (List.perm_append_comm_assoc _ _ _))).trans (List.perm_append_comm_assoc _ _ _)) ?_
  refine wk_perm (w' := (wPool cI (hq 1) (Z 1)) ++ ((wPool cI (hq 2) (Z 2)) ++ ((wPool cI (hq 3) (Z 3)) ++ ((wPool cI (hq 4) (Z 4)) ++ ((wPool cI (hq 5) (Z 5)) ++ ((wText cI (hq 7) u1) ++ ((wTvo ha hq) ++ ((wPool cI (hq 0) (Z 0)) ++ ((wHist cP ha hq (Z 8)) ++ ((wReh ha hq (Z 9)) ++ ((wPool cI (hq 6) (Z 6)) ++ []))))))))))) ((List.Perm.append_left _ ((List.Perm.append_left _ ((List.Perm.append_left _ ((List.Perm.append_left _ ((List.Perm.append_left _ ((List.Perm.append_left _ ((List.Perm.append_left _ ((List.Perm.append_left _ (List.Perm.refl _)).trans (List.perm_append_comm_assoc _ _ _))).trans (List.perm_append_comm_assoc _ _ _))).trans (List.perm_append_comm_assoc _ _ _))).trans (List.perm_append_comm_assoc _ _ _))).trans (List.perm_append_comm_assoc _ _ _))).trans (List.perm_append_comm_assoc _ _ _))).trans (List.perm_append_comm_assoc _ _ _))).trans (List.perm_append_comm_assoc _ _ _)) ?_
  refine wk_perm (w' := (wHist cP ha hq (Z 8)) ++ ((wPool cI (hq 1) (Z 1)) ++ ((wPool cI (hq 2) (Z 2)) ++ ((wPool cI (hq 3) (Z 3)) ++ ((wPool cI (hq 4) (Z 4)) ++ ((wPool cI (hq 5) (Z 5)) ++ ((wText cI (hq 7) u1) ++ ((wTvo ha hq) ++ ((wPool cI (hq 0) (Z 0)) ++ ((wReh ha hq (Z 9)) ++ ((wPool cI (hq 6) (Z 6)) ++ []))))))))))) ((List.Perm.append_left _ ((List.Perm.append_left _ ((List.Perm.append_left _ ((List.Perm.append_left _ ((List.Perm.append_left _ ((List.Perm.append_left _ ((List.Perm.append_left _ ((List.Perm.append_left _ (List.Perm.refl _)).trans (List.perm_append_comm_assoc _ _ _))).trans (List.perm_append_comm_assoc _ _ _))).trans (List.perm_append_comm_assoc _ _ _))).trans (List.perm_append_comm_assoc _ _ _))).trans (List.perm_append_comm_assoc _ _ _))).trans (List.perm_append_comm_assoc _ _ _))).trans (List.perm_append_comm_assoc _ _ _))).trans (List.perm_append_comm_assoc _ _ _)) ?_
  refine wk_perm (w' := (wPool cI (hq 0) (Z 0)) ++ ((wHist cP ha hq (Z 8)) ++ ((wPool cI (hq 1) (Z 1)) ++ ((wPool cI (hq 2) (Z 2)) ++ ((wPool cI (hq 3) (Z 3)) ++ ((wPool cI (hq 4) (Z 4)) ++ ((wPool cI (hq 5) (Z 5)) ++ ((wText cI (hq 7) u1) ++ ((wTvo ha hq) ++ ((wReh ha hq (Z 9)) ++ ((wPool cI (hq 6) (Z 6)) ++ []))))))))))) ((List.Perm.append_left _ ((List.Perm.append_left _ ((List.Perm.append_left _ ((List.Perm.append_left _ ((List.Perm.append_left _ ((List.Perm.append_left _ ((List.Perm.append_left _ ((List.Perm.append_left _ (List.Perm.refl _)).trans (List.perm_append_comm_assoc _ _ _))).trans (List.perm_append_comm_assoc _ _ _))).trans (List.perm_append_comm_assoc _ _ _))).trans (List.perm_append_comm_assoc _ _ _))).trans (List.perm_append_comm_assoc _ _ _))).trans (List.perm_append_comm_assoc _ _ _))).trans (List.perm_append_comm_assoc _ _ _))).trans (List.perm_append_comm_assoc _ _ _)) ?_
  refine wk_perm (w' := (wTvo ha hq) ++ ((wPool cI (hq 0) (Z 0)) ++ ((wHist cP ha hq (Z 8)) ++ ((wPool cI (hq 1) (Z 1)) ++ ((wPool cI (hq 2) (Z 2)) ++ ((wPool cI (hq 3) (Z 3)) ++ ((wPool cI (hq 4) (Z 4)) ++ ((wPool cI (hq 5) (Z 5)) ++ ((wText cI (hq 7) u1) ++ ((wReh ha hq (Z 9)) ++ ((wPool cI (hq 6) (Z 6)) ++ []))))))))))) ((List.Perm.append_left _ ((List.Perm.append_left _ ((List.Perm.append_left _ ((List.Perm.append_left _ ((List.Perm.append_left _ ((List.Perm.append_left _ ((List.Perm.append_left _ ((List.Perm.append_left _ (List.Perm.refl _)).trans (List.perm_append_comm_assoc _ _ _))).trans (List.perm_append_comm_assoc _ _ _))).trans (List.perm_append_comm_assoc _ _ _))).trans (List.perm_append_comm_assoc _ _ _))).trans (List.perm_append_comm_assoc _ _ _))).trans (List.perm_append_comm_assoc _ _ _))).trans (List.perm_append_comm_assoc _ _ _))).trans (List.perm_append_comm_assoc _ _ _)) ?_
  refine wk_w (w' := wTV cI cP ha hq (mkZ (Z 0) (Z 1) (Z 2) (Z 3) (Z 4) (Z 5) (Z 6) u1 (Z 8) (Z 9))) rfl ?_
  exact hret _ _ _ _ dX5_clearText_17 rfl (by rw [f5_clearText] <;> exact (st_let h2 rfl))
