def okD (u : PS) : Prop := okH u ∧ okL u ∧ okP u ∧ okT u ∧ okS u
/-- every order that is done finds the state in order, and the orders come to an end -/
def f6_plays_T : Nat → PS → Prop
  | 0, _ => False
  | n + 1, u => ¬ u 6 2 ≤ u 6 3 → u 6 4 = 0 → okD u ∧ ∀ (r : Int32) (u2 : PS), f6_does u = (r, u2) → f6_plays_T n (wr u2 6 4 r)
def playsInit (u : PS) : PS := wr (wr (wr (wr u 6 1 1) 6 3 0) 6 4 0) 6 5 0
def f6_plays_L22 : Nat → Int32 → PS → Int32 × PS
  | 0, x1, u => (x1, u)
  | n + 1, x1, u => (if (u 6 2) ≤ (u 6 3) then (x1, u) else (if (u 6 4) = 0 then (sq2 (f6_does u) (fun (r4 : Int32) (u3 : PS) => (sq (wr u3 6 4 r4) (fun (u6 : PS) => f6_plays_L22 n (u 6 3) u6)))) else (x1, u)))
def f6_plays (σ : PS) : Int32 × PS := (sq (wr σ 6 1 (1 : Int32)) (fun (u8 : PS) => (sq (wr u8 6 3 (0 : Int32)) (fun (u10 : PS) => (sq (wr u10 6 4 (0 : Int32)) (fun (u12 : PS) => (sq (wr u12 6 5 (0 : Int32)) (fun (u14 : PS) => (sq2 (f6_plays_L22 61 (0 : Int32) u14) (fun (y17 : Int32) (u18 : PS) => (sq (wr u18 6 1 (0 : Int32)) (fun (u19 : PS) => (if (u19 6 4) = 0 then ((-1000004 : Int32), u19) else (y17, u19))))))))))))))
set_option maxHeartbeats 4000000 in
set_option maxRecDepth 100000 in
theorem c6_plays (l : Launch) (D : va_G) (cI cP : ClassId) (hs : Nat → Nat) (σ : PS) (hT : f6_plays_T 61 (playsInit σ)) : CI l yX6_plays wsX6_plays ({ frames := 10, cells := 0, slots := 0, locals := 227 } : Room) D (cty cI cP) (wMod cI hs σ) (wMod cI hs) [.ref (hs 0)] 0 0 (fun r u => f6_plays σ = (r, u)) := by
  refine CI.of (cc := cX6_plays) (maxL := 2) (rt := .int) (own := RX6) (lv0 := [(0, .ref (hs 0))]) pnX6 rfl rfl (Nat.le_of_ble_eq_true rfl) rfl (fun p e s m args below meth c A Q F hret => ?_)
  have w_2 := F.at (x := Cond.fieldLink RX6 153 "ThinVolumesModel" "spot" "I") 2 rfl
  have w_5 := F.at (x := Cond.fieldLink RX6 150 "ThinVolumesModel" "typed" "I") 5 rfl
  have w_3 := F.at (x := Cond.fieldLink RX6 190 "ThinVolumesModel" "reason" "I") 3 rfl
  have w_1 := F.at (x := Cond.fieldLink RX6 28 "ThinVolumesModel" "runs" "Z") 1 rfl
  have w_4 := F.at (x := Cond.fieldLink RX6 162 "ThinVolumesModel" "refusals" "I") 4 rfl
  have w_6 := F.at (x := Cond.constant RX6 65 (-1000004)) 6 rfl
  have k_6 : ∀ w ∈ wsX60, w ∈ wsX6_plays := fun _ h => List.mem_cons_of_mem _ (List.mem_append_right _ (h))
  have L22 : ∀ (n : Nat) (x1 : Int32) (u : PS), f6_plays_T n u → (∀ (y1 : Int32) (uu : PS), f6_plays_L22 n x1 u = (y1, uu) → Wk p l e ({ frames := 10, cells := 0, slots := 0, locals := 227 } : Room) s m args below meth c 2 D A 0 0 Q (wMod cI hs uu) [(0, .ref (hs 0)), (1, .int y1)] 56 []) → Wk p l e ({ frames := 10, cells := 0, slots := 0, locals := 227 } : Room) s m args below meth c 2 D A 0 0 Q (wMod cI hs u) [(0, .ref (hs 0)), (1, .int x1)] 22 [] := by
    intro n
    induction n with
    | zero =>
      intro x1 u hv0 kx
      exact False.elim hv0
    | succ n ih =>
      intro x1 u hv0 kx
      refine wk_aload_n F dX6_plays_22 rfl 0 rfl (pc' := 23) rfl ?_
      refine wk_get (C := RX6) (T := TX6) (N := 12) F 0 rfl rfl k_6 8 (Nat.le_of_ble_eq_true rfl) w_2 rfl dX6_plays_23 (pc' := 26) rfl ?_
      refine wk_aload_n F dX6_plays_26 rfl 0 rfl (pc' := 27) rfl ?_
      refine wk_get (C := RX6) (T := TX6) (N := 12) F 0 rfl rfl k_6 7 (Nat.le_of_ble_eq_true rfl) w_5 rfl dX6_plays_27 (pc' := 30) rfl ?_
      refine wk_icmp_ge (tgt := 56) F dX6_plays_30 (by decide) (pc' := 33) rfl (fun c1 => ?_) (fun c1 => ?_)
      · exact kx x1 u (by rw [f6_plays_L22] <;> exact (st_pos c1 rfl))
      · refine wk_aload_n F dX6_plays_33 rfl 0 rfl (pc' := 34) rfl ?_
        refine wk_get (C := RX6) (T := TX6) (N := 12) F 0 rfl rfl k_6 9 (Nat.le_of_ble_eq_true rfl) w_3 rfl dX6_plays_34 (pc' := 37) rfl ?_
        refine wk_if_ne (tgt := 56) F dX6_plays_37 (by decide) (pc' := 40) rfl (fun c2 => ?_) (fun c2 => ?_)
        · exact kx x1 u (by rw [f6_plays_L22] <;> exact (st_neg c1 (st_neg c2 rfl)))
        · refine wk_aload_n F dX6_plays_40 rfl 0 rfl (pc' := 41) rfl ?_
          refine wk_get (C := RX6) (T := TX6) (N := 12) F 0 rfl rfl k_6 8 (Nat.le_of_ble_eq_true rfl) w_2 rfl dX6_plays_41 (pc' := 44) rfl ?_
          refine wk_istore_n (lv' := [(1, .int (u 6 3)), (0, .ref (hs 0))]) F dX6_plays_44 rfl (Nat.le_of_ble_eq_true rfl) rfl (pc' := 45) rfl ?_
          refine wk_aload_n F dX6_plays_45 rfl 1 rfl (pc' := 46) rfl ?_
          refine wk_aload_n F dX6_plays_46 rfl 1 rfl (pc' := 47) rfl ?_
          refine wk_same_i F (c6_does l D cI cP hs u (hv0 c1 c2).1.1 (hv0 c1 c2).1.2.1 (hv0 c1 c2).1.2.2.1 (hv0 c1 c2).1.2.2.2.1 (hv0 c1 c2).1.2.2.2.2 c1) (cwV 0 F.hts gX6_plays_X6_does rfl rfl rfl hdX6_does ⟨Nat.le_of_ble_eq_true rfl, Nat.le_of_ble_eq_true rfl⟩) 0 6 rfl rfl rfl rfl (Nat.le_of_ble_eq_true rfl) dX6_plays_47 ⟨Nat.zero_le _, Nat.zero_le _⟩ (pc' := 50) rfl (fun r4 u3 h5 => ?_)
          refine wk_putu (wg := wMod cI hs) (f0 := wr u3 6 4 r4) (C := RX6) (T := TX6) (N := 12) (ty0 := tyX6) F 0 rfl rfl k_6 tyX6_ok nmX6 9 (Nat.le_of_ble_eq_true rfl) w_3 rfl rfl rfl (Nat.le_of_ble_eq_true rfl) sM_4 dX6_plays_50 (pc' := 53) rfl (fun u6 h7 => ?_)
          refine wk_goto (tgt := 22) F dX6_plays_53 (by decide) ?_
          refine wk_lv [1, 0] rfl ?_
          exact ih (u 6 3) u6 (by have q := (hv0 c1 c2).2 _ _ h5; rw [h7] at q; exact q) (fun y1_ u_ h_ => kx y1_ u_ (Eq.trans (by rw [f6_plays_L22] <;> exact (st_neg c1 (st_pos c2 (st_match h5 (st_let h7 rfl))))) h_))
  refine wk_aload_n F dX6_plays_0 rfl 0 rfl (pc' := 1) rfl ?_
  refine wk_iconst F dX6_plays_1 ic_1 (pc' := 2) rfl ?_
  refine wk_putu (wg := wMod cI hs) (f0 := wr σ 6 1 (1 : Int32)) (C := RX6) (T := TX6) (N := 12) (ty0 := tyX6) F 0 rfl rfl k_6 tyX6_ok nmX6 5 (Nat.le_of_ble_eq_true rfl) w_1 rfl rfl rfl (Nat.le_of_ble_eq_true rfl) sM_1 dX6_plays_2 (pc' := 5) rfl (fun u8 h9 => ?_)
  refine wk_aload_n F dX6_plays_5 rfl 0 rfl (pc' := 6) rfl ?_
  refine wk_iconst F dX6_plays_6 ic_0 (pc' := 7) rfl ?_
  refine wk_putu (wg := wMod cI hs) (f0 := wr u8 6 3 (0 : Int32)) (C := RX6) (T := TX6) (N := 12) (ty0 := tyX6) F 0 rfl rfl k_6 tyX6_ok nmX6 8 (Nat.le_of_ble_eq_true rfl) w_2 rfl rfl rfl (Nat.le_of_ble_eq_true rfl) sM_3 dX6_plays_7 (pc' := 10) rfl (fun u10 h11 => ?_)
  refine wk_aload_n F dX6_plays_10 rfl 0 rfl (pc' := 11) rfl ?_
  refine wk_iconst F dX6_plays_11 ic_0 (pc' := 12) rfl ?_
  refine wk_putu (wg := wMod cI hs) (f0 := wr u10 6 4 (0 : Int32)) (C := RX6) (T := TX6) (N := 12) (ty0 := tyX6) F 0 rfl rfl k_6 tyX6_ok nmX6 9 (Nat.le_of_ble_eq_true rfl) w_3 rfl rfl rfl (Nat.le_of_ble_eq_true rfl) sM_4 dX6_plays_12 (pc' := 15) rfl (fun u12 h13 => ?_)
  refine wk_aload_n F dX6_plays_15 rfl 0 rfl (pc' := 16) rfl ?_
  refine wk_iconst F dX6_plays_16 ic_0 (pc' := 17) rfl ?_
  refine wk_putu (wg := wMod cI hs) (f0 := wr u12 6 5 (0 : Int32)) (C := RX6) (T := TX6) (N := 12) (ty0 := tyX6) F 0 rfl rfl k_6 tyX6_ok nmX6 10 (Nat.le_of_ble_eq_true rfl) w_4 rfl rfl rfl (Nat.le_of_ble_eq_true rfl) sM_5 dX6_plays_17 (pc' := 20) rfl (fun u14 h15 => ?_)
  refine wk_iconst F dX6_plays_20 ic_0 (pc' := 21) rfl ?_
  refine wk_istore_n (lv' := [(1, .int (0 : Int32)), (0, .ref (hs 0))]) F dX6_plays_21 rfl (Nat.le_of_ble_eq_true rfl) rfl (pc' := 22) rfl ?_
  refine wk_lv [1, 0] rfl ?_
  refine L22 61 (0 : Int32) u14 (by subst h15; subst h13; subst h11; subst h9; exact hT) (fun y17 u18 h16 => ?_)
  refine wk_aload_n F dX6_plays_56 rfl 0 rfl (pc' := 57) rfl ?_
  refine wk_iconst F dX6_plays_57 ic_0 (pc' := 58) rfl ?_
  refine wk_putu (wg := wMod cI hs) (f0 := wr u18 6 1 (0 : Int32)) (C := RX6) (T := TX6) (N := 12) (ty0 := tyX6) F 0 rfl rfl k_6 tyX6_ok nmX6 5 (Nat.le_of_ble_eq_true rfl) w_1 rfl rfl rfl (Nat.le_of_ble_eq_true rfl) sM_1 dX6_plays_58 (pc' := 61) rfl (fun u19 h20 => ?_)
  refine wk_aload_n F dX6_plays_61 rfl 0 rfl (pc' := 62) rfl ?_
  refine wk_get (C := RX6) (T := TX6) (N := 12) F 0 rfl rfl k_6 9 (Nat.le_of_ble_eq_true rfl) w_3 rfl dX6_plays_62 (pc' := 65) rfl ?_
  refine wk_if_ne (tgt := 73) F dX6_plays_65 (by decide) (pc' := 68) rfl (fun c21 => ?_) (fun c21 => ?_)
  · refine wk_iload_n F dX6_plays_73 rfl 1 rfl (pc' := 74) rfl ?_
    exact hret _ _ _ _ dX6_plays_74 rfl (by rw [f6_plays] <;> exact (st_let h9 (st_let h11 (st_let h13 (st_let h15 (st_match h16 (st_let h20 (st_neg c21 rfl))))))))
  · refine wk_ldc F dX6_plays_68 w_6 (pc' := 70) rfl ?_
    refine wk_goto (tgt := 74) F dX6_plays_70 (by decide) ?_
    exact hret _ _ _ _ dX6_plays_74 rfl (by rw [f6_plays] <;> exact (st_let h9 (st_let h11 (st_let h13 (st_let h15 (st_match h16 (st_let h20 (st_pos c21 rfl))))))))
def f6_fault (σ : PS) (p1 : Int32) : Int32 × PS := (if (f6_in p1 (0 : Int32) (1 : Int32)) = 0 then ((-1000001 : Int32), σ) else (sq (cpyR σ 0 2) (fun (u2 : PS) => (sq2 (f6_plays u2) (fun (r5 : Int32) (u4 : PS) => (sq (cpyR u4 2 0) (fun (u7 : PS) => (if r5 = (-1000004 : Int32) then (r5, u7) else (if p1 = 0 then (r5, u7) else (u7 6 4, u7))))))))))
set_option maxHeartbeats 4000000 in
set_option maxRecDepth 100000 in
theorem c6_fault (l : Launch) (D : va_G) (cI cP : ClassId) (hs : Nat → Nat) (σ : PS) (p1 : Int32) (hT : f6_plays_T 61 (playsInit (cpyR σ 0 2))) : CI l yX6_fault wsX6_fault ({ frames := 11, cells := 0, slots := 0, locals := 248 } : Room) D (cty cI cP) (wMod cI hs σ) (wMod cI hs) [.ref (hs 0), .int p1] 0 0 (fun r u => f6_fault σ p1 = (r, u)) := by
  refine CI.of (cc := cX6_fault) (maxL := 3) (rt := .int) (own := RX6) (lv0 := [(0, .ref (hs 0)), (1, .int p1)]) pnX6 rfl rfl (Nat.le_of_ble_eq_true rfl) rfl (fun p e s m args below meth c A Q F hret => ?_)
  have w_2 := F.at (x := Cond.fieldLink RX6 7 "ThinVolumesModel" "s" "[I") 2 rfl
  have w_3 := F.at (x := Cond.fieldLink RX6 16 "ThinVolumesModel" "held" "[I") 3 rfl
  have w_4 := F.at (x := Cond.constant RX6 65 (-1000004)) 4 rfl
  have w_5 := F.at (x := Cond.fieldLink RX6 190 "ThinVolumesModel" "reason" "I") 5 rfl
  have w_1 := F.at (x := Cond.constant RX6 86 (-1000001)) 1 rfl
  have k_6 : ∀ w ∈ wsX60, w ∈ wsX6_fault := fun _ h => List.mem_cons_of_mem _ (List.mem_append_right _ (h))
  refine wk_iload_n F dX6_fault_0 rfl 1 rfl (pc' := 1) rfl ?_
  refine wk_iconst F dX6_fault_1 ic_0 (pc' := 2) rfl ?_
  refine wk_iconst F dX6_fault_2 ic_1 (pc' := 3) rfl ?_
  refine wk_none_s F (c6_in l D cI cP p1 (0 : Int32) (1 : Int32)) (va_cwS 3 F.hts gX6_fault_X6_in rfl rfl rfl hdX6_in ⟨Nat.le_of_ble_eq_true rfl, Nat.le_of_ble_eq_true rfl⟩) rfl rfl (Nat.le_of_ble_eq_true rfl) dX6_fault_3 ⟨Nat.zero_le _, Nat.zero_le _⟩ (pc' := 6) rfl ?_
  refine wk_if_ne (tgt := 12) F dX6_fault_6 (by decide) (pc' := 9) rfl (fun c1 => ?_) (fun c1 => ?_)
  · refine wk_aload_n F dX6_fault_12 rfl 0 rfl (pc' := 13) rfl ?_
    refine wk_get (C := RX6) (T := TX6) (N := 12) F 0 rfl rfl k_6 0 (Nat.le_of_ble_eq_true rfl) w_2 rfl dX6_fault_13 (pc' := 16) rfl ?_
    refine wk_aload_n F dX6_fault_16 rfl 0 rfl (pc' := 17) rfl ?_
    refine wk_get (C := RX6) (T := TX6) (N := 12) F 0 rfl rfl k_6 2 (Nat.le_of_ble_eq_true rfl) w_3 rfl dX6_fault_17 (pc' := 20) rfl ?_
    refine wk_cp_0_2 F (va_cwS 2 F.hts gX6_fault_X6_copies rfl rfl rfl hdX6_copies ⟨Nat.le_of_ble_eq_true rfl, Nat.le_of_ble_eq_true rfl⟩) rfl (Nat.le_of_ble_eq_true rfl) dX6_fault_20 ⟨Nat.zero_le _, Nat.zero_le _⟩ (pc' := 23) rfl (fun u2 h3 => ?_)
    refine wk_aload_n F dX6_fault_23 rfl 0 rfl (pc' := 24) rfl ?_
    refine wk_same_i F (c6_plays l D cI cP hs u2 (by subst h3; exact hT)) (cwV 0 F.hts gX6_fault_X6_plays rfl rfl rfl hdX6_plays ⟨Nat.le_of_ble_eq_true rfl, Nat.le_of_ble_eq_true rfl⟩) 0 6 rfl rfl rfl rfl (Nat.le_of_ble_eq_true rfl) dX6_fault_24 ⟨Nat.zero_le _, Nat.zero_le _⟩ (pc' := 27) rfl (fun r5 u4 h6 => ?_)
    refine wk_istore_n (lv' := [(2, .int r5), (0, .ref (hs 0)), (1, .int p1)]) F dX6_fault_27 rfl (Nat.le_of_ble_eq_true rfl) rfl (pc' := 28) rfl ?_
    refine wk_aload_n F dX6_fault_28 rfl 1 rfl (pc' := 29) rfl ?_
    refine wk_get (C := RX6) (T := TX6) (N := 12) F 0 rfl rfl k_6 2 (Nat.le_of_ble_eq_true rfl) w_3 rfl dX6_fault_29 (pc' := 32) rfl ?_
    refine wk_aload_n F dX6_fault_32 rfl 1 rfl (pc' := 33) rfl ?_
    refine wk_get (C := RX6) (T := TX6) (N := 12) F 0 rfl rfl k_6 0 (Nat.le_of_ble_eq_true rfl) w_2 rfl dX6_fault_33 (pc' := 36) rfl ?_
    refine wk_cp_2_0 F (va_cwS 2 F.hts gX6_fault_X6_copies rfl rfl rfl hdX6_copies ⟨Nat.le_of_ble_eq_true rfl, Nat.le_of_ble_eq_true rfl⟩) rfl (Nat.le_of_ble_eq_true rfl) dX6_fault_36 ⟨Nat.zero_le _, Nat.zero_le _⟩ (pc' := 39) rfl (fun u7 h8 => ?_)
    refine wk_iload_n F dX6_fault_39 rfl 0 rfl (pc' := 40) rfl ?_
    refine wk_ldc F dX6_fault_40 w_4 (pc' := 42) rfl ?_
    refine wk_icmp_eq (tgt := 49) F dX6_fault_42 (by decide) (pc' := 45) rfl (fun c9 => ?_) (fun c9 => ?_)
    · refine wk_iload_n F dX6_fault_49 rfl 0 rfl (pc' := 50) rfl ?_
      refine wk_goto (tgt := 57) F dX6_fault_50 (by decide) ?_
      exact hret _ _ _ _ dX6_fault_57 rfl (by rw [f6_fault] <;> exact (st_neg c1 (st_let h3 (st_match h6 (st_let h8 (st_pos c9 rfl))))))
    · refine wk_iload_n F dX6_fault_45 rfl 2 rfl (pc' := 46) rfl ?_
      refine wk_if_ne (tgt := 53) F dX6_fault_46 (by decide) (pc' := 49) rfl (fun c10 => ?_) (fun c10 => ?_)
      · refine wk_aload_n F dX6_fault_53 rfl 1 rfl (pc' := 54) rfl ?_
        refine wk_get (C := RX6) (T := TX6) (N := 12) F 0 rfl rfl k_6 9 (Nat.le_of_ble_eq_true rfl) w_5 rfl dX6_fault_54 (pc' := 57) rfl ?_
        exact hret _ _ _ _ dX6_fault_57 rfl (by rw [f6_fault] <;> exact (st_neg c1 (st_let h3 (st_match h6 (st_let h8 (st_neg c9 (st_neg c10 rfl)))))))
      · refine wk_iload_n F dX6_fault_49 rfl 0 rfl (pc' := 50) rfl ?_
        refine wk_goto (tgt := 57) F dX6_fault_50 (by decide) ?_
        exact hret _ _ _ _ dX6_fault_57 rfl (by rw [f6_fault] <;> exact (st_neg c1 (st_let h3 (st_match h6 (st_let h8 (st_neg c9 (st_pos c10 rfl)))))))
  · refine wk_ldc F dX6_fault_9 w_1 (pc' := 11) rfl ?_
    exact hret _ _ _ _ dX6_fault_11 rfl (by rw [f6_fault] <;> exact (st_pos c1 rfl))
def f6_play (σ : PS) : Int32 × PS := (sq (cpyR σ 0 2) (fun (u1 : PS) => (sq2 (f6_plays u1) (fun (r4 : Int32) (u3 : PS) => (sq (cpyR u3 2 0) (fun (u6 : PS) => (if r4 = (-1000004 : Int32) then (sq (f6_changes u6) (fun (u9 : PS) => (sq2 (f6_plays u9) (fun (r12 : Int32) (u11 : PS) => (if r12 = (-1000004 : Int32) then (u11 6 5, u11) else ((-1000004 : Int32), u11)))))) else ((-1000002 : Int32), u6))))))))
set_option maxHeartbeats 4000000 in
set_option maxRecDepth 100000 in
theorem c6_play (l : Launch) (D : va_G) (cI cP : ClassId) (hs : Nat → Nat) (σ : PS) (hT : f6_plays_T 61 (playsInit (cpyR σ 0 2))) (hT2 : ∀ (r : Int32) (u1 u2 u3 : PS), cpyR σ 0 2 = u1 → f6_plays u1 = (r, u2) → cpyR u2 2 0 = u3 → okH u3 ∧ f6_plays_T 61 (playsInit (f6_changes u3))) : CI l yX6_play wsX6_play ({ frames := 11, cells := 0, slots := 0, locals := 248 } : Room) D (cty cI cP) (wMod cI hs σ) (wMod cI hs) [.ref (hs 0)] 0 0 (fun r u => f6_play σ = (r, u)) := by
  refine CI.of (cc := cX6_play) (maxL := 2) (rt := .int) (own := RX6) (lv0 := [(0, .ref (hs 0))]) pnX6 rfl rfl (Nat.le_of_ble_eq_true rfl) rfl (fun p e s m args below meth c A Q F hret => ?_)
  have w_1 := F.at (x := Cond.fieldLink RX6 7 "ThinVolumesModel" "s" "[I") 1 rfl
  have w_2 := F.at (x := Cond.fieldLink RX6 16 "ThinVolumesModel" "held" "[I") 2 rfl
  have w_3 := F.at (x := Cond.constant RX6 65 (-1000004)) 3 rfl
  have w_5 := F.at (x := Cond.fieldLink RX6 162 "ThinVolumesModel" "refusals" "I") 5 rfl
  have w_4 := F.at (x := Cond.constant RX6 100 (-1000002)) 4 rfl
  have k_6 : ∀ w ∈ wsX60, w ∈ wsX6_play := fun _ h => List.mem_cons_of_mem _ (List.mem_append_right _ (h))
  refine wk_aload_n F dX6_play_0 rfl 0 rfl (pc' := 1) rfl ?_
  refine wk_get (C := RX6) (T := TX6) (N := 12) F 0 rfl rfl k_6 0 (Nat.le_of_ble_eq_true rfl) w_1 rfl dX6_play_1 (pc' := 4) rfl ?_
  refine wk_aload_n F dX6_play_4 rfl 0 rfl (pc' := 5) rfl ?_
  refine wk_get (C := RX6) (T := TX6) (N := 12) F 0 rfl rfl k_6 2 (Nat.le_of_ble_eq_true rfl) w_2 rfl dX6_play_5 (pc' := 8) rfl ?_
  refine wk_cp_0_2 F (va_cwS 2 F.hts gX6_play_X6_copies rfl rfl rfl hdX6_copies ⟨Nat.le_of_ble_eq_true rfl, Nat.le_of_ble_eq_true rfl⟩) rfl (Nat.le_of_ble_eq_true rfl) dX6_play_8 ⟨Nat.zero_le _, Nat.zero_le _⟩ (pc' := 11) rfl (fun u1 h2 => ?_)
  refine wk_aload_n F dX6_play_11 rfl 0 rfl (pc' := 12) rfl ?_
  refine wk_same_i F (c6_plays l D cI cP hs u1 (by subst h2; exact hT)) (cwV 0 F.hts gX6_play_X6_plays rfl rfl rfl hdX6_plays ⟨Nat.le_of_ble_eq_true rfl, Nat.le_of_ble_eq_true rfl⟩) 0 6 rfl rfl rfl rfl (Nat.le_of_ble_eq_true rfl) dX6_play_12 ⟨Nat.zero_le _, Nat.zero_le _⟩ (pc' := 15) rfl (fun r4 u3 h5 => ?_)
  refine wk_istore_n (lv' := [(1, .int r4), (0, .ref (hs 0))]) F dX6_play_15 rfl (Nat.le_of_ble_eq_true rfl) rfl (pc' := 16) rfl ?_
  refine wk_aload_n F dX6_play_16 rfl 1 rfl (pc' := 17) rfl ?_
  refine wk_get (C := RX6) (T := TX6) (N := 12) F 0 rfl rfl k_6 2 (Nat.le_of_ble_eq_true rfl) w_2 rfl dX6_play_17 (pc' := 20) rfl ?_
  refine wk_aload_n F dX6_play_20 rfl 1 rfl (pc' := 21) rfl ?_
  refine wk_get (C := RX6) (T := TX6) (N := 12) F 0 rfl rfl k_6 0 (Nat.le_of_ble_eq_true rfl) w_1 rfl dX6_play_21 (pc' := 24) rfl ?_
  refine wk_cp_2_0 F (va_cwS 2 F.hts gX6_play_X6_copies rfl rfl rfl hdX6_copies ⟨Nat.le_of_ble_eq_true rfl, Nat.le_of_ble_eq_true rfl⟩) rfl (Nat.le_of_ble_eq_true rfl) dX6_play_24 ⟨Nat.zero_le _, Nat.zero_le _⟩ (pc' := 27) rfl (fun u6 h7 => ?_)
  refine wk_iload_n F dX6_play_27 rfl 0 rfl (pc' := 28) rfl ?_
  refine wk_ldc F dX6_play_28 w_3 (pc' := 30) rfl ?_
  refine wk_icmp_eq (tgt := 36) F dX6_play_30 (by decide) (pc' := 33) rfl (fun c8 => ?_) (fun c8 => ?_)
  · refine wk_aload_n F dX6_play_36 rfl 1 rfl (pc' := 37) rfl ?_
    refine wk_same_v F (c6_changes l D cI cP hs u6 (hT2 _ _ _ _ h2 h5 h7).1) (cwV 0 F.hts gX6_play_X6_changes rfl rfl rfl hdX6_changes ⟨Nat.le_of_ble_eq_true rfl, Nat.le_of_ble_eq_true rfl⟩) 0 6 rfl rfl rfl rfl (Nat.le_of_ble_eq_true rfl) dX6_play_37 ⟨Nat.zero_le _, Nat.zero_le _⟩ (pc' := 40) rfl (fun u9 h10 => ?_)
    refine wk_aload_n F dX6_play_40 rfl 1 rfl (pc' := 41) rfl ?_
    refine wk_same_i F (c6_plays l D cI cP hs u9 (by subst h10; exact (hT2 _ _ _ _ h2 h5 h7).2)) (cwV 0 F.hts gX6_play_X6_plays rfl rfl rfl hdX6_plays ⟨Nat.le_of_ble_eq_true rfl, Nat.le_of_ble_eq_true rfl⟩) 0 6 rfl rfl rfl rfl (Nat.le_of_ble_eq_true rfl) dX6_play_41 ⟨Nat.zero_le _, Nat.zero_le _⟩ (pc' := 44) rfl (fun r12 u11 h13 => ?_)
    refine wk_ldc F dX6_play_44 w_3 (pc' := 46) rfl ?_
    refine wk_icmp_ne (tgt := 56) F dX6_play_46 (by decide) (pc' := 49) rfl (fun c14 => ?_) (fun c14 => ?_)
    · refine wk_ldc F dX6_play_56 w_3 (pc' := 58) rfl ?_
      exact hret _ _ _ _ dX6_play_58 rfl (by rw [f6_play] <;> exact (st_let h2 (st_match h5 (st_let h7 (st_pos c8 (st_let h10 (st_match h13 (st_neg c14 rfl))))))))
    · refine wk_aload_n F dX6_play_49 rfl 1 rfl (pc' := 50) rfl ?_
      refine wk_get (C := RX6) (T := TX6) (N := 12) F 0 rfl rfl k_6 10 (Nat.le_of_ble_eq_true rfl) w_5 rfl dX6_play_50 (pc' := 53) rfl ?_
      refine wk_goto (tgt := 58) F dX6_play_53 (by decide) ?_
      exact hret _ _ _ _ dX6_play_58 rfl (by rw [f6_play] <;> exact (st_let h2 (st_match h5 (st_let h7 (st_pos c8 (st_let h10 (st_match h13 (st_pos c14 rfl))))))))
  · refine wk_ldc F dX6_play_33 w_4 (pc' := 35) rfl ?_
    exact hret _ _ _ _ dX6_play_35 rfl (by rw [f6_play] <;> exact (st_let h2 (st_match h5 (st_let h7 (st_neg c8 rfl)))))
