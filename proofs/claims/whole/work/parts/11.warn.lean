def f4_tell (σ : PS) (p1 : Int32) (p2 : Int32) : Int32 := (if p1 < 0 then (-1000004 : Int32) else (if (σ 13 3) ≤ p1 then (-1000004 : Int32) else (if p1 < (10 : Int32) then (if p2 = (0 : Int32) then σ 10 p1.toNatClampNeg else (if p2 = (1 : Int32) then σ 11 p1.toNatClampNeg else σ 12 p1.toNatClampNeg)) else (-1000004 : Int32))))
set_option maxHeartbeats 4000000 in
set_option maxRecDepth 100000 in
theorem c4_tell (l : Launch) (D : va_G) (cI cP : ClassId) (hs : Nat → Nat) (σ : PS) (p1 : Int32) (p2 : Int32) : CP l yX4_tell wsX4_tell ({ frames := 0, cells := 0, slots := 0, locals := 0 } : Room) D (cty cI cP) (wWarn cI hs) σ [.ref (hs 11), .int p1, .int p2] (f4_tell σ p1 p2) := by
  refine CP.of (cc := cX4_tell) (maxL := 3) (rt := .int) (own := RX4) (lv0 := [(0, .ref (hs 11)), (1, .int p1), (2, .int p2)]) pnX4 rfl rfl (Nat.le_of_ble_eq_true rfl) rfl (fun p e s m args below meth c A Q F hret => ?_)
  have w_2 := F.at (x := Cond.constant RX4 37 (-1000004)) 2 rfl
  have w_1 := F.at (x := Cond.fieldLink RX4 27 "ThinVolumes$Warnings" "kept" "I") 1 rfl
  have w_3 := F.at (x := Cond.fieldLink RX4 9 "ThinVolumes$Warnings" "kinds" "[I") 3 rfl
  have w_4 := F.at (x := Cond.fieldLink RX4 15 "ThinVolumes$Warnings" "volumes" "[I") 4 rfl
  have w_5 := F.at (x := Cond.fieldLink RX4 18 "ThinVolumes$Warnings" "available" "[I") 5 rfl
  have k_4 : ∀ w ∈ wsX40, w ∈ wsX4_tell := fun _ h => List.mem_cons_of_mem _ (List.mem_append_right _ (h))
  refine wk_iload_n F dX4_tell_0 rfl 1 rfl (pc' := 1) rfl ?_
  refine wk_if_lt (tgt := 18) F dX4_tell_1 (by decide) (pc' := 4) rfl (fun c1 => ?_) (fun c1 => ?_)
  · refine wk_ldc F dX4_tell_18 w_2 (pc' := 20) rfl ?_
    exact hret _ _ _ dX4_tell_20 rfl (Eq.symm (by rw [f4_tell] <;> exact (st_pos c1 rfl)))
  · refine wk_iload_n F dX4_tell_4 rfl 1 rfl (pc' := 5) rfl ?_
    refine wk_aload_n F dX4_tell_5 rfl 0 rfl (pc' := 6) rfl ?_
    refine wk_get (C := RX4) (T := TX4) (N := 4) F 0 rfl rfl k_4 3 (Nat.le_of_ble_eq_true rfl) w_1 rfl dX4_tell_6 (pc' := 9) rfl ?_
    refine wk_icmp_ge (tgt := 18) F dX4_tell_9 (by decide) (pc' := 12) rfl (fun c2 => ?_) (fun c2 => ?_)
    · refine wk_ldc F dX4_tell_18 w_2 (pc' := 20) rfl ?_
      exact hret _ _ _ dX4_tell_20 rfl (Eq.symm (by rw [f4_tell] <;> exact (st_neg c1 (st_pos c2 rfl))))
    · refine wk_iload_n F dX4_tell_12 rfl 1 rfl (pc' := 13) rfl ?_
      refine wk_bipush F dX4_tell_13 bp_10 (pc' := 15) rfl ?_
      refine wk_icmp_lt (tgt := 21) F dX4_tell_15 (by decide) (pc' := 18) rfl (fun c3 => ?_) (fun c3 => ?_)
      · refine wk_iload_n F dX4_tell_21 rfl 2 rfl (pc' := 22) rfl ?_
        by_cases c4 : p2 = (0 : Int32)
        · refine wk_top c4 ?_
          refine wk_lookup (off := 26) (tgt := 48) F dX4_tell_22 (by decide) (by decide) (by decide) ?_
          refine wk_aload_n F dX4_tell_48 rfl 0 rfl (pc' := 49) rfl ?_
          refine wk_get (C := RX4) (T := TX4) (N := 4) F 0 rfl rfl k_4 0 (Nat.le_of_ble_eq_true rfl) w_3 rfl dX4_tell_49 (pc' := 52) rfl ?_
          refine wk_iload_n F dX4_tell_52 rfl 1 rfl (pc' := 53) rfl ?_
          refine wk_iald F 1 0 rfl rfl (vin c1 (lt_nle c3) (Nat.le_of_ble_eq_true rfl)) dX4_tell_53 (pc' := 54) rfl ?_
          exact hret _ _ _ dX4_tell_54 rfl (Eq.symm (by rw [f4_tell] <;> exact (st_neg c1 (st_neg c2 (st_pos c3 (st_pos c4 rfl))))))
        by_cases c5 : p2 = (1 : Int32)
        · refine wk_top c5 ?_
          refine wk_lookup (off := 33) (tgt := 55) F dX4_tell_22 (by decide) (by decide) (by decide) ?_
          refine wk_aload_n F dX4_tell_55 rfl 0 rfl (pc' := 56) rfl ?_
          refine wk_get (C := RX4) (T := TX4) (N := 4) F 0 rfl rfl k_4 1 (Nat.le_of_ble_eq_true rfl) w_4 rfl dX4_tell_56 (pc' := 59) rfl ?_
          refine wk_iload_n F dX4_tell_59 rfl 1 rfl (pc' := 60) rfl ?_
          refine wk_iald F 2 0 rfl rfl (vin c1 (lt_nle c3) (Nat.le_of_ble_eq_true rfl)) dX4_tell_60 (pc' := 61) rfl ?_
          exact hret _ _ _ dX4_tell_61 rfl (Eq.symm (by rw [f4_tell] <;> exact (st_neg c1 (st_neg c2 (st_pos c3 (st_neg c4 (st_pos c5 rfl)))))))
        refine wk_lookup (off := 40) (tgt := 62) F dX4_tell_22 (by decide) (by have ec4 := ti_ne (k := 0) c4 (by decide); have ec5 := ti_ne (k := 1) c5 (by decide); simp [Op.lookupswitch.offset, Ne.symm ec4, Ne.symm ec5]) (by decide) ?_
        refine wk_aload_n F dX4_tell_62 rfl 0 rfl (pc' := 63) rfl ?_
        refine wk_get (C := RX4) (T := TX4) (N := 4) F 0 rfl rfl k_4 2 (Nat.le_of_ble_eq_true rfl) w_5 rfl dX4_tell_63 (pc' := 66) rfl ?_
        refine wk_iload_n F dX4_tell_66 rfl 1 rfl (pc' := 67) rfl ?_
        refine wk_iald F 3 0 rfl rfl (vin c1 (lt_nle c3) (Nat.le_of_ble_eq_true rfl)) dX4_tell_67 (pc' := 68) rfl ?_
        exact hret _ _ _ dX4_tell_68 rfl (Eq.symm (by rw [f4_tell] <;> exact (st_neg c1 (st_neg c2 (st_pos c3 (st_neg c4 (st_neg c5 rfl)))))))
      · refine wk_ldc F dX4_tell_18 w_2 (pc' := 20) rfl ?_
        exact hret _ _ _ dX4_tell_20 rfl (Eq.symm (by rw [f4_tell] <;> exact (st_neg c1 (st_neg c2 (st_neg c3 rfl)))))
def f4_add (σ : PS) (p1 : Int32) (p2 : Int32) (p3 : Int32) : PS := (sq (setA σ 10 (va_cpy (σ 10) (σ 10) 0 1 9)) (fun (u1 : PS) => (sq (setA u1 11 (va_cpy (u1 11) (u1 11) 0 1 9)) (fun (u3 : PS) => (sq (setA u3 12 (va_cpy (u3 12) (u3 12) 0 1 9)) (fun (u5 : PS) => (sq (wr u5 10 0 p1) (fun (u7 : PS) => (sq (wr u7 11 0 p2) (fun (u9 : PS) => (sq (wr u9 12 0 p3) (fun (u11 : PS) => (sq (wr u11 13 3 (if (10 : Int32) < ((u11 13 3) + (1 : Int32)) then (10 : Int32) else ((u11 13 3) + (1 : Int32)))) (fun (u13 : PS) => u13))))))))))))))
set_option maxHeartbeats 4000000 in
set_option maxRecDepth 100000 in
theorem c4_add (l : Launch) (D : va_G) (cI cP : ClassId) (hs : Nat → Nat) (σ : PS) (p1 : Int32) (p2 : Int32) (p3 : Int32) : CV l yX4_add wsX4_add ({ frames := 1, cells := 0, slots := 0, locals := 60 } : Room) D (cty cI cP) (wWarn cI hs σ) (wWarn cI hs) [.ref (hs 11), .int p1, .int p2, .int p3] 0 0 (fun u => f4_add σ p1 p2 p3 = u) := by
  refine CV.of (cc := cX4_add) (maxL := 4) (own := RX4) (lv0 := [(0, .ref (hs 11)), (1, .int p1), (2, .int p2), (3, .int p3)]) pnX4 rfl rfl (Nat.le_of_ble_eq_true rfl) rfl (fun p e s m args below meth c A Q F hmn hret => ?_)
  have w_1 := F.at (x := Cond.fieldLink RX4 9 "ThinVolumes$Warnings" "kinds" "[I") 1 rfl
  have w_2 := F.at (x := Cond.methodLink RX4 21 arraycopyName) 2 rfl
  have w_3 := F.at (x := Cond.native arraycopyName) 3 rfl
  have w_4 := F.at (x := Cond.static arraycopyName) 4 rfl
  have w_5 := F.at (x := Cond.initialized "java/lang/System") 5 rfl
  have w_6 := F.at (x := Cond.fieldLink RX4 15 "ThinVolumes$Warnings" "volumes" "[I") 6 rfl
  have w_7 := F.at (x := Cond.fieldLink RX4 18 "ThinVolumes$Warnings" "available" "[I") 7 rfl
  have w_8 := F.at (x := Cond.fieldLink RX4 27 "ThinVolumes$Warnings" "kept" "I") 8 rfl
  have w_9 := F.at (x := Cond.methodLink RX4 31 Lib.Math.min.name) 9 rfl
  have w_10 := F.at (x := Cond.static Lib.Math.min.name) 10 rfl
  have w_11 := F.at (x := Cond.initialized "java/lang/Math") 11 rfl
  have w_12 := F.at (x := Cond.code Lib.Math.min.name Lib.Math.min.code 2 (some .int)) 12 rfl
  have k_4 : ∀ w ∈ wsX40, w ∈ wsX4_add := fun _ h => List.mem_cons_of_mem _ (List.mem_append_right _ (h))
  refine wk_aload_n F dX4_add_0 rfl 0 rfl (pc' := 1) rfl ?_
  refine wk_get (C := RX4) (T := TX4) (N := 4) F 0 rfl rfl k_4 0 (Nat.le_of_ble_eq_true rfl) w_1 rfl dX4_add_1 (pc' := 4) rfl ?_
  refine wk_iconst F dX4_add_4 ic_0 (pc' := 5) rfl ?_
  refine wk_aload_n F dX4_add_5 rfl 0 rfl (pc' := 6) rfl ?_
  refine wk_get (C := RX4) (T := TX4) (N := 4) F 0 rfl rfl k_4 0 (Nat.le_of_ble_eq_true rfl) w_1 rfl dX4_add_6 (pc' := 9) rfl ?_
  refine wk_iconst F dX4_add_9 ic_1 (pc' := 10) rfl ?_
  refine wk_bipush F dX4_add_10 bp_9 (pc' := 12) rfl ?_
  refine wk_copyiu (wg := wWarn cI hs) (f0 := setA σ 10 (va_cpy (σ 10) (σ 10) 0 1 9)) F 1 1 0 0 w_2 w_3 w_4 w_5 rfl rfl rfl rfl (by decide) (by decide) (by decide) (Nat.le_of_ble_eq_true rfl) (Nat.le_of_ble_eq_true rfl) (Nat.le_of_ble_eq_true rfl) (Nat.le_of_ble_eq_true rfl) aW_10 dX4_add_12 (pc' := 15) rfl (fun u1 h2 => ?_)
  refine wk_aload_n F dX4_add_15 rfl 0 rfl (pc' := 16) rfl ?_
  refine wk_get (C := RX4) (T := TX4) (N := 4) F 0 rfl rfl k_4 1 (Nat.le_of_ble_eq_true rfl) w_6 rfl dX4_add_16 (pc' := 19) rfl ?_
  refine wk_iconst F dX4_add_19 ic_0 (pc' := 20) rfl ?_
  refine wk_aload_n F dX4_add_20 rfl 0 rfl (pc' := 21) rfl ?_
  refine wk_get (C := RX4) (T := TX4) (N := 4) F 0 rfl rfl k_4 1 (Nat.le_of_ble_eq_true rfl) w_6 rfl dX4_add_21 (pc' := 24) rfl ?_
  refine wk_iconst F dX4_add_24 ic_1 (pc' := 25) rfl ?_
  refine wk_bipush F dX4_add_25 bp_9 (pc' := 27) rfl ?_
  refine wk_copyiu (wg := wWarn cI hs) (f0 := setA u1 11 (va_cpy (u1 11) (u1 11) 0 1 9)) F 2 2 0 0 w_2 w_3 w_4 w_5 rfl rfl rfl rfl (by decide) (by decide) (by decide) (Nat.le_of_ble_eq_true rfl) (Nat.le_of_ble_eq_true rfl) (Nat.le_of_ble_eq_true rfl) (Nat.le_of_ble_eq_true rfl) aW_11 dX4_add_27 (pc' := 30) rfl (fun u3 h4 => ?_)
  refine wk_aload_n F dX4_add_30 rfl 0 rfl (pc' := 31) rfl ?_
  refine wk_get (C := RX4) (T := TX4) (N := 4) F 0 rfl rfl k_4 2 (Nat.le_of_ble_eq_true rfl) w_7 rfl dX4_add_31 (pc' := 34) rfl ?_
  refine wk_iconst F dX4_add_34 ic_0 (pc' := 35) rfl ?_
  refine wk_aload_n F dX4_add_35 rfl 0 rfl (pc' := 36) rfl ?_
  refine wk_get (C := RX4) (T := TX4) (N := 4) F 0 rfl rfl k_4 2 (Nat.le_of_ble_eq_true rfl) w_7 rfl dX4_add_36 (pc' := 39) rfl ?_
  refine wk_iconst F dX4_add_39 ic_1 (pc' := 40) rfl ?_
  refine wk_bipush F dX4_add_40 bp_9 (pc' := 42) rfl ?_
  refine wk_copyiu (wg := wWarn cI hs) (f0 := setA u3 12 (va_cpy (u3 12) (u3 12) 0 1 9)) F 3 3 0 0 w_2 w_3 w_4 w_5 rfl rfl rfl rfl (by decide) (by decide) (by decide) (Nat.le_of_ble_eq_true rfl) (Nat.le_of_ble_eq_true rfl) (Nat.le_of_ble_eq_true rfl) (Nat.le_of_ble_eq_true rfl) aW_12 dX4_add_42 (pc' := 45) rfl (fun u5 h6 => ?_)
  refine wk_aload_n F dX4_add_45 rfl 0 rfl (pc' := 46) rfl ?_
  refine wk_get (C := RX4) (T := TX4) (N := 4) F 0 rfl rfl k_4 0 (Nat.le_of_ble_eq_true rfl) w_1 rfl dX4_add_46 (pc' := 49) rfl ?_
  refine wk_iconst F dX4_add_49 ic_0 (pc' := 50) rfl ?_
  refine wk_iload_n F dX4_add_50 rfl 1 rfl (pc' := 51) rfl ?_
  refine wk_iastu_n (wg := wWarn cI hs) (f0 := wr u5 10 0 p1) (i := 0) F 1 0 rfl rfl aW_10 (by omega) (Nat.le_of_ble_eq_true rfl) dX4_add_51 (pc' := 52) rfl (fun u7 h8 => ?_)
  refine wk_aload_n F dX4_add_52 rfl 0 rfl (pc' := 53) rfl ?_
  refine wk_get (C := RX4) (T := TX4) (N := 4) F 0 rfl rfl k_4 1 (Nat.le_of_ble_eq_true rfl) w_6 rfl dX4_add_53 (pc' := 56) rfl ?_
  refine wk_iconst F dX4_add_56 ic_0 (pc' := 57) rfl ?_
  refine wk_iload_n F dX4_add_57 rfl 2 rfl (pc' := 58) rfl ?_
  refine wk_iastu_n (wg := wWarn cI hs) (f0 := wr u7 11 0 p2) (i := 0) F 2 0 rfl rfl aW_11 (by omega) (Nat.le_of_ble_eq_true rfl) dX4_add_58 (pc' := 59) rfl (fun u9 h10 => ?_)
  refine wk_aload_n F dX4_add_59 rfl 0 rfl (pc' := 60) rfl ?_
  refine wk_get (C := RX4) (T := TX4) (N := 4) F 0 rfl rfl k_4 2 (Nat.le_of_ble_eq_true rfl) w_7 rfl dX4_add_60 (pc' := 63) rfl ?_
  refine wk_iconst F dX4_add_63 ic_0 (pc' := 64) rfl ?_
  refine wk_iload_n F dX4_add_64 rfl 3 rfl (pc' := 65) rfl ?_
  refine wk_iastu_n (wg := wWarn cI hs) (f0 := wr u9 12 0 p3) (i := 0) F 3 0 rfl rfl aW_12 (by omega) (Nat.le_of_ble_eq_true rfl) dX4_add_65 (pc' := 66) rfl (fun u11 h12 => ?_)
  refine wk_aload_n F dX4_add_66 rfl 0 rfl (pc' := 67) rfl ?_
  refine wk_aload_n F dX4_add_67 rfl 0 rfl (pc' := 68) rfl ?_
  refine wk_get (C := RX4) (T := TX4) (N := 4) F 0 rfl rfl k_4 3 (Nat.le_of_ble_eq_true rfl) w_8 rfl dX4_add_68 (pc' := 71) rfl ?_
  refine wk_iconst F dX4_add_71 ic_1 (pc' := 72) rfl ?_
  refine wk_iadd F dX4_add_72 (pc' := 73) rfl ?_
  refine wk_bipush F dX4_add_73 bp_10 (pc' := 75) rfl ?_
  refine wk_mmin F w_9 w_10 w_11 w_12 (Nat.le_of_ble_eq_true rfl) (Nat.le_of_ble_eq_true rfl) (Nat.zero_le _) (Nat.zero_le _) dX4_add_75 (pc' := 78) rfl ?_
  refine wk_putu (wg := wWarn cI hs) (f0 := wr u11 13 3 (if (10 : Int32) < ((u11 13 3) + (1 : Int32)) then (10 : Int32) else ((u11 13 3) + (1 : Int32)))) (C := RX4) (T := TX4) (N := 4) (ty0 := tyX4) F 0 rfl rfl k_4 tyX4_ok nmX4 3 (Nat.le_of_ble_eq_true rfl) w_8 rfl rfl rfl (Nat.le_of_ble_eq_true rfl) sW_3 dX4_add_78 (pc' := 81) rfl (fun u13 h14 => ?_)
  exact hret _ _ _ dX4_add_81 (by rw [f4_add] <;> exact (st_let h2 (st_let h4 (st_let h6 (st_let h8 (st_let h10 (st_let h12 (st_let h14 rfl))))))))
theorem hw_add {cI : ClassId} {hs : Nat → Nat} {u : PS} {a b c : Int32} : wPool11 cI hs u ++ wWarn cI hs (f4_add u a b c) = wPool cI hs (f4_add u a b c) := rfl
