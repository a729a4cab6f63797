def f3_append (σ : PS) (p1 : Int32) : Int32 × PS := (if (σ 2 0) < 0 then ((0 : Int32), σ) else (if (σ 2 0) < (60 : Int32) then (sq (wr σ 0 (σ 2 0).toNatClampNeg p1) (fun (u3 : PS) => (sq (wr u3 2 0 ((u3 2 0) + (1 : Int32))) (fun (u5 : PS) => ((1 : Int32), u5))))) else ((0 : Int32), σ)))
set_option maxHeartbeats 4000000 in
set_option maxRecDepth 100000 in
theorem c3_append (l : Launch) (D : va_G) (cI cP : ClassId) (hs : Nat → Nat) (σ : PS) (p1 : Int32) : CI l yX3_append wsX3_append ({ frames := 0, cells := 0, slots := 0, locals := 0 } : Room) D (cty cI cP) (wText cI hs σ) (wText cI hs) [.ref (hs 0), .int p1] 0 0 (fun r u => f3_append σ p1 = (r, u)) := by
  refine CI.of (cc := cX3_append) (maxL := 2) (rt := .boolean) (own := RX3) (lv0 := [(0, .ref (hs 0)), (1, .int p1)]) pnX3 rfl rfl (Nat.le_of_ble_eq_true rfl) rfl (fun p e s m args below meth c A Q F hret => ?_)
  have w_1 := F.at (x := Cond.fieldLink RX3 18 "ThinVolumes$Text" "length" "I") 1 rfl
  have w_2 := F.at (x := Cond.fieldLink RX3 9 "ThinVolumes$Text" "signs" "[I") 2 rfl
  have k_3 : ∀ w ∈ wsX30, w ∈ wsX3_append := fun _ h => List.mem_cons_of_mem _ (List.mem_append_right _ (h))
  refine wk_aload_n F dX3_append_0 rfl 0 rfl (pc' := 1) rfl ?_
  refine wk_get (C := RX3) (T := TX3) (N := 5) F 0 rfl rfl k_3 1 (Nat.le_of_ble_eq_true rfl) w_1 rfl dX3_append_1 (pc' := 4) rfl ?_
  refine wk_if_lt (tgt := 16) F dX3_append_4 (by decide) (pc' := 7) rfl (fun c1 => ?_) (fun c1 => ?_)
  · refine wk_iconst F dX3_append_16 ic_0 (pc' := 17) rfl ?_
    exact hret _ _ _ _ dX3_append_17 rfl (by rw [f3_append] <;> exact (st_pos c1 rfl))
  · refine wk_aload_n F dX3_append_7 rfl 0 rfl (pc' := 8) rfl ?_
    refine wk_get (C := RX3) (T := TX3) (N := 5) F 0 rfl rfl k_3 1 (Nat.le_of_ble_eq_true rfl) w_1 rfl dX3_append_8 (pc' := 11) rfl ?_
    refine wk_bipush F dX3_append_11 bp_60 (pc' := 13) rfl ?_
    refine wk_icmp_lt (tgt := 18) F dX3_append_13 (by decide) (pc' := 16) rfl (fun c2 => ?_) (fun c2 => ?_)
    · refine wk_aload_n F dX3_append_18 rfl 0 rfl (pc' := 19) rfl ?_
      refine wk_get (C := RX3) (T := TX3) (N := 5) F 0 rfl rfl k_3 0 (Nat.le_of_ble_eq_true rfl) w_2 rfl dX3_append_19 (pc' := 22) rfl ?_
      refine wk_aload_n F dX3_append_22 rfl 0 rfl (pc' := 23) rfl ?_
      refine wk_get (C := RX3) (T := TX3) (N := 5) F 0 rfl rfl k_3 1 (Nat.le_of_ble_eq_true rfl) w_1 rfl dX3_append_23 (pc' := 26) rfl ?_
      refine wk_iload_n F dX3_append_26 rfl 1 rfl (pc' := 27) rfl ?_
      refine wk_iastu (wg := wText cI hs) (f0 := wr σ 0 (σ 2 0).toNatClampNeg p1) F 1 0 rfl rfl aT_0 (vin c1 (lt_nle c2) (Nat.le_of_ble_eq_true rfl)) dX3_append_27 (pc' := 28) rfl (fun u3 h4 => ?_)
      refine wk_aload_n F dX3_append_28 rfl 0 rfl (pc' := 29) rfl ?_
      refine wk_dup F dX3_append_29 rfl (pc' := 30) rfl ?_
      refine wk_get (C := RX3) (T := TX3) (N := 5) F 0 rfl rfl k_3 1 (Nat.le_of_ble_eq_true rfl) w_1 rfl dX3_append_30 (pc' := 33) rfl ?_
      refine wk_iconst F dX3_append_33 ic_1 (pc' := 34) rfl ?_
      refine wk_iadd F dX3_append_34 (pc' := 35) rfl ?_
      refine wk_putu (wg := wText cI hs) (f0 := wr u3 2 0 ((u3 2 0) + (1 : Int32))) (C := RX3) (T := TX3) (N := 5) (ty0 := tyX3) F 0 rfl rfl k_3 tyX3_ok nmX3 1 (Nat.le_of_ble_eq_true rfl) w_1 rfl rfl rfl (Nat.le_of_ble_eq_true rfl) sT_0 dX3_append_35 (pc' := 38) rfl (fun u5 h6 => ?_)
      refine wk_iconst F dX3_append_38 ic_1 (pc' := 39) rfl ?_
      exact hret _ _ _ _ dX3_append_39 rfl (by rw [f3_append] <;> exact (st_neg c1 (st_pos c2 (st_let h4 (st_let h6 rfl)))))
    · refine wk_iconst F dX3_append_16 ic_0 (pc' := 17) rfl ?_
      exact hret _ _ _ _ dX3_append_17 rfl (by rw [f3_append] <;> exact (st_neg c1 (st_neg c2 rfl)))
def f3_signHere (σ : PS) : Int32 := (if (σ 2 2) < 0 then (-1 : Int32) else (if (σ 2 0) ≤ (σ 2 2) then (-1 : Int32) else (if (60 : Int32) ≤ (σ 2 2) then (-1 : Int32) else σ 0 (σ 2 2).toNatClampNeg)))
set_option maxHeartbeats 4000000 in
set_option maxRecDepth 100000 in
theorem c3_signHere (l : Launch) (D : va_G) (cI cP : ClassId) (hs : Nat → Nat) (σ : PS) : CP l yX3_signHere wsX3_signHere ({ frames := 0, cells := 0, slots := 0, locals := 0 } : Room) D (cty cI cP) (wText cI hs) σ [.ref (hs 0)] (f3_signHere σ) := by
  refine CP.of (cc := cX3_signHere) (maxL := 1) (rt := .int) (own := RX3) (lv0 := [(0, .ref (hs 0))]) pnX3 rfl rfl (Nat.le_of_ble_eq_true rfl) rfl (fun p e s m args below meth c A Q F hret => ?_)
  have w_1 := F.at (x := Cond.fieldLink RX3 22 "ThinVolumes$Text" "next" "I") 1 rfl
  have w_2 := F.at (x := Cond.fieldLink RX3 18 "ThinVolumes$Text" "length" "I") 2 rfl
  have w_3 := F.at (x := Cond.fieldLink RX3 9 "ThinVolumes$Text" "signs" "[I") 3 rfl
  have k_3 : ∀ w ∈ wsX30, w ∈ wsX3_signHere := fun _ h => List.mem_cons_of_mem _ (List.mem_append_right _ (h))
  refine wk_aload_n F dX3_signHere_0 rfl 0 rfl (pc' := 1) rfl ?_
  refine wk_get (C := RX3) (T := TX3) (N := 5) F 0 rfl rfl k_3 4 (Nat.le_of_ble_eq_true rfl) w_1 rfl dX3_signHere_1 (pc' := 4) rfl ?_
  refine wk_if_lt (tgt := 39) F dX3_signHere_4 (by decide) (pc' := 7) rfl (fun c1 => ?_) (fun c1 => ?_)
  · refine wk_iconst F dX3_signHere_39 ic_m1 (pc' := 40) rfl ?_
    exact hret _ _ _ dX3_signHere_40 rfl (Eq.symm (by rw [f3_signHere] <;> exact (st_pos c1 rfl)))
  · refine wk_aload_n F dX3_signHere_7 rfl 0 rfl (pc' := 8) rfl ?_
    refine wk_get (C := RX3) (T := TX3) (N := 5) F 0 rfl rfl k_3 4 (Nat.le_of_ble_eq_true rfl) w_1 rfl dX3_signHere_8 (pc' := 11) rfl ?_
    refine wk_aload_n F dX3_signHere_11 rfl 0 rfl (pc' := 12) rfl ?_
    refine wk_get (C := RX3) (T := TX3) (N := 5) F 0 rfl rfl k_3 1 (Nat.le_of_ble_eq_true rfl) w_2 rfl dX3_signHere_12 (pc' := 15) rfl ?_
    refine wk_icmp_ge (tgt := 39) F dX3_signHere_15 (by decide) (pc' := 18) rfl (fun c2 => ?_) (fun c2 => ?_)
    · refine wk_iconst F dX3_signHere_39 ic_m1 (pc' := 40) rfl ?_
      exact hret _ _ _ dX3_signHere_40 rfl (Eq.symm (by rw [f3_signHere] <;> exact (st_neg c1 (st_pos c2 rfl))))
    · refine wk_aload_n F dX3_signHere_18 rfl 0 rfl (pc' := 19) rfl ?_
      refine wk_get (C := RX3) (T := TX3) (N := 5) F 0 rfl rfl k_3 4 (Nat.le_of_ble_eq_true rfl) w_1 rfl dX3_signHere_19 (pc' := 22) rfl ?_
      refine wk_bipush F dX3_signHere_22 bp_60 (pc' := 24) rfl ?_
      refine wk_icmp_ge (tgt := 39) F dX3_signHere_24 (by decide) (pc' := 27) rfl (fun c3 => ?_) (fun c3 => ?_)
      · refine wk_iconst F dX3_signHere_39 ic_m1 (pc' := 40) rfl ?_
        exact hret _ _ _ dX3_signHere_40 rfl (Eq.symm (by rw [f3_signHere] <;> exact (st_neg c1 (st_neg c2 (st_pos c3 rfl)))))
      · refine wk_aload_n F dX3_signHere_27 rfl 0 rfl (pc' := 28) rfl ?_
        refine wk_get (C := RX3) (T := TX3) (N := 5) F 0 rfl rfl k_3 0 (Nat.le_of_ble_eq_true rfl) w_3 rfl dX3_signHere_28 (pc' := 31) rfl ?_
        refine wk_aload_n F dX3_signHere_31 rfl 0 rfl (pc' := 32) rfl ?_
        refine wk_get (C := RX3) (T := TX3) (N := 5) F 0 rfl rfl k_3 4 (Nat.le_of_ble_eq_true rfl) w_1 rfl dX3_signHere_32 (pc' := 35) rfl ?_
        refine wk_iald F 1 0 rfl rfl (vin c1 c3 (Nat.le_of_ble_eq_true rfl)) dX3_signHere_35 (pc' := 36) rfl ?_
        refine wk_goto (tgt := 40) F dX3_signHere_36 (by decide) ?_
        exact hret _ _ _ dX3_signHere_40 rfl (Eq.symm (by rw [f3_signHere] <;> exact (st_neg c1 (st_neg c2 (st_neg c3 rfl)))))
def f3_numbersDue (σ : PS) (p1 : Int32) : Int32 := (if p1 = (99 : Int32) then (1 : Int32) else (if p1 = (100 : Int32) then (1 : Int32) else (if p1 = (109 : Int32) then (0 : Int32) else (if p1 = (115 : Int32) then (1 : Int32) else (if p1 = (116 : Int32) then (2 : Int32) else (if p1 = (119 : Int32) then (3 : Int32) else (-1 : Int32)))))))
set_option maxHeartbeats 4000000 in
set_option maxRecDepth 100000 in
theorem c3_numbersDue (l : Launch) (D : va_G) (cI cP : ClassId) (hs : Nat → Nat) (σ : PS) (p1 : Int32) : CP l yX3_numbersDue wsX3_numbersDue ({ frames := 0, cells := 0, slots := 0, locals := 0 } : Room) D (cty cI cP) (wText cI hs) σ [.ref (hs 0), .int p1] (f3_numbersDue σ p1) := by
  refine CP.of (cc := cX3_numbersDue) (maxL := 2) (rt := .int) (own := RX3) (lv0 := [(0, .ref (hs 0)), (1, .int p1)]) pnX3 rfl rfl (Nat.le_of_ble_eq_true rfl) rfl (fun p e s m args below meth c A Q F hret => ?_)
  refine wk_iload_n F dX3_numbersDue_0 rfl 1 rfl (pc' := 1) rfl ?_
  by_cases c1 : p1 = (99 : Int32)
  · refine wk_top c1 ?_
    refine wk_lookup (off := 63) (tgt := 64) F dX3_numbersDue_1 (by decide) (by decide) (by decide) ?_
    refine wk_iconst F dX3_numbersDue_64 ic_1 (pc' := 65) rfl ?_
    exact hret _ _ _ dX3_numbersDue_65 rfl (Eq.symm (by rw [f3_numbersDue] <;> exact (st_pos c1 rfl)))
  by_cases c2 : p1 = (100 : Int32)
  · refine wk_top c2 ?_
    refine wk_lookup (off := 63) (tgt := 64) F dX3_numbersDue_1 (by decide) (by decide) (by decide) ?_
    refine wk_iconst F dX3_numbersDue_64 ic_1 (pc' := 65) rfl ?_
    exact hret _ _ _ dX3_numbersDue_65 rfl (Eq.symm (by rw [f3_numbersDue] <;> exact (st_neg c1 (st_pos c2 rfl))))
  by_cases c3 : p1 = (109 : Int32)
  · refine wk_top c3 ?_
    refine wk_lookup (off := 65) (tgt := 66) F dX3_numbersDue_1 (by decide) (by decide) (by decide) ?_
    refine wk_iconst F dX3_numbersDue_66 ic_0 (pc' := 67) rfl ?_
    exact hret _ _ _ dX3_numbersDue_67 rfl (Eq.symm (by rw [f3_numbersDue] <;> exact (st_neg c1 (st_neg c2 (st_pos c3 rfl)))))
  by_cases c4 : p1 = (115 : Int32)
  · refine wk_top c4 ?_
    refine wk_lookup (off := 63) (tgt := 64) F dX3_numbersDue_1 (by decide) (by decide) (by decide) ?_
    refine wk_iconst F dX3_numbersDue_64 ic_1 (pc' := 65) rfl ?_
    exact hret _ _ _ dX3_numbersDue_65 rfl (Eq.symm (by rw [f3_numbersDue] <;> exact (st_neg c1 (st_neg c2 (st_neg c3 (st_pos c4 rfl))))))
  by_cases c5 : p1 = (116 : Int32)
  · refine wk_top c5 ?_
    refine wk_lookup (off := 61) (tgt := 62) F dX3_numbersDue_1 (by decide) (by decide) (by decide) ?_
    refine wk_iconst F dX3_numbersDue_62 ic_2 (pc' := 63) rfl ?_
    exact hret _ _ _ dX3_numbersDue_63 rfl (Eq.symm (by rw [f3_numbersDue] <;> exact (st_neg c1 (st_neg c2 (st_neg c3 (st_neg c4 (st_pos c5 rfl)))))))
  by_cases c6 : p1 = (119 : Int32)
  · refine wk_top c6 ?_
    refine wk_lookup (off := 59) (tgt := 60) F dX3_numbersDue_1 (by decide) (by decide) (by decide) ?_
    refine wk_iconst F dX3_numbersDue_60 ic_3 (pc' := 61) rfl ?_
    exact hret _ _ _ dX3_numbersDue_61 rfl (Eq.symm (by rw [f3_numbersDue] <;> exact (st_neg c1 (st_neg c2 (st_neg c3 (st_neg c4 (st_neg c5 (st_pos c6 rfl))))))))
  refine wk_lookup (off := 67) (tgt := 68) F dX3_numbersDue_1 (by decide) (by have ec1 := ti_ne (k := 99) c1 (by decide); have ec2 := ti_ne (k := 100) c2 (by decide); have ec3 := ti_ne (k := 109) c3 (by decide); have ec4 := ti_ne (k := 115) c4 (by decide); have ec5 := ti_ne (k := 116) c5 (by decide); have ec6 := ti_ne (k := 119) c6 (by decide); simp [Op.lookupswitch.offset, Ne.symm ec1, Ne.symm ec2, Ne.symm ec3, Ne.symm ec4, Ne.symm ec5, Ne.symm ec6]) (by decide) ?_
  refine wk_iconst F dX3_numbersDue_68 ic_m1 (pc' := 69) rfl ?_
  exact hret _ _ _ dX3_numbersDue_69 rfl (Eq.symm (by rw [f3_numbersDue] <;> exact (st_neg c1 (st_neg c2 (st_neg c3 (st_neg c4 (st_neg c5 (st_neg c6 rfl))))))))
def f3_passes (σ : PS) (p1 : Int32) : Int32 × PS := (if (f3_signHere σ) = p1 then (sq (wr σ 2 2 ((σ 2 2) + (1 : Int32))) (fun (u2 : PS) => ((1 : Int32), u2))) else ((0 : Int32), σ))
set_option maxHeartbeats 4000000 in
set_option maxRecDepth 100000 in
theorem c3_passes (l : Launch) (D : va_G) (cI cP : ClassId) (hs : Nat → Nat) (σ : PS) (p1 : Int32) : CI l yX3_passes wsX3_passes ({ frames := 1, cells := 0, slots := 0, locals := 20 } : Room) D (cty cI cP) (wText cI hs σ) (wText cI hs) [.ref (hs 0), .int p1] 0 0 (fun r u => f3_passes σ p1 = (r, u)) := by
  refine CI.of (cc := cX3_passes) (maxL := 2) (rt := .boolean) (own := RX3) (lv0 := [(0, .ref (hs 0)), (1, .int p1)]) pnX3 rfl rfl (Nat.le_of_ble_eq_true rfl) rfl (fun p e s m args below meth c A Q F hret => ?_)
  have w_1 := F.at (x := Cond.fieldLink RX3 22 "ThinVolumes$Text" "next" "I") 1 rfl
  have k_3 : ∀ w ∈ wsX30, w ∈ wsX3_passes := fun _ h => List.mem_cons_of_mem _ (List.mem_append_right _ (h))
  refine wk_aload_n F dX3_passes_0 rfl 0 rfl (pc' := 1) rfl ?_
  refine wk_same_p F (c3_signHere l D cI cP hs σ) (cwV 0 F.hts gX3_passes_X3_signHere rfl rfl rfl hdX3_signHere ⟨Nat.le_of_ble_eq_true rfl, Nat.le_of_ble_eq_true rfl⟩) 0 3 rfl rfl rfl rfl (Nat.le_of_ble_eq_true rfl) dX3_passes_1 ⟨Nat.zero_le _, Nat.zero_le _⟩ (pc' := 4) rfl ?_
  refine wk_iload_n F dX3_passes_4 rfl 1 rfl (pc' := 5) rfl ?_
  refine wk_icmp_eq (tgt := 10) F dX3_passes_5 (by decide) (pc' := 8) rfl (fun c1 => ?_) (fun c1 => ?_)
  · refine wk_aload_n F dX3_passes_10 rfl 0 rfl (pc' := 11) rfl ?_
    refine wk_dup F dX3_passes_11 rfl (pc' := 12) rfl ?_
    refine wk_get (C := RX3) (T := TX3) (N := 5) F 0 rfl rfl k_3 4 (Nat.le_of_ble_eq_true rfl) w_1 rfl dX3_passes_12 (pc' := 15) rfl ?_
    refine wk_iconst F dX3_passes_15 ic_1 (pc' := 16) rfl ?_
    refine wk_iadd F dX3_passes_16 (pc' := 17) rfl ?_
    refine wk_putu (wg := wText cI hs) (f0 := wr σ 2 2 ((σ 2 2) + (1 : Int32))) (C := RX3) (T := TX3) (N := 5) (ty0 := tyX3) F 0 rfl rfl k_3 tyX3_ok nmX3 4 (Nat.le_of_ble_eq_true rfl) w_1 rfl rfl rfl (Nat.le_of_ble_eq_true rfl) sT_2 dX3_passes_17 (pc' := 20) rfl (fun u2 h3 => ?_)
    refine wk_iconst F dX3_passes_20 ic_1 (pc' := 21) rfl ?_
    exact hret _ _ _ _ dX3_passes_21 rfl (by rw [f3_passes] <;> exact (st_pos c1 (st_let h3 rfl)))
  · refine wk_iconst F dX3_passes_8 ic_0 (pc' := 9) rfl ?_
    exact hret _ _ _ _ dX3_passes_9 rfl (by rw [f3_passes] <;> exact (st_neg c1 rfl))
theorem nz01 {r : Int32} (h : r = 0 ∨ r = 1) : narrow .boolean (.int r) = .int r := by
  rcases h with rfl | rfl <;> rfl
theorem passes_z {u u2 : PS} {x r : Int32} (h : f3_passes u x = (r, u2)) : narrow .boolean (.int r) = .int r := by
  apply nz01
  unfold f3_passes sq at h
  split at h
  · exact Or.inr (congrArg Prod.fst h).symm
  · exact Or.inl (congrArg Prod.fst h).symm
def f3_readDigit (σ : PS) : Int32 × PS := (if (f3_signHere σ) < (48 : Int32) then ((-1 : Int32), σ) else (if (f3_signHere σ) ≤ (57 : Int32) then (sq (wr σ 2 2 ((σ 2 2) + (1 : Int32))) (fun (u3 : PS) => ((f3_signHere σ) - (48 : Int32), u3))) else ((-1 : Int32), σ)))
set_option maxHeartbeats 4000000 in
set_option maxRecDepth 100000 in
theorem c3_readDigit (l : Launch) (D : va_G) (cI cP : ClassId) (hs : Nat → Nat) (σ : PS) : CI l yX3_readDigit wsX3_readDigit ({ frames := 1, cells := 0, slots := 0, locals := 20 } : Room) D (cty cI cP) (wText cI hs σ) (wText cI hs) [.ref (hs 0)] 0 0 (fun r u => f3_readDigit σ = (r, u)) := by
  refine CI.of (cc := cX3_readDigit) (maxL := 2) (rt := .int) (own := RX3) (lv0 := [(0, .ref (hs 0))]) pnX3 rfl rfl (Nat.le_of_ble_eq_true rfl) rfl (fun p e s m args below meth c A Q F hret => ?_)
  have w_1 := F.at (x := Cond.fieldLink RX3 22 "ThinVolumes$Text" "next" "I") 1 rfl
  have k_3 : ∀ w ∈ wsX30, w ∈ wsX3_readDigit := fun _ h => List.mem_cons_of_mem _ (List.mem_append_right _ (h))
  refine wk_aload_n F dX3_readDigit_0 rfl 0 rfl (pc' := 1) rfl ?_
  refine wk_same_p F (c3_signHere l D cI cP hs σ) (cwV 0 F.hts gX3_readDigit_X3_signHere rfl rfl rfl hdX3_signHere ⟨Nat.le_of_ble_eq_true rfl, Nat.le_of_ble_eq_true rfl⟩) 0 3 rfl rfl rfl rfl (Nat.le_of_ble_eq_true rfl) dX3_readDigit_1 ⟨Nat.zero_le _, Nat.zero_le _⟩ (pc' := 4) rfl ?_
  refine wk_istore_n (lv' := [(1, .int (f3_signHere σ)), (0, .ref (hs 0))]) F dX3_readDigit_4 rfl (Nat.le_of_ble_eq_true rfl) rfl (pc' := 5) rfl ?_
  refine wk_iload_n F dX3_readDigit_5 rfl 0 rfl (pc' := 6) rfl ?_
  refine wk_bipush F dX3_readDigit_6 bp_48 (pc' := 8) rfl ?_
  refine wk_icmp_lt (tgt := 17) F dX3_readDigit_8 (by decide) (pc' := 11) rfl (fun c1 => ?_) (fun c1 => ?_)
  · refine wk_iconst F dX3_readDigit_17 ic_m1 (pc' := 18) rfl ?_
    exact hret _ _ _ _ dX3_readDigit_18 rfl (by rw [f3_readDigit] <;> exact (st_pos c1 rfl))
  · refine wk_iload_n F dX3_readDigit_11 rfl 0 rfl (pc' := 12) rfl ?_
    refine wk_bipush F dX3_readDigit_12 bp_57 (pc' := 14) rfl ?_
    refine wk_icmp_le (tgt := 19) F dX3_readDigit_14 (by decide) (pc' := 17) rfl (fun c2 => ?_) (fun c2 => ?_)
    · refine wk_aload_n F dX3_readDigit_19 rfl 1 rfl (pc' := 20) rfl ?_
      refine wk_dup F dX3_readDigit_20 rfl (pc' := 21) rfl ?_
      refine wk_get (C := RX3) (T := TX3) (N := 5) F 0 rfl rfl k_3 4 (Nat.le_of_ble_eq_true rfl) w_1 rfl dX3_readDigit_21 (pc' := 24) rfl ?_
      refine wk_iconst F dX3_readDigit_24 ic_1 (pc' := 25) rfl ?_
      refine wk_iadd F dX3_readDigit_25 (pc' := 26) rfl ?_
      refine wk_putu (wg := wText cI hs) (f0 := wr σ 2 2 ((σ 2 2) + (1 : Int32))) (C := RX3) (T := TX3) (N := 5) (ty0 := tyX3) F 0 rfl rfl k_3 tyX3_ok nmX3 4 (Nat.le_of_ble_eq_true rfl) w_1 rfl rfl rfl (Nat.le_of_ble_eq_true rfl) sT_2 dX3_readDigit_26 (pc' := 29) rfl (fun u3 h4 => ?_)
      refine wk_iload_n F dX3_readDigit_29 rfl 0 rfl (pc' := 30) rfl ?_
      refine wk_bipush F dX3_readDigit_30 bp_48 (pc' := 32) rfl ?_
      refine wk_isub F dX3_readDigit_32 (pc' := 33) rfl ?_
      exact hret _ _ _ _ dX3_readDigit_33 rfl (by rw [f3_readDigit] <;> exact (st_neg c1 (st_pos c2 (st_let h4 rfl))))
    · refine wk_iconst F dX3_readDigit_17 ic_m1 (pc' := 18) rfl ?_
      exact hret _ _ _ _ dX3_readDigit_18 rfl (by rw [f3_readDigit] <;> exact (st_neg c1 (st_neg c2 rfl)))
def f3_readNumber (σ : PS) : Int32 × PS := (sq2 (f3_readDigit σ) (fun (r2 : Int32) (u1 : PS) => (if r2 = (-1 : Int32) then ((-1 : Int32), u1) else (sq2 (f3_readDigit u1) (fun (r6 : Int32) (u5 : PS) => (if r6 = (-1 : Int32) then (r2, u5) else ((r2 * (10 : Int32)) + r6, u5)))))))
set_option maxHeartbeats 4000000 in
set_option maxRecDepth 100000 in
theorem c3_readNumber (l : Launch) (D : va_G) (cI cP : ClassId) (hs : Nat → Nat) (σ : PS) : CI l yX3_readNumber wsX3_readNumber ({ frames := 2, cells := 0, slots := 0, locals := 41 } : Room) D (cty cI cP) (wText cI hs σ) (wText cI hs) [.ref (hs 0)] 0 0 (fun r u => f3_readNumber σ = (r, u)) := by
  refine CI.of (cc := cX3_readNumber) (maxL := 3) (rt := .int) (own := RX3) (lv0 := [(0, .ref (hs 0))]) pnX3 rfl rfl (Nat.le_of_ble_eq_true rfl) rfl (fun p e s m args below meth c A Q F hret => ?_)
  refine wk_aload_n F dX3_readNumber_0 rfl 0 rfl (pc' := 1) rfl ?_
  refine wk_same_i F (c3_readDigit l D cI cP hs σ) (cwV 0 F.hts gX3_readNumber_X3_readDigit rfl rfl rfl hdX3_readDigit ⟨Nat.le_of_ble_eq_true rfl, Nat.le_of_ble_eq_true rfl⟩) 0 3 rfl rfl rfl rfl (Nat.le_of_ble_eq_true rfl) dX3_readNumber_1 ⟨Nat.zero_le _, Nat.zero_le _⟩ (pc' := 4) rfl (fun r2 u1 h3 => ?_)
  refine wk_istore_n (lv' := [(1, .int r2), (0, .ref (hs 0))]) F dX3_readNumber_4 rfl (Nat.le_of_ble_eq_true rfl) rfl (pc' := 5) rfl ?_
  refine wk_iload_n F dX3_readNumber_5 rfl 0 rfl (pc' := 6) rfl ?_
  refine wk_iconst F dX3_readNumber_6 ic_m1 (pc' := 7) rfl ?_
  refine wk_icmp_ne (tgt := 12) F dX3_readNumber_7 (by decide) (pc' := 10) rfl (fun c4 => ?_) (fun c4 => ?_)
  · refine wk_aload_n F dX3_readNumber_12 rfl 1 rfl (pc' := 13) rfl ?_
    refine wk_same_i F (c3_readDigit l D cI cP hs u1) (cwV 0 F.hts gX3_readNumber_X3_readDigit rfl rfl rfl hdX3_readDigit ⟨Nat.le_of_ble_eq_true rfl, Nat.le_of_ble_eq_true rfl⟩) 0 3 rfl rfl rfl rfl (Nat.le_of_ble_eq_true rfl) dX3_readNumber_13 ⟨Nat.zero_le _, Nat.zero_le _⟩ (pc' := 16) rfl (fun r6 u5 h7 => ?_)
    refine wk_istore_n (lv' := [(2, .int r6), (1, .int r2), (0, .ref (hs 0))]) F dX3_readNumber_16 rfl (Nat.le_of_ble_eq_true rfl) rfl (pc' := 17) rfl ?_
    refine wk_iload_n F dX3_readNumber_17 rfl 0 rfl (pc' := 18) rfl ?_
    refine wk_iconst F dX3_readNumber_18 ic_m1 (pc' := 19) rfl ?_
    refine wk_icmp_ne (tgt := 26) F dX3_readNumber_19 (by decide) (pc' := 22) rfl (fun c8 => ?_) (fun c8 => ?_)
    · refine wk_iload_n F dX3_readNumber_26 rfl 1 rfl (pc' := 27) rfl ?_
      refine wk_bipush F dX3_readNumber_27 bp_10 (pc' := 29) rfl ?_
      refine wk_imul F dX3_readNumber_29 (pc' := 30) rfl ?_
      refine wk_iload_n F dX3_readNumber_30 rfl 0 rfl (pc' := 31) rfl ?_
      refine wk_iadd F dX3_readNumber_31 (pc' := 32) rfl ?_
      exact hret _ _ _ _ dX3_readNumber_32 rfl (by rw [f3_readNumber] <;> exact (st_match h3 (st_neg c4 (st_match h7 (st_neg c8 rfl)))))
    · refine wk_iload_n F dX3_readNumber_22 rfl 1 rfl (pc' := 23) rfl ?_
      refine wk_goto (tgt := 32) F dX3_readNumber_23 (by decide) ?_
      exact hret _ _ _ _ dX3_readNumber_32 rfl (by rw [f3_readNumber] <;> exact (st_match h3 (st_neg c4 (st_match h7 (st_pos c8 rfl)))))
  · refine wk_iconst F dX3_readNumber_10 ic_m1 (pc' := 11) rfl ?_
    exact hret _ _ _ _ dX3_readNumber_11 rfl (by rw [f3_readNumber] <;> exact (st_match h3 (st_pos c4 rfl)))
def f3_readOrder_L41 (p1 : Int32) (y2 : Int32) : Nat → Nat → PS → Int32 × PS
  | 0, i, u => (if y2 ≤ (nI i) then (sq2 (f3_passes u (59 : Int32)) (fun (r3 : Int32) (u2 : PS) => (r3, u2))) else (sq2 (f3_passes u (59 : Int32)) (fun (r6 : Int32) (u5 : PS) => (r6, u5))))
  | n + 1, i, u => (if y2 ≤ (nI i) then (sq2 (f3_passes u (59 : Int32)) (fun (r10 : Int32) (u9 : PS) => (r10, u9))) else (if (nI i) ≤ 0 then (sq2 (f3_readNumber u) (fun (r14 : Int32) (u13 : PS) => (sq (wr u13 1 i r14) (fun (u16 : PS) => (if (u16 1 i) = (-1 : Int32) then ((0 : Int32), u16) else f3_readOrder_L41 p1 y2 n (i + 1) u16))))) else (sq2 (f3_passes u (44 : Int32)) (fun (r20 : Int32) (u19 : PS) => (if r20 = 0 then ((0 : Int32), u19) else (sq2 (f3_readNumber u19) (fun (r24 : Int32) (u23 : PS) => (sq (wr u23 1 i r24) (fun (u26 : PS) => (if (u26 1 i) = (-1 : Int32) then ((0 : Int32), u26) else f3_readOrder_L41 p1 y2 n (i + 1) u26))))))))))
def f3_readOrder (σ : PS) (p1 : Int32) : Int32 × PS := (sq (wr σ 2 2 p1) (fun (u29 : PS) => (sq (wr u29 2 1 (f3_signHere u29)) (fun (u31 : PS) => (sq (wr u31 2 2 ((u31 2 2) + (1 : Int32))) (fun (u33 : PS) => (if (f3_numbersDue u33 (u33 2 1)) = (-1 : Int32) then ((0 : Int32), u33) else f3_readOrder_L41 p1 (f3_numbersDue u33 (u33 2 1)) 3 0 u33)))))))
set_option maxHeartbeats 4000000 in
set_option maxRecDepth 100000 in
theorem c3_readOrder (l : Launch) (D : va_G) (cI cP : ClassId) (hs : Nat → Nat) (σ : PS) (p1 : Int32) : CI l yX3_readOrder wsX3_readOrder ({ frames := 3, cells := 0, slots := 0, locals := 63 } : Room) D (cty cI cP) (wText cI hs σ) (wText cI hs) [.ref (hs 0), .int p1] 0 0 (fun r u => f3_readOrder σ p1 = (r, u)) := by
  refine CI.of (cc := cX3_readOrder) (maxL := 4) (rt := .boolean) (own := RX3) (lv0 := [(0, .ref (hs 0)), (1, .int p1)]) pnX3 rfl rfl (Nat.le_of_ble_eq_true rfl) rfl (fun p e s m args below meth c A Q F hret => ?_)
  have w_3 := F.at (x := Cond.fieldLink RX3 15 "ThinVolumes$Text" "numbers" "[I") 3 rfl
  have w_1 := F.at (x := Cond.fieldLink RX3 22 "ThinVolumes$Text" "next" "I") 1 rfl
  have w_2 := F.at (x := Cond.fieldLink RX3 29 "ThinVolumes$Text" "kind" "I") 2 rfl
  have k_3 : ∀ w ∈ wsX30, w ∈ wsX3_readOrder := fun _ h => List.mem_cons_of_mem _ (List.mem_append_right _ (h))
  have L41 : ∀ (y2 : Int32) (n : Nat) (i : Nat) (u : PS), i + n = 3 → f3_readOrder_L41 p1 y2 n i u = f3_readOrder σ p1 → Wk p l e ({ frames := 3, cells := 0, slots := 0, locals := 63 } : Room) s m args below meth c 4 D A 0 0 Q (wText cI hs u) [(0, .ref (hs 0)), (2, .int y2), (3, .int (nI i))] 41 [] := by
    intro y2 n
    induction n with
    | zero =>
      intro i u hi hp
      refine wk_iload_n F dX3_readOrder_41 rfl 2 rfl (pc' := 42) rfl ?_
      refine wk_iload_n F dX3_readOrder_42 rfl 1 rfl (pc' := 43) rfl ?_
      refine wk_icmp_ge (tgt := 94) F dX3_readOrder_43 (by decide) (pc' := 46) rfl (fun c1 => ?_) (fun c1 => ?_)
      · refine wk_aload_n F dX3_readOrder_94 rfl 0 rfl (pc' := 95) rfl ?_
        refine wk_bipush F dX3_readOrder_95 bp_59 (pc' := 97) rfl ?_
        refine wk_same_i F (c3_passes l D cI cP hs u (59 : Int32)) (cwV 1 F.hts gX3_readOrder_X3_passes rfl rfl rfl hdX3_passes ⟨Nat.le_of_ble_eq_true rfl, Nat.le_of_ble_eq_true rfl⟩) 0 3 rfl rfl rfl rfl (Nat.le_of_ble_eq_true rfl) dX3_readOrder_97 ⟨Nat.zero_le _, Nat.zero_le _⟩ (pc' := 100) rfl (fun r3 u2 h4 => ?_)
        exact hret _ _ _ _ dX3_readOrder_100 (passes_z h4) (Eq.trans hp.symm (by rw [f3_readOrder_L41] <;> exact (st_pos c1 (st_match h4 rfl))))
      · refine wk_iload_n F dX3_readOrder_46 rfl 2 rfl (pc' := 47) rfl ?_
        refine wk_iconst F dX3_readOrder_47 ic_3 (pc' := 48) rfl ?_
        refine wk_icmp_ge (tgt := 94) F dX3_readOrder_48 (by decide) (pc' := 51) rfl (fun _ => ?_) (fun c => absurd ((nI_leI (a := 3) (b := i) (by omega) (by omega)).mpr (by omega)) c)
        refine wk_aload_n F dX3_readOrder_94 rfl 0 rfl (pc' := 95) rfl ?_
        refine wk_bipush F dX3_readOrder_95 bp_59 (pc' := 97) rfl ?_
        refine wk_same_i F (c3_passes l D cI cP hs u (59 : Int32)) (cwV 1 F.hts gX3_readOrder_X3_passes rfl rfl rfl hdX3_passes ⟨Nat.le_of_ble_eq_true rfl, Nat.le_of_ble_eq_true rfl⟩) 0 3 rfl rfl rfl rfl (Nat.le_of_ble_eq_true rfl) dX3_readOrder_97 ⟨Nat.zero_le _, Nat.zero_le _⟩ (pc' := 100) rfl (fun r6 u5 h7 => ?_)
        exact hret _ _ _ _ dX3_readOrder_100 (passes_z h7) (Eq.trans hp.symm (by rw [f3_readOrder_L41] <;> exact (st_neg c1 (st_match h7 rfl))))
    | succ n ih =>
      intro i u hi hp
      refine wk_iload_n F dX3_readOrder_41 rfl 2 rfl (pc' := 42) rfl ?_
      refine wk_iload_n F dX3_readOrder_42 rfl 1 rfl (pc' := 43) rfl ?_
      refine wk_icmp_ge (tgt := 94) F dX3_readOrder_43 (by decide) (pc' := 46) rfl (fun c8 => ?_) (fun c8 => ?_)
      · refine wk_aload_n F dX3_readOrder_94 rfl 0 rfl (pc' := 95) rfl ?_
        refine wk_bipush F dX3_readOrder_95 bp_59 (pc' := 97) rfl ?_
        refine wk_same_i F (c3_passes l D cI cP hs u (59 : Int32)) (cwV 1 F.hts gX3_readOrder_X3_passes rfl rfl rfl hdX3_passes ⟨Nat.le_of_ble_eq_true rfl, Nat.le_of_ble_eq_true rfl⟩) 0 3 rfl rfl rfl rfl (Nat.le_of_ble_eq_true rfl) dX3_readOrder_97 ⟨Nat.zero_le _, Nat.zero_le _⟩ (pc' := 100) rfl (fun r10 u9 h11 => ?_)
        exact hret _ _ _ _ dX3_readOrder_100 (passes_z h11) (Eq.trans hp.symm (by rw [f3_readOrder_L41] <;> exact (st_pos c8 (st_match h11 rfl))))
      · refine wk_iload_n F dX3_readOrder_46 rfl 2 rfl (pc' := 47) rfl ?_
        refine wk_iconst F dX3_readOrder_47 ic_3 (pc' := 48) rfl ?_
        refine wk_icmp_ge (tgt := 94) F dX3_readOrder_48 (by decide) (pc' := 51) rfl (fun c => absurd ((nI_leI (a := 3) (b := i) (by omega) (by omega)).mp c) (by omega)) (fun _ => ?_)
        refine wk_iload_n F dX3_readOrder_51 rfl 2 rfl (pc' := 52) rfl ?_
        refine wk_if_le (tgt := 66) F dX3_readOrder_52 (by decide) (pc' := 55) rfl (fun c12 => ?_) (fun c12 => ?_)
        · refine wk_aload_n F dX3_readOrder_66 rfl 0 rfl (pc' := 67) rfl ?_
          refine wk_get (C := RX3) (T := TX3) (N := 5) F 0 rfl rfl k_3 3 (Nat.le_of_ble_eq_true rfl) w_3 rfl dX3_readOrder_67 (pc' := 70) rfl ?_
          refine wk_iload_n F dX3_readOrder_70 rfl 2 rfl (pc' := 71) rfl ?_
          refine wk_aload_n F dX3_readOrder_71 rfl 0 rfl (pc' := 72) rfl ?_
          refine wk_same_i F (c3_readNumber l D cI cP hs u) (cwV 0 F.hts gX3_readOrder_X3_readNumber rfl rfl rfl hdX3_readNumber ⟨Nat.le_of_ble_eq_true rfl, Nat.le_of_ble_eq_true rfl⟩) 0 3 rfl rfl rfl rfl (Nat.le_of_ble_eq_true rfl) dX3_readOrder_72 ⟨Nat.zero_le _, Nat.zero_le _⟩ (pc' := 75) rfl (fun r14 u13 h15 => ?_)
          refine wk_iastu_n (wg := wText cI hs) (f0 := wr u13 1 i r14) (i := i) F 2 0 rfl rfl aT_1 (by omega) (Nat.le_of_ble_eq_true rfl) dX3_readOrder_75 (pc' := 76) rfl (fun u16 h17 => ?_)
          refine wk_aload_n F dX3_readOrder_76 rfl 0 rfl (pc' := 77) rfl ?_
          refine wk_get (C := RX3) (T := TX3) (N := 5) F 0 rfl rfl k_3 3 (Nat.le_of_ble_eq_true rfl) w_3 rfl dX3_readOrder_77 (pc' := 80) rfl ?_
          refine wk_iload_n F dX3_readOrder_80 rfl 2 rfl (pc' := 81) rfl ?_
          refine wk_iald_n (i := i) F 2 0 rfl rfl (by omega) (Nat.le_of_ble_eq_true rfl) dX3_readOrder_81 (pc' := 82) rfl ?_
          refine wk_iconst F dX3_readOrder_82 ic_m1 (pc' := 83) rfl ?_
          refine wk_icmp_ne (tgt := 88) F dX3_readOrder_83 (by decide) (pc' := 86) rfl (fun c18 => ?_) (fun c18 => ?_)
          · refine wk_iinc (k := 2) (v := nI (i + 1)) (lv' := [(3, .int (nI (i + 1))), (0, .ref (hs 0)), (2, .int y2)]) F dX3_readOrder_88 rfl (nI_inc i) (Nat.le_of_ble_eq_true rfl) rfl (pc' := 91) rfl ?_
            refine wk_goto (tgt := 41) F dX3_readOrder_91 (by decide) ?_
            refine wk_lv [1, 2, 0] rfl ?_
            exact ih (i + 1) u16 (by omega) (Eq.trans (Eq.symm (by rw [f3_readOrder_L41] <;> exact (st_neg c8 (st_pos c12 (st_match h15 (st_let h17 (st_neg c18 rfl))))))) hp)
          · refine wk_iconst F dX3_readOrder_86 ic_0 (pc' := 87) rfl ?_
            exact hret _ _ _ _ dX3_readOrder_87 rfl (Eq.trans hp.symm (by rw [f3_readOrder_L41] <;> exact (st_neg c8 (st_pos c12 (st_match h15 (st_let h17 (st_pos c18 rfl)))))))
        · refine wk_aload_n F dX3_readOrder_55 rfl 0 rfl (pc' := 56) rfl ?_
          refine wk_bipush F dX3_readOrder_56 bp_44 (pc' := 58) rfl ?_
          refine wk_same_i F (c3_passes l D cI cP hs u (44 : Int32)) (cwV 1 F.hts gX3_readOrder_X3_passes rfl rfl rfl hdX3_passes ⟨Nat.le_of_ble_eq_true rfl, Nat.le_of_ble_eq_true rfl⟩) 0 3 rfl rfl rfl rfl (Nat.le_of_ble_eq_true rfl) dX3_readOrder_58 ⟨Nat.zero_le _, Nat.zero_le _⟩ (pc' := 61) rfl (fun r20 u19 h21 => ?_)
          refine wk_if_ne (tgt := 66) F dX3_readOrder_61 (by decide) (pc' := 64) rfl (fun c22 => ?_) (fun c22 => ?_)
          · refine wk_aload_n F dX3_readOrder_66 rfl 0 rfl (pc' := 67) rfl ?_
            refine wk_get (C := RX3) (T := TX3) (N := 5) F 0 rfl rfl k_3 3 (Nat.le_of_ble_eq_true rfl) w_3 rfl dX3_readOrder_67 (pc' := 70) rfl ?_
            refine wk_iload_n F dX3_readOrder_70 rfl 2 rfl (pc' := 71) rfl ?_
            refine wk_aload_n F dX3_readOrder_71 rfl 0 rfl (pc' := 72) rfl ?_
            refine wk_same_i F (c3_readNumber l D cI cP hs u19) (cwV 0 F.hts gX3_readOrder_X3_readNumber rfl rfl rfl hdX3_readNumber ⟨Nat.le_of_ble_eq_true rfl, Nat.le_of_ble_eq_true rfl⟩) 0 3 rfl rfl rfl rfl (Nat.le_of_ble_eq_true rfl) dX3_readOrder_72 ⟨Nat.zero_le _, Nat.zero_le _⟩ (pc' := 75) rfl (fun r24 u23 h25 => ?_)
            refine wk_iastu_n (wg := wText cI hs) (f0 := wr u23 1 i r24) (i := i) F 2 0 rfl rfl aT_1 (by omega) (Nat.le_of_ble_eq_true rfl) dX3_readOrder_75 (pc' := 76) rfl (fun u26 h27 => ?_)
            refine wk_aload_n F dX3_readOrder_76 rfl 0 rfl (pc' := 77) rfl ?_
            refine wk_get (C := RX3) (T := TX3) (N := 5) F 0 rfl rfl k_3 3 (Nat.le_of_ble_eq_true rfl) w_3 rfl dX3_readOrder_77 (pc' := 80) rfl ?_
            refine wk_iload_n F dX3_readOrder_80 rfl 2 rfl (pc' := 81) rfl ?_
            refine wk_iald_n (i := i) F 2 0 rfl rfl (by omega) (Nat.le_of_ble_eq_true rfl) dX3_readOrder_81 (pc' := 82) rfl ?_
            refine wk_iconst F dX3_readOrder_82 ic_m1 (pc' := 83) rfl ?_
            refine wk_icmp_ne (tgt := 88) F dX3_readOrder_83 (by decide) (pc' := 86) rfl (fun c28 => ?_) (fun c28 => ?_)
            · refine wk_iinc (k := 2) (v := nI (i + 1)) (lv' := [(3, .int (nI (i + 1))), (0, .ref (hs 0)), (2, .int y2)]) F dX3_readOrder_88 rfl (nI_inc i) (Nat.le_of_ble_eq_true rfl) rfl (pc' := 91) rfl ?_
              refine wk_goto (tgt := 41) F dX3_readOrder_91 (by decide) ?_
              refine wk_lv [1, 2, 0] rfl ?_
              exact ih (i + 1) u26 (by omega) (Eq.trans (Eq.symm (by rw [f3_readOrder_L41] <;> exact (st_neg c8 (st_neg c12 (st_match h21 (st_neg c22 (st_match h25 (st_let h27 (st_neg c28 rfl))))))))) hp)
            · refine wk_iconst F dX3_readOrder_86 ic_0 (pc' := 87) rfl ?_
              exact hret _ _ _ _ dX3_readOrder_87 rfl (Eq.trans hp.symm (by rw [f3_readOrder_L41] <;> exact (st_neg c8 (st_neg c12 (st_match h21 (st_neg c22 (st_match h25 (st_let h27 (st_pos c28 rfl)))))))))
          · refine wk_iconst F dX3_readOrder_64 ic_0 (pc' := 65) rfl ?_
            exact hret _ _ _ _ dX3_readOrder_65 rfl (Eq.trans hp.symm (by rw [f3_readOrder_L41] <;> exact (st_neg c8 (st_neg c12 (st_match h21 (st_pos c22 rfl))))))
  refine wk_aload_n F dX3_readOrder_0 rfl 0 rfl (pc' := 1) rfl ?_
  refine wk_iload_n F dX3_readOrder_1 rfl 1 rfl (pc' := 2) rfl ?_
  refine wk_putu (wg := wText cI hs) (f0 := wr σ 2 2 p1) (C := RX3) (T := TX3) (N := 5) (ty0 := tyX3) F 0 rfl rfl k_3 tyX3_ok nmX3 4 (Nat.le_of_ble_eq_true rfl) w_1 rfl rfl rfl (Nat.le_of_ble_eq_true rfl) sT_2 dX3_readOrder_2 (pc' := 5) rfl (fun u29 h30 => ?_)
  refine wk_aload_n F dX3_readOrder_5 rfl 0 rfl (pc' := 6) rfl ?_
  refine wk_aload_n F dX3_readOrder_6 rfl 0 rfl (pc' := 7) rfl ?_
  refine wk_same_p F (c3_signHere l D cI cP hs u29) (cwV 0 F.hts gX3_readOrder_X3_signHere rfl rfl rfl hdX3_signHere ⟨Nat.le_of_ble_eq_true rfl, Nat.le_of_ble_eq_true rfl⟩) 0 3 rfl rfl rfl rfl (Nat.le_of_ble_eq_true rfl) dX3_readOrder_7 ⟨Nat.zero_le _, Nat.zero_le _⟩ (pc' := 10) rfl ?_
  refine wk_putu (wg := wText cI hs) (f0 := wr u29 2 1 (f3_signHere u29)) (C := RX3) (T := TX3) (N := 5) (ty0 := tyX3) F 0 rfl rfl k_3 tyX3_ok nmX3 2 (Nat.le_of_ble_eq_true rfl) w_2 rfl rfl rfl (Nat.le_of_ble_eq_true rfl) sT_1 dX3_readOrder_10 (pc' := 13) rfl (fun u31 h32 => ?_)
  refine wk_aload_n F dX3_readOrder_13 rfl 0 rfl (pc' := 14) rfl ?_
  refine wk_dup F dX3_readOrder_14 rfl (pc' := 15) rfl ?_
  refine wk_get (C := RX3) (T := TX3) (N := 5) F 0 rfl rfl k_3 4 (Nat.le_of_ble_eq_true rfl) w_1 rfl dX3_readOrder_15 (pc' := 18) rfl ?_
  refine wk_iconst F dX3_readOrder_18 ic_1 (pc' := 19) rfl ?_
  refine wk_iadd F dX3_readOrder_19 (pc' := 20) rfl ?_
  refine wk_putu (wg := wText cI hs) (f0 := wr u31 2 2 ((u31 2 2) + (1 : Int32))) (C := RX3) (T := TX3) (N := 5) (ty0 := tyX3) F 0 rfl rfl k_3 tyX3_ok nmX3 4 (Nat.le_of_ble_eq_true rfl) w_1 rfl rfl rfl (Nat.le_of_ble_eq_true rfl) sT_2 dX3_readOrder_20 (pc' := 23) rfl (fun u33 h34 => ?_)
  refine wk_aload_n F dX3_readOrder_23 rfl 0 rfl (pc' := 24) rfl ?_
  refine wk_aload_n F dX3_readOrder_24 rfl 0 rfl (pc' := 25) rfl ?_
  refine wk_get (C := RX3) (T := TX3) (N := 5) F 0 rfl rfl k_3 2 (Nat.le_of_ble_eq_true rfl) w_2 rfl dX3_readOrder_25 (pc' := 28) rfl ?_
  refine wk_same_p F (c3_numbersDue l D cI cP hs u33 (u33 2 1)) (cwV 1 F.hts gX3_readOrder_X3_numbersDue rfl rfl rfl hdX3_numbersDue ⟨Nat.le_of_ble_eq_true rfl, Nat.le_of_ble_eq_true rfl⟩) 0 3 rfl rfl rfl rfl (Nat.le_of_ble_eq_true rfl) dX3_readOrder_28 ⟨Nat.zero_le _, Nat.zero_le _⟩ (pc' := 31) rfl ?_
  refine wk_istore_n (lv' := [(2, .int (f3_numbersDue u33 (u33 2 1))), (0, .ref (hs 0)), (1, .int p1)]) F dX3_readOrder_31 rfl (Nat.le_of_ble_eq_true rfl) rfl (pc' := 32) rfl ?_
  refine wk_iload_n F dX3_readOrder_32 rfl 0 rfl (pc' := 33) rfl ?_
  refine wk_iconst F dX3_readOrder_33 ic_m1 (pc' := 34) rfl ?_
  refine wk_icmp_ne (tgt := 39) F dX3_readOrder_34 (by decide) (pc' := 37) rfl (fun c35 => ?_) (fun c35 => ?_)
  · refine wk_iconst F dX3_readOrder_39 ic_0 (pc' := 40) rfl ?_
    refine wk_istore_n (lv' := [(3, .int (0 : Int32)), (2, .int (f3_numbersDue u33 (u33 2 1))), (0, .ref (hs 0)), (1, .int p1)]) F dX3_readOrder_40 rfl (Nat.le_of_ble_eq_true rfl) rfl (pc' := 41) rfl ?_
    refine wk_lv [2, 1, 0] rfl ?_
    exact L41 (f3_numbersDue u33 (u33 2 1)) 3 0 u33 (by omega) (Eq.symm (by rw [f3_readOrder] <;> exact (st_let h30 (st_let h32 (st_let h34 (st_neg c35 rfl))))))
  · refine wk_iconst F dX3_readOrder_37 ic_0 (pc' := 38) rfl ?_
    exact hret _ _ _ _ dX3_readOrder_38 rfl (by rw [f3_readOrder] <;> exact (st_let h30 (st_let h32 (st_let h34 (st_pos c35 rfl)))))
