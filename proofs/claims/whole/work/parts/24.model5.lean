theorem num_stop {a b : Int32} {n : Nat} (h : a = b + nI (2 - n)) (h0 : n = 0) : (2 : Int32) ≤ a - b := by
  subst h0
  rw [h, show b + nI (2 - 0) - b = 2 from by
    rw [Int32.add_comm, Int32.add_sub_cancel]; rfl]
  exact Int32.le_refl 2
theorem num_step {a b c : Int32} {n : Nat} (h : a = b + nI (2 - (n + 1))) (hn : n + 1 ≤ 2) (e : c = a + 1) : c = b + nI (2 - n) := by
  rw [e, h, Int32.add_assoc, nI_1, show 2 - (n + 1) + 1 = 2 - n by omega]
def f6_number_L12 (p1 : Int32) (y3 : Int32) : Nat → PS → PS
  | 0, u => (if (f6_isAt u (48 : Int32) (57 : Int32)) = 0 then u else u)
  | n + 1, u => (if (f6_isAt u (48 : Int32) (57 : Int32)) = 0 then u else (if (2 : Int32) ≤ ((u 6 3) - y3) then u else (sq (wr u 5 p1.toNatClampNeg ((((10 : Int32) * (u 5 p1.toNatClampNeg)) + (u 4 (u 6 3).toNatClampNeg)) - (48 : Int32))) (fun (u4 : PS) => (sq (wr u4 6 3 ((u4 6 3) + (1 : Int32))) (fun (u6 : PS) => f6_number_L12 p1 y3 n u6))))))
def f6_number (σ : PS) (p1 : Int32) (p2 : Int32) : Int32 × PS := (sq (wr σ 5 p1.toNatClampNeg (0 : Int32)) (fun (u8 : PS) => (sq (f6_number_L12 p1 (σ 6 3) 2 u8) (fun (u11 : PS) => (if (u11 6 3) ≤ (σ 6 3) then (sq (wr u11 6 3 ((u11 6 3) + (1 : Int32))) (fun (u13 : PS) => ((0 : Int32), u13))) else (if (f6_isAt u11 p2 p2) = 0 then (sq (wr u11 6 3 ((u11 6 3) + (1 : Int32))) (fun (u16 : PS) => ((0 : Int32), u16))) else (sq (wr u11 6 3 ((u11 6 3) + (1 : Int32))) (fun (u18 : PS) => ((1 : Int32), u18)))))))))
theorem num_0 (x : Int32) : x + nI (2 - 2) = x := Int32.add_zero x
theorem number_L12_j {k : Int32} : ∀ (n : Nat) (y : Int32) (u : PS) (j : Nat), j ≠ 5 → j ≠ 6 → f6_number_L12 k y n u j = u j := by
  intro n
  induction n with
  | zero => intro y u j _ _; unfold f6_number_L12; split <;> rfl
  | succ n ih =>
    intro y u j h5 h6
    unfold f6_number_L12 sq
    split
    · rfl
    · split
      · rfl
      · dsimp only
        rw [ih _ _ _ h5 h6, wr_ne h6, wr_ne h5]
theorem number_L12_T {k : Int32} : ∀ (n : Nat) (y : Int32) (u : PS) (q : Nat), q ≠ 3 → f6_number_L12 k y n u 6 q = u 6 q := by
  intro n
  induction n with
  | zero => intro y u q _; unfold f6_number_L12; split <;> rfl
  | succ n ih =>
    intro y u q hq
    unfold f6_number_L12 sq
    split
    · rfl
    · split
      · rfl
      · dsimp only
        rw [ih _ _ _ hq, wr_at, if_neg hq, wr_ne (by decide)]
theorem okS_inc5 {u : PS} {k : Nat} {x : Int32} (hT : okT u) (hS : okS u) (c : ¬ u 6 2 ≤ u 6 3) : okS (wr (wr u 5 k x) 6 3 ((wr u 5 k x) 6 3 + 1)) := okS_inc (okT_wrj (by decide) rfl hT) (okS_wrj (by decide) rfl hS) (by rw [wr_ne (by decide)]; exact c) rfl
theorem number_L12_S {k : Int32} : ∀ (n : Nat) (y : Int32) (u : PS), okT u → okS u → okS (f6_number_L12 k y n u) := by
  intro n
  induction n with
  | zero => intro y u _ h; unfold f6_number_L12; split <;> exact h
  | succ n ih =>
    intro y u hT hS
    unfold f6_number_L12 sq
    split
    · exact hS
    · split
      · exact hS
      · exact ih _ _ (okT_wr6 (by decide) rfl (okT_wrj (by decide) rfl hT)) (okS_inc5 hT hS (isAt_c (u := u) (by assumption)))
theorem okT_numL {u u2 : PS} {k y : Int32} {n : Nat} (h : f6_number_L12 k y n u = u2) (ho : okT u) : okT u2 := by
  subst h; unfold okT; rw [number_L12_T _ _ _ _ (by decide)]; exact ho
theorem okS_numL {u u2 : PS} {k y : Int32} {n : Nat} (h : f6_number_L12 k y n u = u2) (hT : okT u) (ho : okS u) : okS u2 := by
  subst h; exact number_L12_S _ _ _ hT ho
set_option maxHeartbeats 4000000 in
set_option maxRecDepth 100000 in
theorem c6_number (l : Launch) (D : va_G) (cI cP : ClassId) (hs : Nat → Nat) (σ : PS) (p1 : Int32) (p2 : Int32) (hp_p1 : vp_in p1 3) (hs_okT : okT σ) (hs_okS : okS σ) : CI l yX6_number wsX6_number ({ frames := 2, cells := 0, slots := 0, locals := 44 } : Room) D (cty cI cP) (wMod cI hs σ) (wMod cI hs) [.ref (hs 0), .int p1, .int p2] 0 0 (fun r u => f6_number σ p1 p2 = (r, u)) := by
  refine CI.of (cc := cX6_number) (maxL := 5) (rt := .boolean) (own := RX6) (lv0 := [(0, .ref (hs 0)), (1, .int p1), (2, .int p2)]) pnX6 rfl rfl (Nat.le_of_ble_eq_true rfl) rfl (fun p e s m args below meth c A Q F hret => ?_)
  have w_1 := F.at (x := Cond.fieldLink RX6 153 "ThinVolumesModel" "spot" "I") 1 rfl
  have w_2 := F.at (x := Cond.fieldLink RX6 25 "ThinVolumesModel" "told" "[I") 2 rfl
  have w_3 := F.at (x := Cond.fieldLink RX6 22 "ThinVolumesModel" "text" "[I") 3 rfl
  have k_6 : ∀ w ∈ wsX60, w ∈ wsX6_number := fun _ h => List.mem_cons_of_mem _ (List.mem_append_right _ (h))
  have L12 : ∀ (y3 : Int32) (n : Nat) (u : PS), n ≤ 2 → okT u → okS u → u 6 3 = y3 + nI (2 - n) → (∀ (uu : PS), f6_number_L12 p1 y3 n u = uu → Wk p l e ({ frames := 2, cells := 0, slots := 0, locals := 44 } : Room) s m args below meth c 5 D A 0 0 Q (wMod cI hs uu) [(0, .ref (hs 0)), (2, .int p2), (3, .int y3)] 74 []) → Wk p l e ({ frames := 2, cells := 0, slots := 0, locals := 44 } : Room) s m args below meth c 5 D A 0 0 Q (wMod cI hs u) [(0, .ref (hs 0)), (1, .int p1), (2, .int p2), (3, .int y3)] 12 [] := by
    intro y3 n
    induction n with
    | zero =>
      intro u hv0 hv1 hv2 hv3 kx
      refine wk_aload_n F dX6_number_12 rfl 0 rfl (pc' := 13) rfl ?_
      refine wk_bipush F dX6_number_13 bp_48 (pc' := 15) rfl ?_
      refine wk_bipush F dX6_number_15 bp_57 (pc' := 17) rfl ?_
      refine wk_same_p F (c6_isAt l D cI cP hs u (48 : Int32) (57 : Int32) hv1 hv2) (cwV 2 F.hts gX6_number_X6_isAt rfl rfl rfl hdX6_isAt ⟨Nat.le_of_ble_eq_true rfl, Nat.le_of_ble_eq_true rfl⟩) 0 6 rfl rfl rfl rfl (Nat.le_of_ble_eq_true rfl) dX6_number_17 ⟨Nat.zero_le _, Nat.zero_le _⟩ (pc' := 20) rfl ?_
      refine wk_if_eq (tgt := 74) F dX6_number_20 (by decide) (pc' := 23) rfl (fun c1 => ?_) (fun c1 => ?_)
      · refine wk_lv [0, 2, 3] rfl ?_
        exact kx u (by rw [f6_number_L12] <;> exact (st_pos c1 rfl))
      · refine wk_aload_n F dX6_number_23 rfl 0 rfl (pc' := 24) rfl ?_
        refine wk_get (C := RX6) (T := TX6) (N := 12) F 0 rfl rfl k_6 8 (Nat.le_of_ble_eq_true rfl) w_1 rfl dX6_number_24 (pc' := 27) rfl ?_
        refine wk_iload_n F dX6_number_27 rfl 3 rfl (pc' := 28) rfl ?_
        refine wk_isub F dX6_number_28 (pc' := 29) rfl ?_
        refine wk_iconst F dX6_number_29 ic_2 (pc' := 30) rfl ?_
        refine wk_icmp_ge (tgt := 74) F dX6_number_30 (by decide) (pc' := 33) rfl (fun _ => ?_) (fun c => absurd (num_stop hv3 rfl) c)
        refine wk_lv [0, 2, 3] rfl ?_
        exact kx u (by rw [f6_number_L12] <;> exact (st_neg c1 rfl))
    | succ n ih =>
      intro u hv0 hv1 hv2 hv3 kx
      refine wk_aload_n F dX6_number_12 rfl 0 rfl (pc' := 13) rfl ?_
      refine wk_bipush F dX6_number_13 bp_48 (pc' := 15) rfl ?_
      refine wk_bipush F dX6_number_15 bp_57 (pc' := 17) rfl ?_
      refine wk_same_p F (c6_isAt l D cI cP hs u (48 : Int32) (57 : Int32) hv1 hv2) (cwV 2 F.hts gX6_number_X6_isAt rfl rfl rfl hdX6_isAt ⟨Nat.le_of_ble_eq_true rfl, Nat.le_of_ble_eq_true rfl⟩) 0 6 rfl rfl rfl rfl (Nat.le_of_ble_eq_true rfl) dX6_number_17 ⟨Nat.zero_le _, Nat.zero_le _⟩ (pc' := 20) rfl ?_
      refine wk_if_eq (tgt := 74) F dX6_number_20 (by decide) (pc' := 23) rfl (fun c2 => ?_) (fun c2 => ?_)
      · refine wk_lv [0, 2, 3] rfl ?_
        exact kx u (by rw [f6_number_L12] <;> exact (st_pos c2 rfl))
      · refine wk_aload_n F dX6_number_23 rfl 0 rfl (pc' := 24) rfl ?_
        refine wk_get (C := RX6) (T := TX6) (N := 12) F 0 rfl rfl k_6 8 (Nat.le_of_ble_eq_true rfl) w_1 rfl dX6_number_24 (pc' := 27) rfl ?_
        refine wk_iload_n F dX6_number_27 rfl 3 rfl (pc' := 28) rfl ?_
        refine wk_isub F dX6_number_28 (pc' := 29) rfl ?_
        refine wk_iconst F dX6_number_29 ic_2 (pc' := 30) rfl ?_
        refine wk_icmp_ge (tgt := 74) F dX6_number_30 (by decide) (pc' := 33) rfl (fun c3 => ?_) (fun c3 => ?_)
        · refine wk_lv [0, 2, 3] rfl ?_
          exact kx u (by rw [f6_number_L12] <;> exact (st_neg c2 (st_pos c3 rfl)))
        · refine wk_aload_n F dX6_number_33 rfl 0 rfl (pc' := 34) rfl ?_
          refine wk_get (C := RX6) (T := TX6) (N := 12) F 0 rfl rfl k_6 11 (Nat.le_of_ble_eq_true rfl) w_2 rfl dX6_number_34 (pc' := 37) rfl ?_
          refine wk_iload_n F dX6_number_37 rfl 1 rfl (pc' := 38) rfl ?_
          refine wk_bipush F dX6_number_38 bp_10 (pc' := 40) rfl ?_
          refine wk_aload_n F dX6_number_40 rfl 0 rfl (pc' := 41) rfl ?_
          refine wk_get (C := RX6) (T := TX6) (N := 12) F 0 rfl rfl k_6 11 (Nat.le_of_ble_eq_true rfl) w_2 rfl dX6_number_41 (pc' := 44) rfl ?_
          refine wk_iload_n F dX6_number_44 rfl 1 rfl (pc' := 45) rfl ?_
          refine wk_iald F 6 0 rfl rfl hp_p1 dX6_number_45 (pc' := 46) rfl ?_
          refine wk_imul F dX6_number_46 (pc' := 47) rfl ?_
          refine wk_aload_n F dX6_number_47 rfl 0 rfl (pc' := 48) rfl ?_
          refine wk_get (C := RX6) (T := TX6) (N := 12) F 0 rfl rfl k_6 6 (Nat.le_of_ble_eq_true rfl) w_3 rfl dX6_number_48 (pc' := 51) rfl ?_
          refine wk_aload_n F dX6_number_51 rfl 0 rfl (pc' := 52) rfl ?_
          refine wk_get (C := RX6) (T := TX6) (N := 12) F 0 rfl rfl k_6 8 (Nat.le_of_ble_eq_true rfl) w_1 rfl dX6_number_52 (pc' := 55) rfl ?_
          refine wk_iald F 5 0 rfl rfl (ix_spt hv1 hv2 (isAt_c c2)) dX6_number_55 (pc' := 56) rfl ?_
          refine wk_iadd F dX6_number_56 (pc' := 57) rfl ?_
          refine wk_bipush F dX6_number_57 bp_48 (pc' := 59) rfl ?_
          refine wk_isub F dX6_number_59 (pc' := 60) rfl ?_
          refine wk_iastu (wg := wMod cI hs) (f0 := wr u 5 p1.toNatClampNeg ((((10 : Int32) * (u 5 p1.toNatClampNeg)) + (u 4 (u 6 3).toNatClampNeg)) - (48 : Int32))) F 6 0 rfl rfl aM_5 hp_p1 dX6_number_60 (pc' := 61) rfl (fun u4 h5 => ?_)
          refine wk_aload_n F dX6_number_61 rfl 0 rfl (pc' := 62) rfl ?_
          refine wk_dup F dX6_number_62 rfl (pc' := 63) rfl ?_
          refine wk_get (C := RX6) (T := TX6) (N := 12) F 0 rfl rfl k_6 8 (Nat.le_of_ble_eq_true rfl) w_1 rfl dX6_number_63 (pc' := 66) rfl ?_
          refine wk_iconst F dX6_number_66 ic_1 (pc' := 67) rfl ?_
          refine wk_iadd F dX6_number_67 (pc' := 68) rfl ?_
          refine wk_putu (wg := wMod cI hs) (f0 := wr u4 6 3 ((u4 6 3) + (1 : Int32))) (C := RX6) (T := TX6) (N := 12) (ty0 := tyX6) F 0 rfl rfl k_6 tyX6_ok nmX6 8 (Nat.le_of_ble_eq_true rfl) w_1 rfl rfl rfl (Nat.le_of_ble_eq_true rfl) sM_3 dX6_number_68 (pc' := 71) rfl (fun u6 h7 => ?_)
          refine wk_goto (tgt := 12) F dX6_number_71 (by decide) ?_
          exact ih u6 (by omega) (okT_wr6 (by decide) h7 (okT_wrj (by decide) h5 hv1)) (okS_inc (okT_wrj (by decide) h5 hv1) (okS_wrj (by decide) h5 hv2) (by subst h5; exact isAt_c c2) h7) (num_step hv3 hv0 (by subst h7; subst h5; rfl)) (fun u_ h_ => kx u_ (Eq.trans (by rw [f6_number_L12] <;> exact (st_neg c2 (st_neg c3 (st_let h5 (st_let h7 rfl))))) h_))
  refine wk_aload_n F dX6_number_0 rfl 0 rfl (pc' := 1) rfl ?_
  refine wk_get (C := RX6) (T := TX6) (N := 12) F 0 rfl rfl k_6 8 (Nat.le_of_ble_eq_true rfl) w_1 rfl dX6_number_1 (pc' := 4) rfl ?_
  refine wk_istore_n (lv' := [(3, .int (σ 6 3)), (0, .ref (hs 0)), (1, .int p1), (2, .int p2)]) F dX6_number_4 rfl (Nat.le_of_ble_eq_true rfl) rfl (pc' := 5) rfl ?_
  refine wk_aload_n F dX6_number_5 rfl 1 rfl (pc' := 6) rfl ?_
  refine wk_get (C := RX6) (T := TX6) (N := 12) F 0 rfl rfl k_6 11 (Nat.le_of_ble_eq_true rfl) w_2 rfl dX6_number_6 (pc' := 9) rfl ?_
  refine wk_iload_n F dX6_number_9 rfl 2 rfl (pc' := 10) rfl ?_
  refine wk_iconst F dX6_number_10 ic_0 (pc' := 11) rfl ?_
  refine wk_iastu (wg := wMod cI hs) (f0 := wr σ 5 p1.toNatClampNeg (0 : Int32)) F 6 0 rfl rfl aM_5 hp_p1 dX6_number_11 (pc' := 12) rfl (fun u8 h9 => ?_)
  refine wk_lv [1, 2, 3, 0] rfl ?_
  refine L12 (σ 6 3) 2 u8 (by omega) (okT_wrj (by decide) h9 hs_okT) (okS_wrj (by decide) h9 hs_okS) (by subst h9; exact (num_0 _).symm) (fun u11 h10 => ?_)
  refine wk_aload_n F dX6_number_74 rfl 0 rfl (pc' := 75) rfl ?_
  refine wk_get (C := RX6) (T := TX6) (N := 12) F 0 rfl rfl k_6 8 (Nat.le_of_ble_eq_true rfl) w_1 rfl dX6_number_75 (pc' := 78) rfl ?_
  refine wk_iload_n F dX6_number_78 rfl 2 rfl (pc' := 79) rfl ?_
  refine wk_icmp_le (tgt := 95) F dX6_number_79 (by decide) (pc' := 82) rfl (fun c12 => ?_) (fun c12 => ?_)
  · refine wk_iconst F dX6_number_95 ic_0 (pc' := 96) rfl ?_
    refine wk_istore (lv' := [(4, .int (0 : Int32)), (0, .ref (hs 0)), (2, .int p2), (3, .int (σ 6 3))]) F dX6_number_96 (Nat.le_of_ble_eq_true rfl) rfl (pc' := 98) rfl ?_
    refine wk_aload_n F dX6_number_98 rfl 1 rfl (pc' := 99) rfl ?_
    refine wk_dup F dX6_number_99 rfl (pc' := 100) rfl ?_
    refine wk_get (C := RX6) (T := TX6) (N := 12) F 0 rfl rfl k_6 8 (Nat.le_of_ble_eq_true rfl) w_1 rfl dX6_number_100 (pc' := 103) rfl ?_
    refine wk_iconst F dX6_number_103 ic_1 (pc' := 104) rfl ?_
    refine wk_iadd F dX6_number_104 (pc' := 105) rfl ?_
    refine wk_putu (wg := wMod cI hs) (f0 := wr u11 6 3 ((u11 6 3) + (1 : Int32))) (C := RX6) (T := TX6) (N := 12) (ty0 := tyX6) F 0 rfl rfl k_6 tyX6_ok nmX6 8 (Nat.le_of_ble_eq_true rfl) w_1 rfl rfl rfl (Nat.le_of_ble_eq_true rfl) sM_3 dX6_number_105 (pc' := 108) rfl (fun u13 h14 => ?_)
    refine wk_iload F dX6_number_108 0 rfl (pc' := 110) rfl ?_
    exact hret _ _ _ _ dX6_number_110 rfl (by rw [f6_number] <;> exact (st_let h9 (st_let h10 (st_pos c12 (st_let h14 rfl)))))
  · refine wk_aload_n F dX6_number_82 rfl 0 rfl (pc' := 83) rfl ?_
    refine wk_iload_n F dX6_number_83 rfl 1 rfl (pc' := 84) rfl ?_
    refine wk_iload_n F dX6_number_84 rfl 1 rfl (pc' := 85) rfl ?_
    refine wk_same_p F (c6_isAt l D cI cP hs u11 p2 p2 (okT_numL h10 (okT_wrj (by decide) h9 hs_okT)) (okS_numL h10 (okT_wrj (by decide) h9 hs_okT) (okS_wrj (by decide) h9 hs_okS))) (cwV 2 F.hts gX6_number_X6_isAt rfl rfl rfl hdX6_isAt ⟨Nat.le_of_ble_eq_true rfl, Nat.le_of_ble_eq_true rfl⟩) 0 6 rfl rfl rfl rfl (Nat.le_of_ble_eq_true rfl) dX6_number_85 ⟨Nat.zero_le _, Nat.zero_le _⟩ (pc' := 88) rfl ?_
    refine wk_if_eq (tgt := 95) F dX6_number_88 (by decide) (pc' := 91) rfl (fun c15 => ?_) (fun c15 => ?_)
    · refine wk_iconst F dX6_number_95 ic_0 (pc' := 96) rfl ?_
      refine wk_istore (lv' := [(4, .int (0 : Int32)), (0, .ref (hs 0)), (2, .int p2), (3, .int (σ 6 3))]) F dX6_number_96 (Nat.le_of_ble_eq_true rfl) rfl (pc' := 98) rfl ?_
      refine wk_aload_n F dX6_number_98 rfl 1 rfl (pc' := 99) rfl ?_
      refine wk_dup F dX6_number_99 rfl (pc' := 100) rfl ?_
      refine wk_get (C := RX6) (T := TX6) (N := 12) F 0 rfl rfl k_6 8 (Nat.le_of_ble_eq_true rfl) w_1 rfl dX6_number_100 (pc' := 103) rfl ?_
      refine wk_iconst F dX6_number_103 ic_1 (pc' := 104) rfl ?_
      refine wk_iadd F dX6_number_104 (pc' := 105) rfl ?_
      refine wk_putu (wg := wMod cI hs) (f0 := wr u11 6 3 ((u11 6 3) + (1 : Int32))) (C := RX6) (T := TX6) (N := 12) (ty0 := tyX6) F 0 rfl rfl k_6 tyX6_ok nmX6 8 (Nat.le_of_ble_eq_true rfl) w_1 rfl rfl rfl (Nat.le_of_ble_eq_true rfl) sM_3 dX6_number_105 (pc' := 108) rfl (fun u16 h17 => ?_)
      refine wk_iload F dX6_number_108 0 rfl (pc' := 110) rfl ?_
      exact hret _ _ _ _ dX6_number_110 rfl (by rw [f6_number] <;> exact (st_let h9 (st_let h10 (st_neg c12 (st_pos c15 (st_let h17 rfl))))))
    · refine wk_iconst F dX6_number_91 ic_1 (pc' := 92) rfl ?_
      refine wk_goto (tgt := 96) F dX6_number_92 (by decide) ?_
      refine wk_istore (lv' := [(4, .int (1 : Int32)), (0, .ref (hs 0)), (2, .int p2), (3, .int (σ 6 3))]) F dX6_number_96 (Nat.le_of_ble_eq_true rfl) rfl (pc' := 98) rfl ?_
      refine wk_aload_n F dX6_number_98 rfl 1 rfl (pc' := 99) rfl ?_
      refine wk_dup F dX6_number_99 rfl (pc' := 100) rfl ?_
      refine wk_get (C := RX6) (T := TX6) (N := 12) F 0 rfl rfl k_6 8 (Nat.le_of_ble_eq_true rfl) w_1 rfl dX6_number_100 (pc' := 103) rfl ?_
      refine wk_iconst F dX6_number_103 ic_1 (pc' := 104) rfl ?_
      refine wk_iadd F dX6_number_104 (pc' := 105) rfl ?_
      refine wk_putu (wg := wMod cI hs) (f0 := wr u11 6 3 ((u11 6 3) + (1 : Int32))) (C := RX6) (T := TX6) (N := 12) (ty0 := tyX6) F 0 rfl rfl k_6 tyX6_ok nmX6 8 (Nat.le_of_ble_eq_true rfl) w_1 rfl rfl rfl (Nat.le_of_ble_eq_true rfl) sM_3 dX6_number_105 (pc' := 108) rfl (fun u18 h19 => ?_)
      refine wk_iload F dX6_number_108 0 rfl (pc' := 110) rfl ?_
      exact hret _ _ _ _ dX6_number_110 rfl (by rw [f6_number] <;> exact (st_let h9 (st_let h10 (st_neg c12 (st_neg c15 (st_let h19 rfl))))))
theorem number_j {u u2 : PS} {k b r : Int32} (h : f6_number u k b = (r, u2)) {j : Nat} (h5 : j ≠ 5) (h6 : j ≠ 6) : u2 j = u j := by
  have e : (f6_number u k b).2 = u2 := by rw [h]
  subst e
  unfold f6_number
  dsimp only [sq]
  split
  · dsimp only; rw [wr_ne h6, number_L12_j _ _ _ _ h5 h6, wr_ne h5]
  · split <;> (dsimp only; rw [wr_ne h6, number_L12_j _ _ _ _ h5 h6, wr_ne h5])
theorem number_q {u u2 : PS} {k b r : Int32} (h : f6_number u k b = (r, u2)) {q : Nat} (hq : q ≠ 3) : u2 6 q = u 6 q := by
  have e : (f6_number u k b).2 = u2 := by rw [h]
  subst e
  unfold f6_number
  dsimp only [sq]
  split
  · dsimp only; rw [wr_at, if_neg hq, number_L12_T _ _ _ _ hq, wr_ne (by decide)]
  · split <;> (dsimp only; rw [wr_at, if_neg hq, number_L12_T _ _ _ _ hq, wr_ne (by decide)])
theorem number_S {u u2 : PS} {k b r : Int32} (hT : okT u) (hS : okS u) (h : f6_number u k b = (r, u2)) : r = 0 ∨ okS u2 := by
  have hT1 : okT (wr u 5 k.toNatClampNeg 0) := okT_wrj (by decide) rfl hT
  have hS1 : okS (wr u 5 k.toNatClampNeg 0) := okS_wrj (by decide) rfl hS
  unfold f6_number at h
  dsimp only [sq] at h
  split at h
  · exact Or.inl (congrArg Prod.fst h).symm
  · split at h
    · exact Or.inl (congrArg Prod.fst h).symm
    · refine Or.inr ?_
      have e := congrArg Prod.snd h
      exact okS_inc (okT_numL rfl hT1) (okS_numL rfl hT1 hS1) (isAt_c (by assumption)) e
theorem okT_number {u u2 : PS} {k b r : Int32} (h : f6_number u k b = (r, u2)) (ho : okT u) : okT u2 := by
  unfold okT; rw [number_q h (by decide)]; exact ho
theorem okH_number {u u2 : PS} {k b r : Int32} (h : f6_number u k b = (r, u2)) (ho : okH u) : okH u2 := by
  unfold okH; rw [number_q h (by decide)]; exact ho
theorem number_z {u u2 : PS} {k b r : Int32} (h : f6_number u k b = (r, u2)) : r = 0 ∨ r = 1 := by
  unfold f6_number at h
  dsimp only [sq] at h
  split at h
  · exact Or.inl (congrArg Prod.fst h).symm
  · split at h
    · exact Or.inl (congrArg Prod.fst h).symm
    · exact Or.inr (congrArg Prod.fst h).symm
theorem okL_row0 {σ u : PS} (h : u 0 = σ 0) (ho : okL σ) : okL u := fun a ha => by rw [h]; exact ho a ha
theorem okP_row0 {σ u : PS} (h : u 0 = σ 0) (ho : okP σ) : okP u := fun a k ha hk => by rw [h]; exact ho a k ha hk
def f6_isForm_L50 (p2 : Int32) : Nat → Nat → Int32 → PS → Int32 × PS
  | 0, i, x3, u => (x3, u)
  | n + 1, i, x3, u => (if p2 ≤ (nI i) then (x3, u) else (if x3 = 0 then (x3, u) else (if (nI i) = (p2 - (1 : Int32)) then (sq2 (f6_number u (nI i) (59 : Int32)) (fun (r8 : Int32) (u7 : PS) => f6_isForm_L50 p2 n (i + 1) r8 u7)) else (sq2 (f6_number u (nI i) (44 : Int32)) (fun (r5 : Int32) (u4 : PS) => f6_isForm_L50 p2 n (i + 1) r5 u4)))))
def f6_isForm (σ : PS) (p1 : Int32) (p2 : Int32) : Int32 × PS := (sq (wr σ 6 3 ((σ 6 3) + (1 : Int32))) (fun (u10 : PS) => (if p1 = (109 : Int32) then (sq (wr u10 6 3 ((u10 6 3) + (1 : Int32))) (fun (u20 : PS) => (f6_isAt u10 (59 : Int32) (59 : Int32), u20))) else (if p2 ≤ 0 then (sq2 (f6_isForm_L50 p2 3 0 (0 : Int32) u10) (fun (y15 : Int32) (u16 : PS) => (y15, u16))) else (sq2 (f6_isForm_L50 p2 3 0 (1 : Int32) u10) (fun (y18 : Int32) (u19 : PS) => (y18, u19)))))))
theorem le_nI3 {x : Int32} {i : Nat} (h : x.toInt ≤ 3) (hi : i = 3) : x ≤ nI i := by
  subst hi; rw [Int32.le_iff_toInt_le]; exact h
theorem isAt_z (u : PS) (a b : Int32) : narrow .boolean (.int (f6_isAt u a b)) = .int (f6_isAt u a b) := by
  apply nz01
  unfold f6_isAt
  repeat' split
  all_goals first | exact Or.inl rfl | exact Or.inr rfl
theorem ifL_all {m : Int32} : ∀ (n i : Nat) (x : Int32) (u : PS), (∀ j, j ≠ 5 → j ≠ 6 → (f6_isForm_L50 m n i x u).2 j = u j) ∧ (∀ q, q ≠ 3 → (f6_isForm_L50 m n i x u).2 6 q = u 6 q) ∧ (x = 0 ∨ x = 1 → (f6_isForm_L50 m n i x u).1 = 0 ∨ (f6_isForm_L50 m n i x u).1 = 1) := by
  intro n
  induction n with
  | zero => intro i x u; exact ⟨fun _ _ _ => rfl, fun _ _ => rfl, id⟩
  | succ n ih =>
    intro i x u
    unfold f6_isForm_L50
    split
    · exact ⟨fun _ _ _ => rfl, fun _ _ => rfl, id⟩
    · split
      · exact ⟨fun _ _ _ => rfl, fun _ _ => rfl, id⟩
      · split
        · dsimp only [sq2]
          rcases e : f6_number u (nI i) 59 with ⟨r, u2⟩
          obtain ⟨h1, h2, h3⟩ := ih (i + 1) r u2
          exact ⟨fun j a b => (h1 j a b).trans (number_j e a b), fun q a => (h2 q a).trans (number_q e a), fun _ => h3 (number_z e)⟩
        · dsimp only [sq2]
          rcases e : f6_number u (nI i) 44 with ⟨r, u2⟩
          obtain ⟨h1, h2, h3⟩ := ih (i + 1) r u2
          exact ⟨fun j a b => (h1 j a b).trans (number_j e a b), fun q a => (h2 q a).trans (number_q e a), fun _ => h3 (number_z e)⟩
theorem ifL_z {m x y : Int32} {n i : Nat} {u u2 : PS} (h : f6_isForm_L50 m n i x u = (y, u2)) (hx : x = 0 ∨ x = 1) : narrow .boolean (.int y) = .int y := by
  apply nz01
  have e : (f6_isForm_L50 m n i x u).1 = y := by rw [h]
  rw [← e]; exact (ifL_all n i x u).2.2 hx
theorem okT_ifL {m x y : Int32} {n i : Nat} {u u2 : PS} (h : f6_isForm_L50 m n i x u = (y, u2)) (ho : okT u) : okT u2 := by
  have e : (f6_isForm_L50 m n i x u).2 = u2 := by rw [h]
  rw [← e]; unfold okT; rw [(ifL_all n i x u).2.1 2 (by decide)]; exact ho
set_option maxHeartbeats 4000000 in
set_option maxRecDepth 100000 in
theorem c6_isForm (l : Launch) (D : va_G) (cI cP : ClassId) (hs : Nat → Nat) (σ : PS) (p1 : Int32) (p2 : Int32) (hs_okT : okT σ) (hs_okS : okS σ) (hlt : ¬ σ 6 2 ≤ σ 6 3) (hm : p2.toInt ≤ 3) : CI l yX6_isForm wsX6_isForm ({ frames := 3, cells := 0, slots := 0, locals := 68 } : Room) D (cty cI cP) (wMod cI hs σ) (wMod cI hs) [.ref (hs 0), .int p1, .int p2] 0 0 (fun r u => f6_isForm σ p1 p2 = (r, u)) := by
  refine CI.of (cc := cX6_isForm) (maxL := 5) (rt := .boolean) (own := RX6) (lv0 := [(0, .ref (hs 0)), (1, .int p1), (2, .int p2)]) pnX6 rfl rfl (Nat.le_of_ble_eq_true rfl) rfl (fun p e s m args below meth c A Q F hret => ?_)
  have w_1 := F.at (x := Cond.fieldLink RX6 153 "ThinVolumesModel" "spot" "I") 1 rfl
  have k_6 : ∀ w ∈ wsX60, w ∈ wsX6_isForm := fun _ h => List.mem_cons_of_mem _ (List.mem_append_right _ (h))
  have L50 : ∀ (n : Nat) (i : Nat) (x3 : Int32) (u : PS), i + n = 3 → okT u → (x3 = 0 ∨ okS u) → (x3 = 0 ∨ x3 = 1) → (∀ (y3 : Int32) (uu : PS), f6_isForm_L50 p2 n i x3 u = (y3, uu) → Wk p l e ({ frames := 3, cells := 0, slots := 0, locals := 68 } : Room) s m args below meth c 5 D A 0 0 Q (wMod cI hs uu) [(3, .int y3)] 88 []) → Wk p l e ({ frames := 3, cells := 0, slots := 0, locals := 68 } : Room) s m args below meth c 5 D A 0 0 Q (wMod cI hs u) [(0, .ref (hs 0)), (2, .int p2), (3, .int x3), (4, .int (nI i))] 50 [] := by
    intro n
    induction n with
    | zero =>
      intro i x3 u hi hv0 hv1 hv2 kx
      refine wk_iload F dX6_isForm_50 3 rfl (pc' := 52) rfl ?_
      refine wk_iload_n F dX6_isForm_52 rfl 1 rfl (pc' := 53) rfl ?_
      refine wk_icmp_ge (tgt := 88) F dX6_isForm_53 (by decide) (pc' := 56) rfl (fun _ => ?_) (fun c => absurd (le_nI3 hm (by omega)) c)
      refine wk_lv [2] rfl ?_
      exact kx x3 u (by rw [f6_isForm_L50] <;> exact rfl)
    | succ n ih =>
      intro i x3 u hi hv0 hv1 hv2 kx
      refine wk_iload F dX6_isForm_50 3 rfl (pc' := 52) rfl ?_
      refine wk_iload_n F dX6_isForm_52 rfl 1 rfl (pc' := 53) rfl ?_
      refine wk_icmp_ge (tgt := 88) F dX6_isForm_53 (by decide) (pc' := 56) rfl (fun c1 => ?_) (fun c1 => ?_)
      · refine wk_lv [2] rfl ?_
        exact kx x3 u (by rw [f6_isForm_L50] <;> exact (st_pos c1 rfl))
      · refine wk_iload_n F dX6_isForm_56 rfl 2 rfl (pc' := 57) rfl ?_
        refine wk_if_eq (tgt := 88) F dX6_isForm_57 (by decide) (pc' := 60) rfl (fun c2 => ?_) (fun c2 => ?_)
        · refine wk_lv [2] rfl ?_
          exact kx x3 u (by rw [f6_isForm_L50] <;> exact (st_neg c1 (st_pos c2 rfl)))
        · refine wk_aload_n F dX6_isForm_60 rfl 0 rfl (pc' := 61) rfl ?_
          refine wk_iload F dX6_isForm_61 3 rfl (pc' := 63) rfl ?_
          refine wk_iload F dX6_isForm_63 3 rfl (pc' := 65) rfl ?_
          refine wk_iload_n F dX6_isForm_65 rfl 1 rfl (pc' := 66) rfl ?_
          refine wk_iconst F dX6_isForm_66 ic_1 (pc' := 67) rfl ?_
          refine wk_isub F dX6_isForm_67 (pc' := 68) rfl ?_
          refine wk_icmp_ne (tgt := 76) F dX6_isForm_68 (by decide) (pc' := 71) rfl (fun c3 => ?_) (fun c3 => ?_)
          · refine wk_bipush F dX6_isForm_76 bp_44 (pc' := 78) rfl ?_
            refine wk_same_i F (c6_number l D cI cP hs u (nI i) (44 : Int32) (vp_in_nI (n := i) (N := 3) (by omega) (Nat.le_of_ble_eq_true rfl)) hv0 (hv1.resolve_left c2)) (cwV 2 F.hts gX6_isForm_X6_number rfl rfl rfl hdX6_number ⟨Nat.le_of_ble_eq_true rfl, Nat.le_of_ble_eq_true rfl⟩) 0 6 rfl rfl rfl rfl (Nat.le_of_ble_eq_true rfl) dX6_isForm_78 ⟨Nat.zero_le _, Nat.zero_le _⟩ (pc' := 81) rfl (fun r5 u4 h6 => ?_)
            refine wk_istore_n (lv' := [(3, .int r5), (0, .ref (hs 0)), (2, .int p2), (4, .int (nI i))]) F dX6_isForm_81 rfl (Nat.le_of_ble_eq_true rfl) rfl (pc' := 82) rfl ?_
            refine wk_iinc (k := 3) (v := nI (i + 1)) (lv' := [(4, .int (nI (i + 1))), (3, .int r5), (0, .ref (hs 0)), (2, .int p2)]) F dX6_isForm_82 rfl (nI_inc i) (Nat.le_of_ble_eq_true rfl) rfl (pc' := 85) rfl ?_
            refine wk_goto (tgt := 50) F dX6_isForm_85 (by decide) ?_
            refine wk_lv [2, 3, 1, 0] rfl ?_
            exact ih (i + 1) r5 u4 (by omega) (okT_number h6 hv0) (number_S hv0 (hv1.resolve_left c2) h6) (number_z h6) (fun y3_ u_ h_ => kx y3_ u_ (Eq.trans (by rw [f6_isForm_L50] <;> exact (st_neg c1 (st_neg c2 (st_neg c3 (st_match h6 rfl))))) h_))
          · refine wk_bipush F dX6_isForm_71 bp_59 (pc' := 73) rfl ?_
            refine wk_goto (tgt := 78) F dX6_isForm_73 (by decide) ?_
            refine wk_same_i F (c6_number l D cI cP hs u (nI i) (59 : Int32) (vp_in_nI (n := i) (N := 3) (by omega) (Nat.le_of_ble_eq_true rfl)) hv0 (hv1.resolve_left c2)) (cwV 2 F.hts gX6_isForm_X6_number rfl rfl rfl hdX6_number ⟨Nat.le_of_ble_eq_true rfl, Nat.le_of_ble_eq_true rfl⟩) 0 6 rfl rfl rfl rfl (Nat.le_of_ble_eq_true rfl) dX6_isForm_78 ⟨Nat.zero_le _, Nat.zero_le _⟩ (pc' := 81) rfl (fun r8 u7 h9 => ?_)
            refine wk_istore_n (lv' := [(3, .int r8), (0, .ref (hs 0)), (2, .int p2), (4, .int (nI i))]) F dX6_isForm_81 rfl (Nat.le_of_ble_eq_true rfl) rfl (pc' := 82) rfl ?_
            refine wk_iinc (k := 3) (v := nI (i + 1)) (lv' := [(4, .int (nI (i + 1))), (3, .int r8), (0, .ref (hs 0)), (2, .int p2)]) F dX6_isForm_82 rfl (nI_inc i) (Nat.le_of_ble_eq_true rfl) rfl (pc' := 85) rfl ?_
            refine wk_goto (tgt := 50) F dX6_isForm_85 (by decide) ?_
            refine wk_lv [2, 3, 1, 0] rfl ?_
            exact ih (i + 1) r8 u7 (by omega) (okT_number h9 hv0) (number_S hv0 (hv1.resolve_left c2) h9) (number_z h9) (fun y3_ u_ h_ => kx y3_ u_ (Eq.trans (by rw [f6_isForm_L50] <;> exact (st_neg c1 (st_neg c2 (st_pos c3 (st_match h9 rfl))))) h_))
  refine wk_aload_n F dX6_isForm_0 rfl 0 rfl (pc' := 1) rfl ?_
  refine wk_dup F dX6_isForm_1 rfl (pc' := 2) rfl ?_
  refine wk_get (C := RX6) (T := TX6) (N := 12) F 0 rfl rfl k_6 8 (Nat.le_of_ble_eq_true rfl) w_1 rfl dX6_isForm_2 (pc' := 5) rfl ?_
  refine wk_iconst F dX6_isForm_5 ic_1 (pc' := 6) rfl ?_
  refine wk_iadd F dX6_isForm_6 (pc' := 7) rfl ?_
  refine wk_putu (wg := wMod cI hs) (f0 := wr σ 6 3 ((σ 6 3) + (1 : Int32))) (C := RX6) (T := TX6) (N := 12) (ty0 := tyX6) F 0 rfl rfl k_6 tyX6_ok nmX6 8 (Nat.le_of_ble_eq_true rfl) w_1 rfl rfl rfl (Nat.le_of_ble_eq_true rfl) sM_3 dX6_isForm_7 (pc' := 10) rfl (fun u10 h11 => ?_)
  refine wk_iload_n F dX6_isForm_10 rfl 1 rfl (pc' := 11) rfl ?_
  refine wk_bipush F dX6_isForm_11 bp_109 (pc' := 13) rfl ?_
  refine wk_icmp_ne (tgt := 37) F dX6_isForm_13 (by decide) (pc' := 16) rfl (fun c12 => ?_) (fun c12 => ?_)
  · refine wk_iload_n F dX6_isForm_37 rfl 2 rfl (pc' := 38) rfl ?_
    refine wk_if_le (tgt := 45) F dX6_isForm_38 (by decide) (pc' := 41) rfl (fun c13 => ?_) (fun c13 => ?_)
    · refine wk_iconst F dX6_isForm_45 ic_0 (pc' := 46) rfl ?_
      refine wk_istore_n (lv' := [(3, .int (0 : Int32)), (0, .ref (hs 0)), (1, .int p1), (2, .int p2)]) F dX6_isForm_46 rfl (Nat.le_of_ble_eq_true rfl) rfl (pc' := 47) rfl ?_
      refine wk_iconst F dX6_isForm_47 ic_0 (pc' := 48) rfl ?_
      refine wk_istore (lv' := [(4, .int (0 : Int32)), (3, .int (0 : Int32)), (0, .ref (hs 0)), (1, .int p1), (2, .int p2)]) F dX6_isForm_48 (Nat.le_of_ble_eq_true rfl) rfl (pc' := 50) rfl ?_
      refine wk_lv [2, 4, 1, 0] rfl ?_
      refine L50 3 0 (0 : Int32) u10 (by omega) (okT_wr6 (by decide) h11 hs_okT) (Or.inr (okS_inc hs_okT hs_okS hlt h11)) (by decide) (fun y15 u16 h14 => ?_)
      refine wk_iload_n F dX6_isForm_88 rfl 0 rfl (pc' := 89) rfl ?_
      exact hret _ _ _ _ dX6_isForm_89 (ifL_z h14 (by decide)) (by rw [f6_isForm] <;> exact (st_let h11 (st_neg c12 (st_pos c13 (st_match h14 rfl)))))
    · refine wk_iconst F dX6_isForm_41 ic_1 (pc' := 42) rfl ?_
      refine wk_goto (tgt := 46) F dX6_isForm_42 (by decide) ?_
      refine wk_istore_n (lv' := [(3, .int (1 : Int32)), (0, .ref (hs 0)), (1, .int p1), (2, .int p2)]) F dX6_isForm_46 rfl (Nat.le_of_ble_eq_true rfl) rfl (pc' := 47) rfl ?_
      refine wk_iconst F dX6_isForm_47 ic_0 (pc' := 48) rfl ?_
      refine wk_istore (lv' := [(4, .int (0 : Int32)), (3, .int (1 : Int32)), (0, .ref (hs 0)), (1, .int p1), (2, .int p2)]) F dX6_isForm_48 (Nat.le_of_ble_eq_true rfl) rfl (pc' := 50) rfl ?_
      refine wk_lv [2, 4, 1, 0] rfl ?_
      refine L50 3 0 (1 : Int32) u10 (by omega) (okT_wr6 (by decide) h11 hs_okT) (Or.inr (okS_inc hs_okT hs_okS hlt h11)) (by decide) (fun y18 u19 h17 => ?_)
      refine wk_iload_n F dX6_isForm_88 rfl 0 rfl (pc' := 89) rfl ?_
      exact hret _ _ _ _ dX6_isForm_89 (ifL_z h17 (by decide)) (by rw [f6_isForm] <;> exact (st_let h11 (st_neg c12 (st_neg c13 (st_match h17 rfl)))))
  · refine wk_aload_n F dX6_isForm_16 rfl 0 rfl (pc' := 17) rfl ?_
    refine wk_bipush F dX6_isForm_17 bp_59 (pc' := 19) rfl ?_
    refine wk_bipush F dX6_isForm_19 bp_59 (pc' := 21) rfl ?_
    refine wk_same_p F (c6_isAt l D cI cP hs u10 (59 : Int32) (59 : Int32) (okT_wr6 (by decide) h11 hs_okT) (okS_inc hs_okT hs_okS hlt h11)) (cwV 2 F.hts gX6_isForm_X6_isAt rfl rfl rfl hdX6_isAt ⟨Nat.le_of_ble_eq_true rfl, Nat.le_of_ble_eq_true rfl⟩) 0 6 rfl rfl rfl rfl (Nat.le_of_ble_eq_true rfl) dX6_isForm_21 ⟨Nat.zero_le _, Nat.zero_le _⟩ (pc' := 24) rfl ?_
    refine wk_istore_n (lv' := [(3, .int (f6_isAt u10 (59 : Int32) (59 : Int32))), (0, .ref (hs 0)), (1, .int p1), (2, .int p2)]) F dX6_isForm_24 rfl (Nat.le_of_ble_eq_true rfl) rfl (pc' := 25) rfl ?_
    refine wk_aload_n F dX6_isForm_25 rfl 1 rfl (pc' := 26) rfl ?_
    refine wk_dup F dX6_isForm_26 rfl (pc' := 27) rfl ?_
    refine wk_get (C := RX6) (T := TX6) (N := 12) F 0 rfl rfl k_6 8 (Nat.le_of_ble_eq_true rfl) w_1 rfl dX6_isForm_27 (pc' := 30) rfl ?_
    refine wk_iconst F dX6_isForm_30 ic_1 (pc' := 31) rfl ?_
    refine wk_iadd F dX6_isForm_31 (pc' := 32) rfl ?_
    refine wk_putu (wg := wMod cI hs) (f0 := wr u10 6 3 ((u10 6 3) + (1 : Int32))) (C := RX6) (T := TX6) (N := 12) (ty0 := tyX6) F 0 rfl rfl k_6 tyX6_ok nmX6 8 (Nat.le_of_ble_eq_true rfl) w_1 rfl rfl rfl (Nat.le_of_ble_eq_true rfl) sM_3 dX6_isForm_32 (pc' := 35) rfl (fun u20 h21 => ?_)
    refine wk_iload_n F dX6_isForm_35 rfl 0 rfl (pc' := 36) rfl ?_
    exact hret _ _ _ _ dX6_isForm_36 (isAt_z _ _ _) (by rw [f6_isForm] <;> exact (st_let h11 (st_pos c12 (st_let h21 rfl))))
theorem isForm_j {u u2 : PS} {a m r : Int32} (h : f6_isForm u a m = (r, u2)) {j : Nat} (h5 : j ≠ 5) (h6 : j ≠ 6) : u2 j = u j := by
  have e : (f6_isForm u a m).2 = u2 := by rw [h]
  subst e
  unfold f6_isForm
  dsimp only [sq, sq2]
  split
  · dsimp only; rw [wr_ne h6, wr_ne h6]
  · split
    · dsimp only; rw [(ifL_all 3 0 _ _).1 j h5 h6, wr_ne h6]
    · dsimp only; rw [(ifL_all 3 0 _ _).1 j h5 h6, wr_ne h6]
theorem isForm_q {u u2 : PS} {a m r : Int32} (h : f6_isForm u a m = (r, u2)) {q : Nat} (hq : q ≠ 3) : u2 6 q = u 6 q := by
  have e : (f6_isForm u a m).2 = u2 := by rw [h]
  subst e
  unfold f6_isForm
  dsimp only [sq, sq2]
  split
  · dsimp only; rw [wr_at, if_neg hq, wr_at, if_neg hq]
  · split
    · dsimp only; rw [(ifL_all 3 0 _ _).2.1 q hq, wr_at, if_neg hq]
    · dsimp only; rw [(ifL_all 3 0 _ _).2.1 q hq, wr_at, if_neg hq]
theorem okH_isForm {u u2 : PS} {a m r : Int32} (h : f6_isForm u a m = (r, u2)) (ho : okH u) : okH u2 := by
  unfold okH; rw [isForm_q h (by decide)]; exact ho
def f6_isDone (σ : PS) (p1 : Int32) : Int32 × PS := (if p1 = (-1000005 : Int32) then (sq (wr σ 6 5 ((σ 6 5) + (1 : Int32))) (fun (u6 : PS) => (if p1 = (-1000002 : Int32) then ((3 : Int32), u6) else (if p1 = (-1000003 : Int32) then ((3 : Int32), u6) else ((0 : Int32), u6))))) else (sq (wr σ 6 5 ((σ 6 5) + (0 : Int32))) (fun (u2 : PS) => (if p1 = (-1000002 : Int32) then ((3 : Int32), u2) else (if p1 = (-1000003 : Int32) then ((3 : Int32), u2) else ((0 : Int32), u2))))))
set_option maxHeartbeats 4000000 in
set_option maxRecDepth 100000 in
theorem c6_isDone (l : Launch) (D : va_G) (cI cP : ClassId) (hs : Nat → Nat) (σ : PS) (p1 : Int32) : CI l yX6_isDone wsX6_isDone ({ frames := 0, cells := 0, slots := 0, locals := 0 } : Room) D (cty cI cP) (wMod cI hs σ) (wMod cI hs) [.ref (hs 0), .int p1] 0 0 (fun r u => f6_isDone σ p1 = (r, u)) := by
  refine CI.of (cc := cX6_isDone) (maxL := 2) (rt := .int) (own := RX6) (lv0 := [(0, .ref (hs 0)), (1, .int p1)]) pnX6 rfl rfl (Nat.le_of_ble_eq_true rfl) rfl (fun p e s m args below meth c A Q F hret => ?_)
  have w_1 := F.at (x := Cond.fieldLink RX6 162 "ThinVolumesModel" "refusals" "I") 1 rfl
  have w_2 := F.at (x := Cond.constant RX6 112 (-1000005)) 2 rfl
  have w_3 := F.at (x := Cond.constant RX6 100 (-1000002)) 3 rfl
  have w_4 := F.at (x := Cond.constant RX6 90 (-1000003)) 4 rfl
  have k_6 : ∀ w ∈ wsX60, w ∈ wsX6_isDone := fun _ h => List.mem_cons_of_mem _ (List.mem_append_right _ (h))
  refine wk_aload_n F dX6_isDone_0 rfl 0 rfl (pc' := 1) rfl ?_
  refine wk_dup F dX6_isDone_1 rfl (pc' := 2) rfl ?_
  refine wk_get (C := RX6) (T := TX6) (N := 12) F 0 rfl rfl k_6 10 (Nat.le_of_ble_eq_true rfl) w_1 rfl dX6_isDone_2 (pc' := 5) rfl ?_
  refine wk_iload_n F dX6_isDone_5 rfl 1 rfl (pc' := 6) rfl ?_
  refine wk_ldc F dX6_isDone_6 w_2 (pc' := 8) rfl ?_
  refine wk_icmp_ne (tgt := 15) F dX6_isDone_8 (by decide) (pc' := 11) rfl (fun c1 => ?_) (fun c1 => ?_)
  · refine wk_iconst F dX6_isDone_15 ic_0 (pc' := 16) rfl ?_
    refine wk_iadd F dX6_isDone_16 (pc' := 17) rfl ?_
    refine wk_putu (wg := wMod cI hs) (f0 := wr σ 6 5 ((σ 6 5) + (0 : Int32))) (C := RX6) (T := TX6) (N := 12) (ty0 := tyX6) F 0 rfl rfl k_6 tyX6_ok nmX6 10 (Nat.le_of_ble_eq_true rfl) w_1 rfl rfl rfl (Nat.le_of_ble_eq_true rfl) sM_5 dX6_isDone_17 (pc' := 20) rfl (fun u2 h3 => ?_)
    refine wk_iload_n F dX6_isDone_20 rfl 1 rfl (pc' := 21) rfl ?_
    refine wk_ldc F dX6_isDone_21 w_3 (pc' := 23) rfl ?_
    refine wk_icmp_eq (tgt := 32) F dX6_isDone_23 (by decide) (pc' := 26) rfl (fun c4 => ?_) (fun c4 => ?_)
    · refine wk_iconst F dX6_isDone_32 ic_3 (pc' := 33) rfl ?_
      refine wk_goto (tgt := 37) F dX6_isDone_33 (by decide) ?_
      exact hret _ _ _ _ dX6_isDone_37 rfl (by rw [f6_isDone] <;> exact (st_neg c1 (st_let h3 (st_pos c4 rfl))))
    · refine wk_iload_n F dX6_isDone_26 rfl 1 rfl (pc' := 27) rfl ?_
      refine wk_ldc F dX6_isDone_27 w_4 (pc' := 29) rfl ?_
      refine wk_icmp_ne (tgt := 36) F dX6_isDone_29 (by decide) (pc' := 32) rfl (fun c5 => ?_) (fun c5 => ?_)
      · refine wk_iconst F dX6_isDone_36 ic_0 (pc' := 37) rfl ?_
        exact hret _ _ _ _ dX6_isDone_37 rfl (by rw [f6_isDone] <;> exact (st_neg c1 (st_let h3 (st_neg c4 (st_neg c5 rfl)))))
      · refine wk_iconst F dX6_isDone_32 ic_3 (pc' := 33) rfl ?_
        refine wk_goto (tgt := 37) F dX6_isDone_33 (by decide) ?_
        exact hret _ _ _ _ dX6_isDone_37 rfl (by rw [f6_isDone] <;> exact (st_neg c1 (st_let h3 (st_neg c4 (st_pos c5 rfl)))))
  · refine wk_iconst F dX6_isDone_11 ic_1 (pc' := 12) rfl ?_
    refine wk_goto (tgt := 16) F dX6_isDone_12 (by decide) ?_
    refine wk_iadd F dX6_isDone_16 (pc' := 17) rfl ?_
    refine wk_putu (wg := wMod cI hs) (f0 := wr σ 6 5 ((σ 6 5) + (1 : Int32))) (C := RX6) (T := TX6) (N := 12) (ty0 := tyX6) F 0 rfl rfl k_6 tyX6_ok nmX6 10 (Nat.le_of_ble_eq_true rfl) w_1 rfl rfl rfl (Nat.le_of_ble_eq_true rfl) sM_5 dX6_isDone_17 (pc' := 20) rfl (fun u6 h7 => ?_)
    refine wk_iload_n F dX6_isDone_20 rfl 1 rfl (pc' := 21) rfl ?_
    refine wk_ldc F dX6_isDone_21 w_3 (pc' := 23) rfl ?_
    refine wk_icmp_eq (tgt := 32) F dX6_isDone_23 (by decide) (pc' := 26) rfl (fun c8 => ?_) (fun c8 => ?_)
    · refine wk_iconst F dX6_isDone_32 ic_3 (pc' := 33) rfl ?_
      refine wk_goto (tgt := 37) F dX6_isDone_33 (by decide) ?_
      exact hret _ _ _ _ dX6_isDone_37 rfl (by rw [f6_isDone] <;> exact (st_pos c1 (st_let h7 (st_pos c8 rfl))))
    · refine wk_iload_n F dX6_isDone_26 rfl 1 rfl (pc' := 27) rfl ?_
      refine wk_ldc F dX6_isDone_27 w_4 (pc' := 29) rfl ?_
      refine wk_icmp_ne (tgt := 36) F dX6_isDone_29 (by decide) (pc' := 32) rfl (fun c9 => ?_) (fun c9 => ?_)
      · refine wk_iconst F dX6_isDone_36 ic_0 (pc' := 37) rfl ?_
        exact hret _ _ _ _ dX6_isDone_37 rfl (by rw [f6_isDone] <;> exact (st_pos c1 (st_let h7 (st_neg c8 (st_neg c9 rfl)))))
      · refine wk_iconst F dX6_isDone_32 ic_3 (pc' := 33) rfl ?_
        refine wk_goto (tgt := 37) F dX6_isDone_33 (by decide) ?_
        exact hret _ _ _ _ dX6_isDone_37 rfl (by rw [f6_isDone] <;> exact (st_pos c1 (st_let h7 (st_neg c8 (st_pos c9 rfl)))))
