def okH (u : PS) : Prop := vp_in (u 6 0) 5
theorem setA_ne {u : PS} {j b : Nat} {f : Nat → Int32} (h : b ≠ j) : setA u j f b = u b := by
  unfold setA
  cases hb : Nat.beq b j with
  | false => rfl
  | true => exact absurd (Nat.eq_of_beq_eq_true hb) h
theorem setA_eq {u : PS} {j : Nat} {f : Nat → Int32} : setA u j f j = f := by
  unfold setA
  rw [Nat.beq_refl]; rfl
theorem wr_ne {u : PS} {j b k : Nat} {x : Int32} (h : b ≠ j) : wr u j k x b = u b := setA_ne h
theorem wr_at {u : PS} {j k q : Nat} {x : Int32} : wr u j k x j q = if q = k then x else u j q := by
  unfold wr
  rw [setA_eq]; rfl
theorem okL_wrj {σ u : PS} {j k : Nat} {x : Int32} (hj : j ≠ 0) (h : wr σ j k x = u) (ho : okL σ) : okL u := by
  subst h; intro a ha
  rw [wr_ne (Ne.symm hj)]; exact ho a ha
theorem okP_wrj {σ u : PS} {j k : Nat} {x : Int32} (hj : j ≠ 0) (h : wr σ j k x = u) (ho : okP σ) : okP u := by
  subst h; intro a q ha hq
  rw [wr_ne (Ne.symm hj)]; exact ho a q ha hq
theorem okL_wrlow {σ u : PS} {k : Nat} {x : Int32} (hk : k < 67) (h : wr σ 0 k x = u) (ho : okL σ) : okL u := by
  subst h; intro a ha
  rw [wr_at, if_neg (by omega)]; exact ho a ha
theorem okP_wrlow {σ u : PS} {k : Nat} {x : Int32} (hk : k < 67) (h : wr σ 0 k x = u) (ho : okP σ) : okP u := by
  subst h; intro a q ha hq
  rw [wr_at, if_neg (by omega)]; exact ho a q ha hq
theorem clamp_lt {i : Int32} {N : Nat} (h : vp_in i N) (hN : N < 2 ^ 31) : i.toNatClampNeg < N := by
  obtain ⟨j, hj, rfl⟩ := vp_in_of h hN
  rw [nI_clamp (by omega)]; exact hj
theorem okL_wrin {σ u : PS} {i : Int32} {x : Int32} (hi : vp_in i 67) (h : wr σ 0 i.toNatClampNeg x = u) (ho : okL σ) : okL u := okL_wrlow (clamp_lt hi (by decide)) h ho
theorem okP_wrin {σ u : PS} {i : Int32} {x : Int32} (hi : vp_in i 67) (h : wr σ 0 i.toNatClampNeg x = u) (ho : okP σ) : okP u := okP_wrlow (clamp_lt hi (by decide)) h ho
theorem putsI (u : PS) {a b : Nat} (x : Int32) (ha : a < 8) (hb : b < 47) : f6_puts u (nI a) (nI b) x = wr u 0 (67 + 47 * a + b) x := by
  unfold f6_puts sq
  rw [ix_nI, nI_clamp (by omega)]
theorem sevenI (k : Nat) : (7 : Int32) + nI k = nI (7 + k) := by rw [← nI_add]; rfl
theorem okL_puts {σ u : PS} {v x : Int32} {w : Nat} (hw : w < 47) (h1 : w ≠ 1) (hv : vp_in v 8) (h : f6_puts σ v (nI w) x = u) (ho : okL σ) : okL u := by
  obtain ⟨a, ha, rfl⟩ := vp_in_of hv (by decide)
  rw [putsI σ x ha hw] at h
  subst h; intro b hb
  rw [wr_at, if_neg (by omega)]; exact ho b hb
theorem okL_puts7 {σ u : PS} {v q x : Int32} (hq : vp_in q 40) (hv : vp_in v 8) (h : f6_puts σ v (7 + q) x = u) (ho : okL σ) : okL u := by
  obtain ⟨k, hk, rfl⟩ := vp_in_of hq (by decide)
  rw [sevenI] at h
  exact okL_puts (by omega) (by omega) hv h ho
theorem okP_puts {σ u : PS} {v x : Int32} {w : Nat} (hw : w < 7) (hv : vp_in v 8) (h : f6_puts σ v (nI w) x = u) (ho : okP σ) : okP u := by
  obtain ⟨a, ha, rfl⟩ := vp_in_of hv (by decide)
  rw [putsI σ x ha (by omega)] at h
  subst h; intro b q hb hq
  rw [wr_at, if_neg (by omega)]; exact ho b q hb hq
theorem okP_putsx {σ u : PS} {v x : Int32} {w : Nat} (hx : x.toInt < 30) (hw : w < 47) (hv : vp_in v 8) (h : f6_puts σ v (nI w) x = u) (ho : okP σ) : okP u := by
  obtain ⟨a, ha, rfl⟩ := vp_in_of hv (by decide)
  rw [putsI σ x ha hw] at h
  subst h; intro b q hb hq
  rw [wr_at]
  split
  · exact hx
  · exact ho b q hb hq
theorem okP_puts7 {σ u : PS} {v q x : Int32} (hx : x.toInt < 30) (hq : vp_in q 40) (hv : vp_in v 8) (h : f6_puts σ v (7 + q) x = u) (ho : okP σ) : okP u := by
  obtain ⟨k, hk, rfl⟩ := vp_in_of hq (by decide)
  rw [sevenI] at h
  exact okP_putsx hx (by omega) hv h ho
theorem lowestFree_L {u : PS} : ∀ n i : Nat, i + n = 30 → ∃ j : Nat, j ≤ 30 ∧ f6_lowestFree_L2 u n i = nI j := by
  intro n
  induction n with
  | zero => intro i hi; exact ⟨i, by omega, rfl⟩
  | succ n ih =>
    intro i hi
    unfold f6_lowestFree_L2
    split
    · exact ⟨i, by omega, rfl⟩
    · exact ih (i + 1) (by omega)
theorem lowestFree_in (u : PS) : vp_in (f6_lowestFree u) 31 := by
  obtain ⟨j, hj, e⟩ := lowestFree_L (u := u) 30 0 rfl
  show vp_in (f6_lowestFree_L2 u 30 0) 31
  rw [e]; exact vp_in_nI (by omega) (by decide)
theorem ix_low {x : Int32} (h : vp_in x 31) : vp_in (7 + x) 38 := by
  obtain ⟨j, hj, rfl⟩ := vp_in_of h (by decide)
  rw [sevenI]; exact vp_in_nI (by omega) (by decide)
def f6_behaves (σ : PS) (p1 : Int32) (p2 : Int32) : PS := (if 0 ≤ ((f6_of σ p1 (2 : Int32)) + p2) then (if ((f6_of σ p1 (2 : Int32)) + p2) ≤ (100 : Int32) then (sq (f6_puts σ p1 (2 : Int32) ((f6_of σ p1 (2 : Int32)) + p2)) (fun (u3 : PS) => u3)) else (sq (f6_puts σ p1 (2 : Int32) (100 : Int32)) (fun (u5 : PS) => u5))) else (sq (f6_puts σ p1 (2 : Int32) (0 : Int32)) (fun (u7 : PS) => u7)))
set_option maxHeartbeats 4000000 in
set_option maxRecDepth 100000 in
theorem c6_behaves (l : Launch) (D : va_G) (cI cP : ClassId) (hs : Nat → Nat) (σ : PS) (p1 : Int32) (p2 : Int32) (hp_p1 : vp_in p1 8) : CV l yX6_behaves wsX6_behaves ({ frames := 1, cells := 0, slots := 0, locals := 23 } : Room) D (cty cI cP) (wMod cI hs σ) (wMod cI hs) [.ref (hs 0), .int p1, .int p2] 0 0 (fun u => f6_behaves σ p1 p2 = u) := by
  refine CV.of (cc := cX6_behaves) (maxL := 4) (own := RX6) (lv0 := [(0, .ref (hs 0)), (1, .int p1), (2, .int p2)]) pnX6 rfl rfl (Nat.le_of_ble_eq_true rfl) rfl (fun p e s m args below meth c A Q F hmn hret => ?_)
  refine wk_aload_n F dX6_behaves_0 rfl 0 rfl (pc' := 1) rfl ?_
  refine wk_iload_n F dX6_behaves_1 rfl 1 rfl (pc' := 2) rfl ?_
  refine wk_iconst F dX6_behaves_2 ic_2 (pc' := 3) rfl ?_
  refine wk_same_p F (c6_of l D cI cP hs σ p1 (2 : Int32) hp_p1 (vp_in_nI (n := 2) (N := 47) (Nat.le_of_ble_eq_true rfl) (Nat.le_of_ble_eq_true rfl))) (cwV 2 F.hts gX6_behaves_X6_of rfl rfl rfl hdX6_of ⟨Nat.le_of_ble_eq_true rfl, Nat.le_of_ble_eq_true rfl⟩) 0 6 rfl rfl rfl rfl (Nat.le_of_ble_eq_true rfl) dX6_behaves_3 ⟨Nat.zero_le _, Nat.zero_le _⟩ (pc' := 6) rfl ?_
  refine wk_iload_n F dX6_behaves_6 rfl 2 rfl (pc' := 7) rfl ?_
  refine wk_iadd F dX6_behaves_7 (pc' := 8) rfl ?_
  refine wk_istore_n (lv' := [(3, .int ((f6_of σ p1 (2 : Int32)) + p2)), (0, .ref (hs 0)), (1, .int p1), (2, .int p2)]) F dX6_behaves_8 rfl (Nat.le_of_ble_eq_true rfl) rfl (pc' := 9) rfl ?_
  refine wk_aload_n F dX6_behaves_9 rfl 1 rfl (pc' := 10) rfl ?_
  refine wk_iload_n F dX6_behaves_10 rfl 2 rfl (pc' := 11) rfl ?_
  refine wk_iconst F dX6_behaves_11 ic_2 (pc' := 12) rfl ?_
  refine wk_iload_n F dX6_behaves_12 rfl 0 rfl (pc' := 13) rfl ?_
  refine wk_if_ge (tgt := 20) F dX6_behaves_13 (by decide) (pc' := 16) rfl (fun c1 => ?_) (fun c1 => ?_)
  · refine wk_iload_n F dX6_behaves_20 rfl 0 rfl (pc' := 21) rfl ?_
    refine wk_bipush F dX6_behaves_21 bp_100 (pc' := 23) rfl ?_
    refine wk_icmp_le (tgt := 31) F dX6_behaves_23 (by decide) (pc' := 26) rfl (fun c2 => ?_) (fun c2 => ?_)
    · refine wk_iload_n F dX6_behaves_31 rfl 0 rfl (pc' := 32) rfl ?_
      refine wk_same_v F (c6_puts l D cI cP hs σ p1 (2 : Int32) ((f6_of σ p1 (2 : Int32)) + p2) hp_p1 (vp_in_nI (n := 2) (N := 47) (Nat.le_of_ble_eq_true rfl) (Nat.le_of_ble_eq_true rfl))) (cwV 3 F.hts gX6_behaves_X6_puts rfl rfl rfl hdX6_puts ⟨Nat.le_of_ble_eq_true rfl, Nat.le_of_ble_eq_true rfl⟩) 0 6 rfl rfl rfl rfl (Nat.le_of_ble_eq_true rfl) dX6_behaves_32 ⟨Nat.zero_le _, Nat.zero_le _⟩ (pc' := 35) rfl (fun u3 h4 => ?_)
      exact hret _ _ _ dX6_behaves_35 (by rw [f6_behaves] <;> exact (st_pos c1 (st_pos c2 (st_let h4 rfl))))
    · refine wk_bipush F dX6_behaves_26 bp_100 (pc' := 28) rfl ?_
      refine wk_goto (tgt := 32) F dX6_behaves_28 (by decide) ?_
      refine wk_same_v F (c6_puts l D cI cP hs σ p1 (2 : Int32) (100 : Int32) hp_p1 (vp_in_nI (n := 2) (N := 47) (Nat.le_of_ble_eq_true rfl) (Nat.le_of_ble_eq_true rfl))) (cwV 3 F.hts gX6_behaves_X6_puts rfl rfl rfl hdX6_puts ⟨Nat.le_of_ble_eq_true rfl, Nat.le_of_ble_eq_true rfl⟩) 0 6 rfl rfl rfl rfl (Nat.le_of_ble_eq_true rfl) dX6_behaves_32 ⟨Nat.zero_le _, Nat.zero_le _⟩ (pc' := 35) rfl (fun u5 h6 => ?_)
      exact hret _ _ _ dX6_behaves_35 (by rw [f6_behaves] <;> exact (st_pos c1 (st_neg c2 (st_let h6 rfl))))
  · refine wk_iconst F dX6_behaves_16 ic_0 (pc' := 17) rfl ?_
    refine wk_goto (tgt := 32) F dX6_behaves_17 (by decide) ?_
    refine wk_same_v F (c6_puts l D cI cP hs σ p1 (2 : Int32) (0 : Int32) hp_p1 (vp_in_nI (n := 2) (N := 47) (Nat.le_of_ble_eq_true rfl) (Nat.le_of_ble_eq_true rfl))) (cwV 3 F.hts gX6_behaves_X6_puts rfl rfl rfl hdX6_puts ⟨Nat.le_of_ble_eq_true rfl, Nat.le_of_ble_eq_true rfl⟩) 0 6 rfl rfl rfl rfl (Nat.le_of_ble_eq_true rfl) dX6_behaves_32 ⟨Nat.zero_le _, Nat.zero_le _⟩ (pc' := 35) rfl (fun u7 h8 => ?_)
    exact hret _ _ _ dX6_behaves_35 (by rw [f6_behaves] <;> exact (st_neg c1 (st_let h8 rfl)))
def f6_asks (σ : PS) (p1 : Int32) (p2 : Int32) : Int32 × PS := (if (f6_of σ p1 (3 : Int32)) ≤ 0 then (if p2 ≤ 0 then (sq (f6_behaves σ p1 (-1 : Int32)) (fun (u3 : PS) => ((0 : Int32), u3))) else (if (f6_levelBy σ p2) = 0 then (if (f6_levelBy σ p2) ≤ 0 then (sq (f6_behaves σ p1 (0 : Int32)) (fun (u7 : PS) => ((1 : Int32), u7))) else (sq (f6_behaves σ p1 (-3 : Int32)) (fun (u9 : PS) => ((1 : Int32), u9)))) else (if (f6_levelBy σ p2) = (1 : Int32) then (if (σ 0 2) ≤ (f6_of σ p1 (2 : Int32)) then (if (f6_levelBy σ p2) ≤ 0 then (sq (f6_behaves σ p1 (0 : Int32)) (fun (u25 : PS) => ((1 : Int32), u25))) else (sq (f6_behaves σ p1 (-3 : Int32)) (fun (u27 : PS) => ((1 : Int32), u27)))) else (if (f6_levelBy σ p2) = (2 : Int32) then (if (f6_best σ) = p1 then (if (f6_levelBy σ p2) ≤ 0 then (sq (f6_behaves σ p1 (0 : Int32)) (fun (u36 : PS) => ((1 : Int32), u36))) else (sq (f6_behaves σ p1 (-3 : Int32)) (fun (u38 : PS) => ((1 : Int32), u38)))) else (sq (f6_behaves σ p1 (-1 : Int32)) (fun (u33 : PS) => ((0 : Int32), u33)))) else (sq (f6_behaves σ p1 (-1 : Int32)) (fun (u30 : PS) => ((0 : Int32), u30))))) else (if (f6_levelBy σ p2) = (2 : Int32) then (if (f6_best σ) = p1 then (if (f6_levelBy σ p2) ≤ 0 then (sq (f6_behaves σ p1 (0 : Int32)) (fun (u19 : PS) => ((1 : Int32), u19))) else (sq (f6_behaves σ p1 (-3 : Int32)) (fun (u21 : PS) => ((1 : Int32), u21)))) else (sq (f6_behaves σ p1 (-1 : Int32)) (fun (u16 : PS) => ((0 : Int32), u16)))) else (sq (f6_behaves σ p1 (-1 : Int32)) (fun (u13 : PS) => ((0 : Int32), u13))))))) else (sq (f6_puts σ p1 (3 : Int32) ((f6_of σ p1 (3 : Int32)) - (1 : Int32))) (fun (u40 : PS) => ((2 : Int32), u40))))
set_option maxHeartbeats 4000000 in
set_option maxRecDepth 100000 in
theorem c6_asks (l : Launch) (D : va_G) (cI cP : ClassId) (hs : Nat → Nat) (σ : PS) (p1 : Int32) (p2 : Int32) (hp_p1 : vp_in p1 8) : CI l yX6_asks wsX6_asks ({ frames := 2, cells := 0, slots := 0, locals := 46 } : Room) D (cty cI cP) (wMod cI hs σ) (wMod cI hs) [.ref (hs 0), .int p1, .int p2] 0 0 (fun r u => f6_asks σ p1 p2 = (r, u)) := by
  refine CI.of (cc := cX6_asks) (maxL := 5) (rt := .int) (own := RX6) (lv0 := [(0, .ref (hs 0)), (1, .int p1), (2, .int p2)]) pnX6 rfl rfl (Nat.le_of_ble_eq_true rfl) rfl (fun p e s m args below meth c A Q F hret => ?_)
  have w_1 := F.at (x := Cond.fieldLink RX6 7 "ThinVolumesModel" "s" "[I") 1 rfl
  have k_6 : ∀ w ∈ wsX60, w ∈ wsX6_asks := fun _ h => List.mem_cons_of_mem _ (List.mem_append_right _ (h))
  refine wk_aload_n F dX6_asks_0 rfl 0 rfl (pc' := 1) rfl ?_
  refine wk_iload_n F dX6_asks_1 rfl 1 rfl (pc' := 2) rfl ?_
  refine wk_iconst F dX6_asks_2 ic_3 (pc' := 3) rfl ?_
  refine wk_same_p F (c6_of l D cI cP hs σ p1 (3 : Int32) hp_p1 (vp_in_nI (n := 3) (N := 47) (Nat.le_of_ble_eq_true rfl) (Nat.le_of_ble_eq_true rfl))) (cwV 2 F.hts gX6_asks_X6_of rfl rfl rfl hdX6_of ⟨Nat.le_of_ble_eq_true rfl, Nat.le_of_ble_eq_true rfl⟩) 0 6 rfl rfl rfl rfl (Nat.le_of_ble_eq_true rfl) dX6_asks_3 ⟨Nat.zero_le _, Nat.zero_le _⟩ (pc' := 6) rfl ?_
  refine wk_if_le (tgt := 25) F dX6_asks_6 (by decide) (pc' := 9) rfl (fun c1 => ?_) (fun c1 => ?_)
  · refine wk_aload_n F dX6_asks_25 rfl 0 rfl (pc' := 26) rfl ?_
    refine wk_iload_n F dX6_asks_26 rfl 2 rfl (pc' := 27) rfl ?_
    refine wk_same_p F (c6_levelBy l D cI cP hs σ p2) (cwV 1 F.hts gX6_asks_X6_levelBy rfl rfl rfl hdX6_levelBy ⟨Nat.le_of_ble_eq_true rfl, Nat.le_of_ble_eq_true rfl⟩) 0 6 rfl rfl rfl rfl (Nat.le_of_ble_eq_true rfl) dX6_asks_27 ⟨Nat.zero_le _, Nat.zero_le _⟩ (pc' := 30) rfl ?_
    refine wk_istore_n (lv' := [(3, .int (f6_levelBy σ p2)), (0, .ref (hs 0)), (1, .int p1), (2, .int p2)]) F dX6_asks_30 rfl (Nat.le_of_ble_eq_true rfl) rfl (pc' := 31) rfl ?_
    refine wk_iload_n F dX6_asks_31 rfl 3 rfl (pc' := 32) rfl ?_
    refine wk_if_le (tgt := 76) F dX6_asks_32 (by decide) (pc' := 35) rfl (fun c2 => ?_) (fun c2 => ?_)
    · refine wk_iconst F dX6_asks_76 ic_0 (pc' := 77) rfl ?_
      refine wk_istore (lv' := [(4, .int (0 : Int32)), (3, .int (f6_levelBy σ p2)), (0, .ref (hs 0)), (1, .int p1), (2, .int p2)]) F dX6_asks_77 (Nat.le_of_ble_eq_true rfl) rfl (pc' := 79) rfl ?_
      refine wk_aload_n F dX6_asks_79 rfl 2 rfl (pc' := 80) rfl ?_
      refine wk_iload_n F dX6_asks_80 rfl 3 rfl (pc' := 81) rfl ?_
      refine wk_iload F dX6_asks_81 0 rfl (pc' := 83) rfl ?_
      refine wk_if_ne (tgt := 90) F dX6_asks_83 (by decide) (pc' := 86) rfl (fun c => absurd (by decide) c) (fun _ => ?_)
      refine wk_iconst F dX6_asks_86 ic_m1 (pc' := 87) rfl ?_
      refine wk_goto (tgt := 100) F dX6_asks_87 (by decide) ?_
      refine wk_same_v F (c6_behaves l D cI cP hs σ p1 (-1 : Int32) hp_p1) (cwV 2 F.hts gX6_asks_X6_behaves rfl rfl rfl hdX6_behaves ⟨Nat.le_of_ble_eq_true rfl, Nat.le_of_ble_eq_true rfl⟩) 0 6 rfl rfl rfl rfl (Nat.le_of_ble_eq_true rfl) dX6_asks_100 ⟨Nat.zero_le _, Nat.zero_le _⟩ (pc' := 103) rfl (fun u3 h4 => ?_)
      refine wk_iload F dX6_asks_103 0 rfl (pc' := 105) rfl ?_
      refine wk_if_eq (tgt := 112) F dX6_asks_105 (by decide) (pc' := 108) rfl (fun _ => ?_) (fun c => absurd (by decide) c)
      refine wk_iconst F dX6_asks_112 ic_0 (pc' := 113) rfl ?_
      exact hret _ _ _ _ dX6_asks_113 rfl (by rw [f6_asks] <;> exact (st_pos c1 (st_pos c2 (st_let h4 rfl))))
    · refine wk_iload_n F dX6_asks_35 rfl 0 rfl (pc' := 36) rfl ?_
      refine wk_if_eq (tgt := 72) F dX6_asks_36 (by decide) (pc' := 39) rfl (fun c5 => ?_) (fun c5 => ?_)
      · refine wk_iconst F dX6_asks_72 ic_1 (pc' := 73) rfl ?_
        refine wk_goto (tgt := 77) F dX6_asks_73 (by decide) ?_
        refine wk_istore (lv' := [(4, .int (1 : Int32)), (3, .int (f6_levelBy σ p2)), (0, .ref (hs 0)), (1, .int p1), (2, .int p2)]) F dX6_asks_77 (Nat.le_of_ble_eq_true rfl) rfl (pc' := 79) rfl ?_
        refine wk_aload_n F dX6_asks_79 rfl 2 rfl (pc' := 80) rfl ?_
        refine wk_iload_n F dX6_asks_80 rfl 3 rfl (pc' := 81) rfl ?_
        refine wk_iload F dX6_asks_81 0 rfl (pc' := 83) rfl ?_
        refine wk_if_ne (tgt := 90) F dX6_asks_83 (by decide) (pc' := 86) rfl (fun _ => ?_) (fun c => absurd c (by decide))
        refine wk_iload_n F dX6_asks_90 rfl 1 rfl (pc' := 91) rfl ?_
        refine wk_if_le (tgt := 99) F dX6_asks_91 (by decide) (pc' := 94) rfl (fun c6 => ?_) (fun c6 => ?_)
        · refine wk_iconst F dX6_asks_99 ic_0 (pc' := 100) rfl ?_
          refine wk_same_v F (c6_behaves l D cI cP hs σ p1 (0 : Int32) hp_p1) (cwV 2 F.hts gX6_asks_X6_behaves rfl rfl rfl hdX6_behaves ⟨Nat.le_of_ble_eq_true rfl, Nat.le_of_ble_eq_true rfl⟩) 0 6 rfl rfl rfl rfl (Nat.le_of_ble_eq_true rfl) dX6_asks_100 ⟨Nat.zero_le _, Nat.zero_le _⟩ (pc' := 103) rfl (fun u7 h8 => ?_)
          refine wk_iload F dX6_asks_103 0 rfl (pc' := 105) rfl ?_
          refine wk_if_eq (tgt := 112) F dX6_asks_105 (by decide) (pc' := 108) rfl (fun c => absurd c (by decide)) (fun _ => ?_)
          refine wk_iconst F dX6_asks_108 ic_1 (pc' := 109) rfl ?_
          refine wk_goto (tgt := 113) F dX6_asks_109 (by decide) ?_
          exact hret _ _ _ _ dX6_asks_113 rfl (by rw [f6_asks] <;> exact (st_pos c1 (st_neg c2 (st_pos c5 (st_pos c6 (st_let h8 rfl))))))
        · refine wk_bipush F dX6_asks_94 bp_m3 (pc' := 96) rfl ?_
          refine wk_goto (tgt := 100) F dX6_asks_96 (by decide) ?_
          refine wk_same_v F (c6_behaves l D cI cP hs σ p1 (-3 : Int32) hp_p1) (cwV 2 F.hts gX6_asks_X6_behaves rfl rfl rfl hdX6_behaves ⟨Nat.le_of_ble_eq_true rfl, Nat.le_of_ble_eq_true rfl⟩) 0 6 rfl rfl rfl rfl (Nat.le_of_ble_eq_true rfl) dX6_asks_100 ⟨Nat.zero_le _, Nat.zero_le _⟩ (pc' := 103) rfl (fun u9 h10 => ?_)
          refine wk_iload F dX6_asks_103 0 rfl (pc' := 105) rfl ?_
          refine wk_if_eq (tgt := 112) F dX6_asks_105 (by decide) (pc' := 108) rfl (fun c => absurd c (by decide)) (fun _ => ?_)
          refine wk_iconst F dX6_asks_108 ic_1 (pc' := 109) rfl ?_
          refine wk_goto (tgt := 113) F dX6_asks_109 (by decide) ?_
          exact hret _ _ _ _ dX6_asks_113 rfl (by rw [f6_asks] <;> exact (st_pos c1 (st_neg c2 (st_pos c5 (st_neg c6 (st_let h10 rfl))))))
      · refine wk_iload_n F dX6_asks_39 rfl 0 rfl (pc' := 40) rfl ?_
        refine wk_iconst F dX6_asks_40 ic_1 (pc' := 41) rfl ?_
        refine wk_icmp_ne (tgt := 59) F dX6_asks_41 (by decide) (pc' := 44) rfl (fun c11 => ?_) (fun c11 => ?_)
        · refine wk_iload_n F dX6_asks_59 rfl 0 rfl (pc' := 60) rfl ?_
          refine wk_iconst F dX6_asks_60 ic_2 (pc' := 61) rfl ?_
          refine wk_icmp_ne (tgt := 76) F dX6_asks_61 (by decide) (pc' := 64) rfl (fun c12 => ?_) (fun c12 => ?_)
          · refine wk_iconst F dX6_asks_76 ic_0 (pc' := 77) rfl ?_
            refine wk_istore (lv' := [(4, .int (0 : Int32)), (3, .int (f6_levelBy σ p2)), (0, .ref (hs 0)), (1, .int p1), (2, .int p2)]) F dX6_asks_77 (Nat.le_of_ble_eq_true rfl) rfl (pc' := 79) rfl ?_
            refine wk_aload_n F dX6_asks_79 rfl 2 rfl (pc' := 80) rfl ?_
            refine wk_iload_n F dX6_asks_80 rfl 3 rfl (pc' := 81) rfl ?_
            refine wk_iload F dX6_asks_81 0 rfl (pc' := 83) rfl ?_
            refine wk_if_ne (tgt := 90) F dX6_asks_83 (by decide) (pc' := 86) rfl (fun c => absurd (by decide) c) (fun _ => ?_)
            refine wk_iconst F dX6_asks_86 ic_m1 (pc' := 87) rfl ?_
            refine wk_goto (tgt := 100) F dX6_asks_87 (by decide) ?_
            refine wk_same_v F (c6_behaves l D cI cP hs σ p1 (-1 : Int32) hp_p1) (cwV 2 F.hts gX6_asks_X6_behaves rfl rfl rfl hdX6_behaves ⟨Nat.le_of_ble_eq_true rfl, Nat.le_of_ble_eq_true rfl⟩) 0 6 rfl rfl rfl rfl (Nat.le_of_ble_eq_true rfl) dX6_asks_100 ⟨Nat.zero_le _, Nat.zero_le _⟩ (pc' := 103) rfl (fun u13 h14 => ?_)
            refine wk_iload F dX6_asks_103 0 rfl (pc' := 105) rfl ?_
            refine wk_if_eq (tgt := 112) F dX6_asks_105 (by decide) (pc' := 108) rfl (fun _ => ?_) (fun c => absurd (by decide) c)
            refine wk_iconst F dX6_asks_112 ic_0 (pc' := 113) rfl ?_
            exact hret _ _ _ _ dX6_asks_113 rfl (by rw [f6_asks] <;> exact (st_pos c1 (st_neg c2 (st_neg c5 (st_neg c11 (st_neg c12 (st_let h14 rfl)))))))
          · refine wk_aload_n F dX6_asks_64 rfl 1 rfl (pc' := 65) rfl ?_
            refine wk_same_p F (c6_best l D cI cP hs σ) (cwV 0 F.hts gX6_asks_X6_best rfl rfl rfl hdX6_best ⟨Nat.le_of_ble_eq_true rfl, Nat.le_of_ble_eq_true rfl⟩) 0 6 rfl rfl rfl rfl (Nat.le_of_ble_eq_true rfl) dX6_asks_65 ⟨Nat.zero_le _, Nat.zero_le _⟩ (pc' := 68) rfl ?_
            refine wk_iload_n F dX6_asks_68 rfl 2 rfl (pc' := 69) rfl ?_
            refine wk_icmp_ne (tgt := 76) F dX6_asks_69 (by decide) (pc' := 72) rfl (fun c15 => ?_) (fun c15 => ?_)
            · refine wk_iconst F dX6_asks_76 ic_0 (pc' := 77) rfl ?_
              refine wk_istore (lv' := [(4, .int (0 : Int32)), (3, .int (f6_levelBy σ p2)), (0, .ref (hs 0)), (1, .int p1), (2, .int p2)]) F dX6_asks_77 (Nat.le_of_ble_eq_true rfl) rfl (pc' := 79) rfl ?_
              refine wk_aload_n F dX6_asks_79 rfl 2 rfl (pc' := 80) rfl ?_
              refine wk_iload_n F dX6_asks_80 rfl 3 rfl (pc' := 81) rfl ?_
              refine wk_iload F dX6_asks_81 0 rfl (pc' := 83) rfl ?_
              refine wk_if_ne (tgt := 90) F dX6_asks_83 (by decide) (pc' := 86) rfl (fun c => absurd (by decide) c) (fun _ => ?_)
              refine wk_iconst F dX6_asks_86 ic_m1 (pc' := 87) rfl ?_
              refine wk_goto (tgt := 100) F dX6_asks_87 (by decide) ?_
              refine wk_same_v F (c6_behaves l D cI cP hs σ p1 (-1 : Int32) hp_p1) (cwV 2 F.hts gX6_asks_X6_behaves rfl rfl rfl hdX6_behaves ⟨Nat.le_of_ble_eq_true rfl, Nat.le_of_ble_eq_true rfl⟩) 0 6 rfl rfl rfl rfl (Nat.le_of_ble_eq_true rfl) dX6_asks_100 ⟨Nat.zero_le _, Nat.zero_le _⟩ (pc' := 103) rfl (fun u16 h17 => ?_)
              refine wk_iload F dX6_asks_103 0 rfl (pc' := 105) rfl ?_
              refine wk_if_eq (tgt := 112) F dX6_asks_105 (by decide) (pc' := 108) rfl (fun _ => ?_) (fun c => absurd (by decide) c)
              refine wk_iconst F dX6_asks_112 ic_0 (pc' := 113) rfl ?_
              exact hret _ _ _ _ dX6_asks_113 rfl (by rw [f6_asks] <;> exact (st_pos c1 (st_neg c2 (st_neg c5 (st_neg c11 (st_pos c12 (st_neg c15 (st_let h17 rfl))))))))
            · refine wk_iconst F dX6_asks_72 ic_1 (pc' := 73) rfl ?_
              refine wk_goto (tgt := 77) F dX6_asks_73 (by decide) ?_
              refine wk_istore (lv' := [(4, .int (1 : Int32)), (3, .int (f6_levelBy σ p2)), (0, .ref (hs 0)), (1, .int p1), (2, .int p2)]) F dX6_asks_77 (Nat.le_of_ble_eq_true rfl) rfl (pc' := 79) rfl ?_
              refine wk_aload_n F dX6_asks_79 rfl 2 rfl (pc' := 80) rfl ?_
              refine wk_iload_n F dX6_asks_80 rfl 3 rfl (pc' := 81) rfl ?_
              refine wk_iload F dX6_asks_81 0 rfl (pc' := 83) rfl ?_
              refine wk_if_ne (tgt := 90) F dX6_asks_83 (by decide) (pc' := 86) rfl (fun _ => ?_) (fun c => absurd c (by decide))
              refine wk_iload_n F dX6_asks_90 rfl 1 rfl (pc' := 91) rfl ?_
              refine wk_if_le (tgt := 99) F dX6_asks_91 (by decide) (pc' := 94) rfl (fun c18 => ?_) (fun c18 => ?_)
              · refine wk_iconst F dX6_asks_99 ic_0 (pc' := 100) rfl ?_
                refine wk_same_v F (c6_behaves l D cI cP hs σ p1 (0 : Int32) hp_p1) (cwV 2 F.hts gX6_asks_X6_behaves rfl rfl rfl hdX6_behaves ⟨Nat.le_of_ble_eq_true rfl, Nat.le_of_ble_eq_true rfl⟩) 0 6 rfl rfl rfl rfl (Nat.le_of_ble_eq_true rfl) dX6_asks_100 ⟨Nat.zero_le _, Nat.zero_le _⟩ (pc' := 103) rfl (fun u19 h20 => ?_)
                refine wk_iload F dX6_asks_103 0 rfl (pc' := 105) rfl ?_
                refine wk_if_eq (tgt := 112) F dX6_asks_105 (by decide) (pc' := 108) rfl (fun c => absurd c (by decide)) (fun _ => ?_)
                refine wk_iconst F dX6_asks_108 ic_1 (pc' := 109) rfl ?_
                refine wk_goto (tgt := 113) F dX6_asks_109 (by decide) ?_
                exact hret _ _ _ _ dX6_asks_113 rfl (by rw [f6_asks] <;> exact (st_pos c1 (st_neg c2 (st_neg c5 (st_neg c11 (st_pos c12 (st_pos c15 (st_pos c18 (st_let h20 rfl)))))))))
              · refine wk_bipush F dX6_asks_94 bp_m3 (pc' := 96) rfl ?_
                refine wk_goto (tgt := 100) F dX6_asks_96 (by decide) ?_
                refine wk_same_v F (c6_behaves l D cI cP hs σ p1 (-3 : Int32) hp_p1) (cwV 2 F.hts gX6_asks_X6_behaves rfl rfl rfl hdX6_behaves ⟨Nat.le_of_ble_eq_true rfl, Nat.le_of_ble_eq_true rfl⟩) 0 6 rfl rfl rfl rfl (Nat.le_of_ble_eq_true rfl) dX6_asks_100 ⟨Nat.zero_le _, Nat.zero_le _⟩ (pc' := 103) rfl (fun u21 h22 => ?_)
                refine wk_iload F dX6_asks_103 0 rfl (pc' := 105) rfl ?_
                refine wk_if_eq (tgt := 112) F dX6_asks_105 (by decide) (pc' := 108) rfl (fun c => absurd c (by decide)) (fun _ => ?_)
                refine wk_iconst F dX6_asks_108 ic_1 (pc' := 109) rfl ?_
                refine wk_goto (tgt := 113) F dX6_asks_109 (by decide) ?_
                exact hret _ _ _ _ dX6_asks_113 rfl (by rw [f6_asks] <;> exact (st_pos c1 (st_neg c2 (st_neg c5 (st_neg c11 (st_pos c12 (st_pos c15 (st_neg c18 (st_let h22 rfl)))))))))
        · refine wk_aload_n F dX6_asks_44 rfl 1 rfl (pc' := 45) rfl ?_
          refine wk_iload_n F dX6_asks_45 rfl 2 rfl (pc' := 46) rfl ?_
          refine wk_iconst F dX6_asks_46 ic_2 (pc' := 47) rfl ?_
          refine wk_same_p F (c6_of l D cI cP hs σ p1 (2 : Int32) hp_p1 (vp_in_nI (n := 2) (N := 47) (Nat.le_of_ble_eq_true rfl) (Nat.le_of_ble_eq_true rfl))) (cwV 2 F.hts gX6_asks_X6_of rfl rfl rfl hdX6_of ⟨Nat.le_of_ble_eq_true rfl, Nat.le_of_ble_eq_true rfl⟩) 0 6 rfl rfl rfl rfl (Nat.le_of_ble_eq_true rfl) dX6_asks_47 ⟨Nat.zero_le _, Nat.zero_le _⟩ (pc' := 50) rfl ?_
          refine wk_aload_n F dX6_asks_50 rfl 1 rfl (pc' := 51) rfl ?_
          refine wk_get (C := RX6) (T := TX6) (N := 12) F 0 rfl rfl k_6 0 (Nat.le_of_ble_eq_true rfl) w_1 rfl dX6_asks_51 (pc' := 54) rfl ?_
          refine wk_iconst F dX6_asks_54 ic_2 (pc' := 55) rfl ?_
          refine wk_iald_n (i := 2) F 1 0 rfl rfl (by omega) (Nat.le_of_ble_eq_true rfl) dX6_asks_55 (pc' := 56) rfl ?_
          refine wk_icmp_ge (tgt := 72) F dX6_asks_56 (by decide) (pc' := 59) rfl (fun c23 => ?_) (fun c23 => ?_)
          · refine wk_iconst F dX6_asks_72 ic_1 (pc' := 73) rfl ?_
            refine wk_goto (tgt := 77) F dX6_asks_73 (by decide) ?_
            refine wk_istore (lv' := [(4, .int (1 : Int32)), (3, .int (f6_levelBy σ p2)), (0, .ref (hs 0)), (1, .int p1), (2, .int p2)]) F dX6_asks_77 (Nat.le_of_ble_eq_true rfl) rfl (pc' := 79) rfl ?_
            refine wk_aload_n F dX6_asks_79 rfl 2 rfl (pc' := 80) rfl ?_
            refine wk_iload_n F dX6_asks_80 rfl 3 rfl (pc' := 81) rfl ?_
            refine wk_iload F dX6_asks_81 0 rfl (pc' := 83) rfl ?_
            refine wk_if_ne (tgt := 90) F dX6_asks_83 (by decide) (pc' := 86) rfl (fun _ => ?_) (fun c => absurd c (by decide))
            refine wk_iload_n F dX6_asks_90 rfl 1 rfl (pc' := 91) rfl ?_
            refine wk_if_le (tgt := 99) F dX6_asks_91 (by decide) (pc' := 94) rfl (fun c24 => ?_) (fun c24 => ?_)
            · refine wk_iconst F dX6_asks_99 ic_0 (pc' := 100) rfl ?_
              refine wk_same_v F (c6_behaves l D cI cP hs σ p1 (0 : Int32) hp_p1) (cwV 2 F.hts gX6_asks_X6_behaves rfl rfl rfl hdX6_behaves ⟨Nat.le_of_ble_eq_true rfl, Nat.le_of_ble_eq_true rfl⟩) 0 6 rfl rfl rfl rfl (Nat.le_of_ble_eq_true rfl) dX6_asks_100 ⟨Nat.zero_le _, Nat.zero_le _⟩ (pc' := 103) rfl (fun u25 h26 => ?_)
              refine wk_iload F dX6_asks_103 0 rfl (pc' := 105) rfl ?_
              refine wk_if_eq (tgt := 112) F dX6_asks_105 (by decide) (pc' := 108) rfl (fun c => absurd c (by decide)) (fun _ => ?_)
              refine wk_iconst F dX6_asks_108 ic_1 (pc' := 109) rfl ?_
              refine wk_goto (tgt := 113) F dX6_asks_109 (by decide) ?_
              exact hret _ _ _ _ dX6_asks_113 rfl (by rw [f6_asks] <;> exact (st_pos c1 (st_neg c2 (st_neg c5 (st_pos c11 (st_pos c23 (st_pos c24 (st_let h26 rfl))))))))
            · refine wk_bipush F dX6_asks_94 bp_m3 (pc' := 96) rfl ?_
              refine wk_goto (tgt := 100) F dX6_asks_96 (by decide) ?_
              refine wk_same_v F (c6_behaves l D cI cP hs σ p1 (-3 : Int32) hp_p1) (cwV 2 F.hts gX6_asks_X6_behaves rfl rfl rfl hdX6_behaves ⟨Nat.le_of_ble_eq_true rfl, Nat.le_of_ble_eq_true rfl⟩) 0 6 rfl rfl rfl rfl (Nat.le_of_ble_eq_true rfl) dX6_asks_100 ⟨Nat.zero_le _, Nat.zero_le _⟩ (pc' := 103) rfl (fun u27 h28 => ?_)
              refine wk_iload F dX6_asks_103 0 rfl (pc' := 105) rfl ?_
              refine wk_if_eq (tgt := 112) F dX6_asks_105 (by decide) (pc' := 108) rfl (fun c => absurd c (by decide)) (fun _ => ?_)
              refine wk_iconst F dX6_asks_108 ic_1 (pc' := 109) rfl ?_
              refine wk_goto (tgt := 113) F dX6_asks_109 (by decide) ?_
              exact hret _ _ _ _ dX6_asks_113 rfl (by rw [f6_asks] <;> exact (st_pos c1 (st_neg c2 (st_neg c5 (st_pos c11 (st_pos c23 (st_neg c24 (st_let h28 rfl))))))))
          · refine wk_iload_n F dX6_asks_59 rfl 0 rfl (pc' := 60) rfl ?_
            refine wk_iconst F dX6_asks_60 ic_2 (pc' := 61) rfl ?_
            refine wk_icmp_ne (tgt := 76) F dX6_asks_61 (by decide) (pc' := 64) rfl (fun c29 => ?_) (fun c29 => ?_)
            · refine wk_iconst F dX6_asks_76 ic_0 (pc' := 77) rfl ?_
              refine wk_istore (lv' := [(4, .int (0 : Int32)), (3, .int (f6_levelBy σ p2)), (0, .ref (hs 0)), (1, .int p1), (2, .int p2)]) F dX6_asks_77 (Nat.le_of_ble_eq_true rfl) rfl (pc' := 79) rfl ?_
              refine wk_aload_n F dX6_asks_79 rfl 2 rfl (pc' := 80) rfl ?_
              refine wk_iload_n F dX6_asks_80 rfl 3 rfl (pc' := 81) rfl ?_
              refine wk_iload F dX6_asks_81 0 rfl (pc' := 83) rfl ?_
              refine wk_if_ne (tgt := 90) F dX6_asks_83 (by decide) (pc' := 86) rfl (fun c => absurd (by decide) c) (fun _ => ?_)
              refine wk_iconst F dX6_asks_86 ic_m1 (pc' := 87) rfl ?_
              refine wk_goto (tgt := 100) F dX6_asks_87 (by decide) ?_
              refine wk_same_v F (c6_behaves l D cI cP hs σ p1 (-1 : Int32) hp_p1) (cwV 2 F.hts gX6_asks_X6_behaves rfl rfl rfl hdX6_behaves ⟨Nat.le_of_ble_eq_true rfl, Nat.le_of_ble_eq_true rfl⟩) 0 6 rfl rfl rfl rfl (Nat.le_of_ble_eq_true rfl) dX6_asks_100 ⟨Nat.zero_le _, Nat.zero_le _⟩ (pc' := 103) rfl (fun u30 h31 => ?_)
              refine wk_iload F dX6_asks_103 0 rfl (pc' := 105) rfl ?_
              refine wk_if_eq (tgt := 112) F dX6_asks_105 (by decide) (pc' := 108) rfl (fun _ => ?_) (fun c => absurd (by decide) c)
              refine wk_iconst F dX6_asks_112 ic_0 (pc' := 113) rfl ?_
              exact hret _ _ _ _ dX6_asks_113 rfl (by rw [f6_asks] <;> exact (st_pos c1 (st_neg c2 (st_neg c5 (st_pos c11 (st_neg c23 (st_neg c29 (st_let h31 rfl))))))))
            · refine wk_aload_n F dX6_asks_64 rfl 1 rfl (pc' := 65) rfl ?_
              refine wk_same_p F (c6_best l D cI cP hs σ) (cwV 0 F.hts gX6_asks_X6_best rfl rfl rfl hdX6_best ⟨Nat.le_of_ble_eq_true rfl, Nat.le_of_ble_eq_true rfl⟩) 0 6 rfl rfl rfl rfl (Nat.le_of_ble_eq_true rfl) dX6_asks_65 ⟨Nat.zero_le _, Nat.zero_le _⟩ (pc' := 68) rfl ?_
              refine wk_iload_n F dX6_asks_68 rfl 2 rfl (pc' := 69) rfl ?_
              refine wk_icmp_ne (tgt := 76) F dX6_asks_69 (by decide) (pc' := 72) rfl (fun c32 => ?_) (fun c32 => ?_)
              · refine wk_iconst F dX6_asks_76 ic_0 (pc' := 77) rfl ?_
                refine wk_istore (lv' := [(4, .int (0 : Int32)), (3, .int (f6_levelBy σ p2)), (0, .ref (hs 0)), (1, .int p1), (2, .int p2)]) F dX6_asks_77 (Nat.le_of_ble_eq_true rfl) rfl (pc' := 79) rfl ?_
                refine wk_aload_n F dX6_asks_79 rfl 2 rfl (pc' := 80) rfl ?_
                refine wk_iload_n F dX6_asks_80 rfl 3 rfl (pc' := 81) rfl ?_
                refine wk_iload F dX6_asks_81 0 rfl (pc' := 83) rfl ?_
                refine wk_if_ne (tgt := 90) F dX6_asks_83 (by decide) (pc' := 86) rfl (fun c => absurd (by decide) c) (fun _ => ?_)
                refine wk_iconst F dX6_asks_86 ic_m1 (pc' := 87) rfl ?_
                refine wk_goto (tgt := 100) F dX6_asks_87 (by decide) ?_
                refine wk_same_v F (c6_behaves l D cI cP hs σ p1 (-1 : Int32) hp_p1) (cwV 2 F.hts gX6_asks_X6_behaves rfl rfl rfl hdX6_behaves ⟨Nat.le_of_ble_eq_true rfl, Nat.le_of_ble_eq_true rfl⟩) 0 6 rfl rfl rfl rfl (Nat.le_of_ble_eq_true rfl) dX6_asks_100 ⟨Nat.zero_le _, Nat.zero_le _⟩ (pc' := 103) rfl (fun u33 h34 => ?_)
                refine wk_iload F dX6_asks_103 0 rfl (pc' := 105) rfl ?_
                refine wk_if_eq (tgt := 112) F dX6_asks_105 (by decide) (pc' := 108) rfl (fun _ => ?_) (fun c => absurd (by decide) c)
                refine wk_iconst F dX6_asks_112 ic_0 (pc' := 113) rfl ?_
                exact hret _ _ _ _ dX6_asks_113 rfl (by rw [f6_asks] <;> exact (st_pos c1 (st_neg c2 (st_neg c5 (st_pos c11 (st_neg c23 (st_pos c29 (st_neg c32 (st_let h34 rfl)))))))))
              · refine wk_iconst F dX6_asks_72 ic_1 (pc' := 73) rfl ?_
                refine wk_goto (tgt := 77) F dX6_asks_73 (by decide) ?_
                refine wk_istore (lv' := [(4, .int (1 : Int32)), (3, .int (f6_levelBy σ p2)), (0, .ref (hs 0)), (1, .int p1), (2, .int p2)]) F dX6_asks_77 (Nat.le_of_ble_eq_true rfl) rfl (pc' := 79) rfl ?_
                refine wk_aload_n F dX6_asks_79 rfl 2 rfl (pc' := 80) rfl ?_
                refine wk_iload_n F dX6_asks_80 rfl 3 rfl (pc' := 81) rfl ?_
                refine wk_iload F dX6_asks_81 0 rfl (pc' := 83) rfl ?_
                refine wk_if_ne (tgt := 90) F dX6_asks_83 (by decide) (pc' := 86) rfl (fun _ => ?_) (fun c => absurd c (by decide))
                refine wk_iload_n F dX6_asks_90 rfl 1 rfl (pc' := 91) rfl ?_
                refine wk_if_le (tgt := 99) F dX6_asks_91 (by decide) (pc' := 94) rfl (fun c35 => ?_) (fun c35 => ?_)
                · refine wk_iconst F dX6_asks_99 ic_0 (pc' := 100) rfl ?_
                  refine wk_same_v F (c6_behaves l D cI cP hs σ p1 (0 : Int32) hp_p1) (cwV 2 F.hts gX6_asks_X6_behaves rfl rfl rfl hdX6_behaves ⟨Nat.le_of_ble_eq_true rfl, Nat.le_of_ble_eq_true rfl⟩) 0 6 rfl rfl rfl rfl (Nat.le_of_ble_eq_true rfl) dX6_asks_100 ⟨Nat.zero_le _, Nat.zero_le _⟩ (pc' := 103) rfl (fun u36 h37 => ?_)
                  refine wk_iload F dX6_asks_103 0 rfl (pc' := 105) rfl ?_
                  refine wk_if_eq (tgt := 112) F dX6_asks_105 (by decide) (pc' := 108) rfl (fun c => absurd c (by decide)) (fun _ => ?_)
                  refine wk_iconst F dX6_asks_108 ic_1 (pc' := 109) rfl ?_
                  refine wk_goto (tgt := 113) F dX6_asks_109 (by decide) ?_
                  exact hret _ _ _ _ dX6_asks_113 rfl (by rw [f6_asks] <;> exact (st_pos c1 (st_neg c2 (st_neg c5 (st_pos c11 (st_neg c23 (st_pos c29 (st_pos c32 (st_pos c35 (st_let h37 rfl))))))))))
                · refine wk_bipush F dX6_asks_94 bp_m3 (pc' := 96) rfl ?_
                  refine wk_goto (tgt := 100) F dX6_asks_96 (by decide) ?_
                  refine wk_same_v F (c6_behaves l D cI cP hs σ p1 (-3 : Int32) hp_p1) (cwV 2 F.hts gX6_asks_X6_behaves rfl rfl rfl hdX6_behaves ⟨Nat.le_of_ble_eq_true rfl, Nat.le_of_ble_eq_true rfl⟩) 0 6 rfl rfl rfl rfl (Nat.le_of_ble_eq_true rfl) dX6_asks_100 ⟨Nat.zero_le _, Nat.zero_le _⟩ (pc' := 103) rfl (fun u38 h39 => ?_)
                  refine wk_iload F dX6_asks_103 0 rfl (pc' := 105) rfl ?_
                  refine wk_if_eq (tgt := 112) F dX6_asks_105 (by decide) (pc' := 108) rfl (fun c => absurd c (by decide)) (fun _ => ?_)
                  refine wk_iconst F dX6_asks_108 ic_1 (pc' := 109) rfl ?_
                  refine wk_goto (tgt := 113) F dX6_asks_109 (by decide) ?_
                  exact hret _ _ _ _ dX6_asks_113 rfl (by rw [f6_asks] <;> exact (st_pos c1 (st_neg c2 (st_neg c5 (st_pos c11 (st_neg c23 (st_pos c29 (st_pos c32 (st_neg c35 (st_let h39 rfl))))))))))
  · refine wk_aload_n F dX6_asks_9 rfl 0 rfl (pc' := 10) rfl ?_
    refine wk_iload_n F dX6_asks_10 rfl 1 rfl (pc' := 11) rfl ?_
    refine wk_iconst F dX6_asks_11 ic_3 (pc' := 12) rfl ?_
    refine wk_aload_n F dX6_asks_12 rfl 0 rfl (pc' := 13) rfl ?_
    refine wk_iload_n F dX6_asks_13 rfl 1 rfl (pc' := 14) rfl ?_
    refine wk_iconst F dX6_asks_14 ic_3 (pc' := 15) rfl ?_
    refine wk_same_p F (c6_of l D cI cP hs σ p1 (3 : Int32) hp_p1 (vp_in_nI (n := 3) (N := 47) (Nat.le_of_ble_eq_true rfl) (Nat.le_of_ble_eq_true rfl))) (cwV 2 F.hts gX6_asks_X6_of rfl rfl rfl hdX6_of ⟨Nat.le_of_ble_eq_true rfl, Nat.le_of_ble_eq_true rfl⟩) 0 6 rfl rfl rfl rfl (Nat.le_of_ble_eq_true rfl) dX6_asks_15 ⟨Nat.zero_le _, Nat.zero_le _⟩ (pc' := 18) rfl ?_
    refine wk_iconst F dX6_asks_18 ic_1 (pc' := 19) rfl ?_
    refine wk_isub F dX6_asks_19 (pc' := 20) rfl ?_
    refine wk_same_v F (c6_puts l D cI cP hs σ p1 (3 : Int32) ((f6_of σ p1 (3 : Int32)) - (1 : Int32)) hp_p1 (vp_in_nI (n := 3) (N := 47) (Nat.le_of_ble_eq_true rfl) (Nat.le_of_ble_eq_true rfl))) (cwV 3 F.hts gX6_asks_X6_puts rfl rfl rfl hdX6_puts ⟨Nat.le_of_ble_eq_true rfl, Nat.le_of_ble_eq_true rfl⟩) 0 6 rfl rfl rfl rfl (Nat.le_of_ble_eq_true rfl) dX6_asks_20 ⟨Nat.zero_le _, Nat.zero_le _⟩ (pc' := 23) rfl (fun u40 h41 => ?_)
    refine wk_iconst F dX6_asks_23 ic_2 (pc' := 24) rfl ?_
    exact hret _ _ _ _ dX6_asks_24 rfl (by rw [f6_asks] <;> exact (st_neg c1 (st_let h41 rfl)))
theorem okL_behaves {σ u : PS} {v x : Int32} (hv : vp_in v 8) (h : f6_behaves σ v x = u) (ho : okL σ) : okL u := by
  subst h; unfold f6_behaves sq
  split
  · split <;> exact okL_puts (w := 2) (by decide) (by decide) hv rfl ho
  · exact okL_puts (w := 2) (by decide) (by decide) hv rfl ho
theorem okP_behaves {σ u : PS} {v x : Int32} (hv : vp_in v 8) (h : f6_behaves σ v x = u) (ho : okP σ) : okP u := by
  subst h; unfold f6_behaves sq
  split
  · split <;> exact okP_puts (w := 2) (by decide) hv rfl ho
  · exact okP_puts (w := 2) (by decide) hv rfl ho
theorem asks_shape (σ : PS) (v x : Int32) : (∃ y, (f6_asks σ v x).2 = f6_behaves σ v y) ∨ ∃ y, (f6_asks σ v x).2 = f6_puts σ v 3 y := by
  unfold f6_asks sq
  repeat' split
  all_goals dsimp only
  all_goals first | exact Or.inl ⟨_, by with_reducible rfl⟩ | exact Or.inr ⟨_, by with_reducible rfl⟩
theorem okL_asks {σ u : PS} {v x r : Int32} (hv : vp_in v 8) (h : f6_asks σ v x = (r, u)) (ho : okL σ) : okL u := by
  have e : (f6_asks σ v x).2 = u := by rw [h]
  rcases asks_shape σ v x with ⟨y, hy⟩ | ⟨y, hy⟩
  · exact okL_behaves hv (hy.symm.trans e) ho
  · exact okL_puts (w := 3) (by decide) (by decide) hv (hy.symm.trans e) ho
theorem okP_asks {σ u : PS} {v x r : Int32} (hv : vp_in v 8) (h : f6_asks σ v x = (r, u)) (ho : okP σ) : okP u := by
  have e : (f6_asks σ v x).2 = u := by rw [h]
  rcases asks_shape σ v x with ⟨y, hy⟩ | ⟨y, hy⟩
  · exact okP_behaves hv (hy.symm.trans e) ho
  · exact okP_puts (w := 3) (by decide) hv (hy.symm.trans e) ho
def f6_warns_L3 : Nat → Nat → PS → PS
  | 0, i, u => u
  | n + 1, i, u => (sq (wr u 0 i (u 0 (i - 3))) (fun (u1 : PS) => f6_warns_L3 n (i - 1) u1))
def f6_warns (σ : PS) (p1 : Int32) (p2 : Int32) : PS := (sq (f6_warns_L3 27 66 σ) (fun (u4 : PS) => (sq (wr u4 0 37 p1) (fun (u5 : PS) => (sq (wr u5 0 38 p2) (fun (u7 : PS) => (sq (wr u7 0 39 (f6_available u7)) (fun (u9 : PS) => (if (10 : Int32) ≤ (u9 0 6) then (sq (wr u9 0 6 ((u9 0 6) + (0 : Int32))) (fun (u12 : PS) => u12)) else (sq (wr u9 0 6 ((u9 0 6) + (1 : Int32))) (fun (u14 : PS) => u14)))))))))))
theorem okL_warnsLn : ∀ (n i : Nat) (u : PS), i + 1 = 40 + n → n ≤ 27 → okL u → okL (f6_warns_L3 n i u) := by
  intro n
  induction n with
  | zero => intro i u _ _ h; exact h
  | succ n ih =>
    intro i u hi hn h
    exact ih (i - 1) _ (by omega) (by omega) (okL_wrlow (by omega) rfl h)
theorem okL_warnsL {σ u : PS} (h : f6_warns_L3 27 66 σ = u) (ho : okL σ) : okL u := by
  subst h; exact okL_warnsLn 27 66 σ rfl (by decide) ho
set_option maxHeartbeats 4000000 in
set_option maxRecDepth 100000 in
theorem c6_warns (l : Launch) (D : va_G) (cI cP : ClassId) (hs : Nat → Nat) (σ : PS) (p1 : Int32) (p2 : Int32) (hs_okL : okL σ) : CV l yX6_warns wsX6_warns ({ frames := 6, cells := 0, slots := 0, locals := 133 } : Room) D (cty cI cP) (wMod cI hs σ) (wMod cI hs) [.ref (hs 0), .int p1, .int p2] 0 0 (fun u => f6_warns σ p1 p2 = u) := by
  refine CV.of (cc := cX6_warns) (maxL := 4) (own := RX6) (lv0 := [(0, .ref (hs 0)), (1, .int p1), (2, .int p2)]) pnX6 rfl rfl (Nat.le_of_ble_eq_true rfl) rfl (fun p e s m args below meth c A Q F hmn hret => ?_)
  have w_1 := F.at (x := Cond.fieldLink RX6 7 "ThinVolumesModel" "s" "[I") 1 rfl
  have k_6 : ∀ w ∈ wsX60, w ∈ wsX6_warns := fun _ h => List.mem_cons_of_mem _ (List.mem_append_right _ (h))
  have L3 : ∀ (n : Nat) (i : Nat) (u : PS), i + 1 = 40 + n → n ≤ 27 → (∀ (uu : PS), f6_warns_L3 n i u = uu → Wk p l e ({ frames := 6, cells := 0, slots := 0, locals := 133 } : Room) s m args below meth c 4 D A 0 0 Q (wMod cI hs uu) [(0, .ref (hs 0)), (1, .int p1), (2, .int p2)] 29 []) → Wk p l e ({ frames := 6, cells := 0, slots := 0, locals := 133 } : Room) s m args below meth c 4 D A 0 0 Q (wMod cI hs u) [(0, .ref (hs 0)), (1, .int p1), (2, .int p2), (3, .int (nI i))] 3 [] := by
    intro n
    induction n with
    | zero =>
      intro i u hi hv0 kx
      refine wk_iload_n F dX6_warns_3 rfl 3 rfl (pc' := 4) rfl ?_
      refine wk_bipush F dX6_warns_4 bp_40 (pc' := 6) rfl ?_
      refine wk_icmp_lt (tgt := 29) F dX6_warns_6 (by decide) (pc' := 9) rfl (fun _ => ?_) (fun c => absurd ((nI_ltI (a := i) (b := 40) (by omega) (by omega)).mpr (by omega)) c)
      refine wk_lv [0, 1, 2] rfl ?_
      exact kx u (by rw [f6_warns_L3] <;> exact rfl)
    | succ n ih =>
      intro i u hi hv0 kx
      refine wk_iload_n F dX6_warns_3 rfl 3 rfl (pc' := 4) rfl ?_
      refine wk_bipush F dX6_warns_4 bp_40 (pc' := 6) rfl ?_
      refine wk_icmp_lt (tgt := 29) F dX6_warns_6 (by decide) (pc' := 9) rfl (fun c => absurd ((nI_ltI (a := i) (b := 40) (by omega) (by omega)).mp c) (by omega)) (fun _ => ?_)
      refine wk_aload_n F dX6_warns_9 rfl 0 rfl (pc' := 10) rfl ?_
      refine wk_get (C := RX6) (T := TX6) (N := 12) F 0 rfl rfl k_6 0 (Nat.le_of_ble_eq_true rfl) w_1 rfl dX6_warns_10 (pc' := 13) rfl ?_
      refine wk_iload_n F dX6_warns_13 rfl 3 rfl (pc' := 14) rfl ?_
      refine wk_aload_n F dX6_warns_14 rfl 0 rfl (pc' := 15) rfl ?_
      refine wk_get (C := RX6) (T := TX6) (N := 12) F 0 rfl rfl k_6 0 (Nat.le_of_ble_eq_true rfl) w_1 rfl dX6_warns_15 (pc' := 18) rfl ?_
      refine wk_iload_n F dX6_warns_18 rfl 3 rfl (pc' := 19) rfl ?_
      refine wk_iconst F dX6_warns_19 ic_3 (pc' := 20) rfl ?_
      refine wk_isub F dX6_warns_20 (pc' := 21) rfl ?_
      refine wk_top (pk_sub (a := i) (b := 3) (by omega)) ?_
      refine wk_iald_n (i := i - 3) F 1 0 rfl rfl (by omega) (Nat.le_of_ble_eq_true rfl) dX6_warns_21 (pc' := 22) rfl ?_
      refine wk_iastu_n (wg := wMod cI hs) (f0 := wr u 0 i (u 0 (i - 3))) (i := i) F 1 0 rfl rfl aM_0 (by omega) (Nat.le_of_ble_eq_true rfl) dX6_warns_22 (pc' := 23) rfl (fun u1 h2 => ?_)
      refine wk_iinc (k := 3) (v := nI (i - 1)) (lv' := [(3, .int (nI (i - 1))), (0, .ref (hs 0)), (1, .int p1), (2, .int p2)]) F dX6_warns_23 rfl (nI_dec (by omega)) (Nat.le_of_ble_eq_true rfl) rfl (pc' := 26) rfl ?_
      refine wk_goto (tgt := 3) F dX6_warns_26 (by decide) ?_
      refine wk_lv [1, 2, 3, 0] rfl ?_
      exact ih (i - 1) u1 (by omega) (by omega) (fun u_ h_ => kx u_ (Eq.trans (by rw [f6_warns_L3] <;> exact (st_let h2 rfl)) h_))
  refine wk_bipush F dX6_warns_0 bp_66 (pc' := 2) rfl ?_
  refine wk_istore_n (lv' := [(3, .int (66 : Int32)), (0, .ref (hs 0)), (1, .int p1), (2, .int p2)]) F dX6_warns_2 rfl (Nat.le_of_ble_eq_true rfl) rfl (pc' := 3) rfl ?_
  refine wk_lv [1, 2, 3, 0] rfl ?_
  refine L3 27 66 σ (by omega) (by omega) (fun u4 h3 => ?_)
  refine wk_aload_n F dX6_warns_29 rfl 0 rfl (pc' := 30) rfl ?_
  refine wk_get (C := RX6) (T := TX6) (N := 12) F 0 rfl rfl k_6 0 (Nat.le_of_ble_eq_true rfl) w_1 rfl dX6_warns_30 (pc' := 33) rfl ?_
  refine wk_bipush F dX6_warns_33 bp_37 (pc' := 35) rfl ?_
  refine wk_iload_n F dX6_warns_35 rfl 1 rfl (pc' := 36) rfl ?_
  refine wk_iastu_n (wg := wMod cI hs) (f0 := wr u4 0 37 p1) (i := 37) F 1 0 rfl rfl aM_0 (by omega) (Nat.le_of_ble_eq_true rfl) dX6_warns_36 (pc' := 37) rfl (fun u5 h6 => ?_)
  refine wk_aload_n F dX6_warns_37 rfl 0 rfl (pc' := 38) rfl ?_
  refine wk_get (C := RX6) (T := TX6) (N := 12) F 0 rfl rfl k_6 0 (Nat.le_of_ble_eq_true rfl) w_1 rfl dX6_warns_38 (pc' := 41) rfl ?_
  refine wk_bipush F dX6_warns_41 bp_38 (pc' := 43) rfl ?_
  refine wk_iload_n F dX6_warns_43 rfl 2 rfl (pc' := 44) rfl ?_
  refine wk_iastu_n (wg := wMod cI hs) (f0 := wr u5 0 38 p2) (i := 38) F 1 0 rfl rfl aM_0 (by omega) (Nat.le_of_ble_eq_true rfl) dX6_warns_44 (pc' := 45) rfl (fun u7 h8 => ?_)
  refine wk_aload_n F dX6_warns_45 rfl 0 rfl (pc' := 46) rfl ?_
  refine wk_get (C := RX6) (T := TX6) (N := 12) F 0 rfl rfl k_6 0 (Nat.le_of_ble_eq_true rfl) w_1 rfl dX6_warns_46 (pc' := 49) rfl ?_
  refine wk_bipush F dX6_warns_49 bp_39 (pc' := 51) rfl ?_
  refine wk_aload_n F dX6_warns_51 rfl 0 rfl (pc' := 52) rfl ?_
  refine wk_same_p F (c6_available l D cI cP hs u7 (okL_wrlow (by omega) h8 (okL_wrlow (by omega) h6 (okL_warnsL h3 hs_okL)))) (cwV 0 F.hts gX6_warns_X6_available rfl rfl rfl hdX6_available ⟨Nat.le_of_ble_eq_true rfl, Nat.le_of_ble_eq_true rfl⟩) 0 6 rfl rfl rfl rfl (Nat.le_of_ble_eq_true rfl) dX6_warns_52 ⟨Nat.zero_le _, Nat.zero_le _⟩ (pc' := 55) rfl ?_
  refine wk_iastu_n (wg := wMod cI hs) (f0 := wr u7 0 39 (f6_available u7)) (i := 39) F 1 0 rfl rfl aM_0 (by omega) (Nat.le_of_ble_eq_true rfl) dX6_warns_55 (pc' := 56) rfl (fun u9 h10 => ?_)
  refine wk_aload_n F dX6_warns_56 rfl 0 rfl (pc' := 57) rfl ?_
  refine wk_get (C := RX6) (T := TX6) (N := 12) F 0 rfl rfl k_6 0 (Nat.le_of_ble_eq_true rfl) w_1 rfl dX6_warns_57 (pc' := 60) rfl ?_
  refine wk_bipush F dX6_warns_60 bp_6 (pc' := 62) rfl ?_
  refine wk_dup2 F dX6_warns_62 rfl rfl (pc' := 63) rfl ?_
  refine wk_iald_n (i := 6) F 1 0 rfl rfl (by omega) (Nat.le_of_ble_eq_true rfl) dX6_warns_63 (pc' := 64) rfl ?_
  refine wk_aload_n F dX6_warns_64 rfl 0 rfl (pc' := 65) rfl ?_
  refine wk_get (C := RX6) (T := TX6) (N := 12) F 0 rfl rfl k_6 0 (Nat.le_of_ble_eq_true rfl) w_1 rfl dX6_warns_65 (pc' := 68) rfl ?_
  refine wk_bipush F dX6_warns_68 bp_6 (pc' := 70) rfl ?_
  refine wk_iald_n (i := 6) F 1 0 rfl rfl (by omega) (Nat.le_of_ble_eq_true rfl) dX6_warns_70 (pc' := 71) rfl ?_
  refine wk_bipush F dX6_warns_71 bp_10 (pc' := 73) rfl ?_
  refine wk_icmp_ge (tgt := 80) F dX6_warns_73 (by decide) (pc' := 76) rfl (fun c11 => ?_) (fun c11 => ?_)
  · refine wk_iconst F dX6_warns_80 ic_0 (pc' := 81) rfl ?_
    refine wk_iadd F dX6_warns_81 (pc' := 82) rfl ?_
    refine wk_iastu_n (wg := wMod cI hs) (f0 := wr u9 0 6 ((u9 0 6) + (0 : Int32))) (i := 6) F 1 0 rfl rfl aM_0 (by omega) (Nat.le_of_ble_eq_true rfl) dX6_warns_82 (pc' := 83) rfl (fun u12 h13 => ?_)
    exact hret _ _ _ dX6_warns_83 (by rw [f6_warns] <;> exact (st_let h3 (st_let h6 (st_let h8 (st_let h10 (st_pos c11 (st_let h13 rfl)))))))
  · refine wk_iconst F dX6_warns_76 ic_1 (pc' := 77) rfl ?_
    refine wk_goto (tgt := 81) F dX6_warns_77 (by decide) ?_
    refine wk_iadd F dX6_warns_81 (pc' := 82) rfl ?_
    refine wk_iastu_n (wg := wMod cI hs) (f0 := wr u9 0 6 ((u9 0 6) + (1 : Int32))) (i := 6) F 1 0 rfl rfl aM_0 (by omega) (Nat.le_of_ble_eq_true rfl) dX6_warns_82 (pc' := 83) rfl (fun u14 h15 => ?_)
    exact hret _ _ _ dX6_warns_83 (by rw [f6_warns] <;> exact (st_let h3 (st_let h6 (st_let h8 (st_let h10 (st_neg c11 (st_let h15 rfl)))))))
theorem okL_warns {σ u : PS} {a b : Int32} (h : f6_warns σ a b = u) (ho : okL σ) : okL u := by
  subst h; unfold f6_warns sq; dsimp only
  have h1 := okL_warnsLn 27 66 σ rfl (by decide) ho
  generalize f6_warns_L3 27 66 σ = u1 at h1 ⊢
  have h2 : okL (wr u1 0 37 a) := okL_wrlow (by decide) rfl h1
  generalize wr u1 0 37 a = u2 at h2 ⊢
  have h3 : okL (wr u2 0 38 b) := okL_wrlow (by decide) rfl h2
  generalize wr u2 0 38 b = u3 at h3 ⊢
  have h4 : okL (wr u3 0 39 (f6_available u3)) := okL_wrlow (by decide) rfl h3
  generalize wr u3 0 39 (f6_available u3) = u4 at h4 ⊢
  split <;> exact okL_wrlow (by decide) rfl h4
def f6_ends (σ : PS) (p1 : Int32) : PS := (if (f6_levelBy σ (f6_available σ)) ≤ p1 then σ else (sq (f6_warns σ (0 : Int32) (-1 : Int32)) (fun (u2 : PS) => u2)))
set_option maxHeartbeats 4000000 in
set_option maxRecDepth 100000 in
theorem c6_ends (l : Launch) (D : va_G) (cI cP : ClassId) (hs : Nat → Nat) (σ : PS) (p1 : Int32) (hs_okL : okL σ) : CV l yX6_ends wsX6_ends ({ frames := 7, cells := 0, slots := 0, locals := 156 } : Room) D (cty cI cP) (wMod cI hs σ) (wMod cI hs) [.ref (hs 0), .int p1] 0 0 (fun u => f6_ends σ p1 = u) := by
  refine CV.of (cc := cX6_ends) (maxL := 2) (own := RX6) (lv0 := [(0, .ref (hs 0)), (1, .int p1)]) pnX6 rfl rfl (Nat.le_of_ble_eq_true rfl) rfl (fun p e s m args below meth c A Q F hmn hret => ?_)
  refine wk_aload_n F dX6_ends_0 rfl 0 rfl (pc' := 1) rfl ?_
  refine wk_aload_n F dX6_ends_1 rfl 0 rfl (pc' := 2) rfl ?_
  refine wk_same_p F (c6_available l D cI cP hs σ hs_okL) (cwV 0 F.hts gX6_ends_X6_available rfl rfl rfl hdX6_available ⟨Nat.le_of_ble_eq_true rfl, Nat.le_of_ble_eq_true rfl⟩) 0 6 rfl rfl rfl rfl (Nat.le_of_ble_eq_true rfl) dX6_ends_2 ⟨Nat.zero_le _, Nat.zero_le _⟩ (pc' := 5) rfl ?_
  refine wk_same_p F (c6_levelBy l D cI cP hs σ (f6_available σ)) (cwV 1 F.hts gX6_ends_X6_levelBy rfl rfl rfl hdX6_levelBy ⟨Nat.le_of_ble_eq_true rfl, Nat.le_of_ble_eq_true rfl⟩) 0 6 rfl rfl rfl rfl (Nat.le_of_ble_eq_true rfl) dX6_ends_5 ⟨Nat.zero_le _, Nat.zero_le _⟩ (pc' := 8) rfl ?_
  refine wk_iload_n F dX6_ends_8 rfl 1 rfl (pc' := 9) rfl ?_
  refine wk_icmp_le (tgt := 18) F dX6_ends_9 (by decide) (pc' := 12) rfl (fun c1 => ?_) (fun c1 => ?_)
  · exact hret _ _ _ dX6_ends_18 (by rw [f6_ends] <;> exact (st_pos c1 rfl))
  · refine wk_aload_n F dX6_ends_12 rfl 0 rfl (pc' := 13) rfl ?_
    refine wk_iconst F dX6_ends_13 ic_0 (pc' := 14) rfl ?_
    refine wk_iconst F dX6_ends_14 ic_m1 (pc' := 15) rfl ?_
    refine wk_same_v F (c6_warns l D cI cP hs σ (0 : Int32) (-1 : Int32) hs_okL) (cwV 2 F.hts gX6_ends_X6_warns rfl rfl rfl hdX6_warns ⟨Nat.le_of_ble_eq_true rfl, Nat.le_of_ble_eq_true rfl⟩) 0 6 rfl rfl rfl rfl (Nat.le_of_ble_eq_true rfl) dX6_ends_15 ⟨Nat.zero_le _, Nat.zero_le _⟩ (pc' := 18) rfl (fun u2 h3 => ?_)
    exact hret _ _ _ dX6_ends_18 (by rw [f6_ends] <;> exact (st_neg c1 (st_let h3 rfl)))
def f6_begins_L53 (p1 : Int32) : Nat → Nat → PS → PS
  | 0, i, u => u
  | n + 1, i, u => (sq (f6_puts u p1 (nI (7 + i)) (-1 : Int32)) (fun (u1 : PS) => f6_begins_L53 p1 n (i + 1) u1))
def f6_begins (σ : PS) (p1 : Int32) (p2 : Int32) : PS := (sq (f6_puts σ p1 (0 : Int32) (1 : Int32)) (fun (u3 : PS) => (sq (f6_puts u3 p1 (1 : Int32) p2) (fun (u5 : PS) => (sq (f6_puts u5 p1 (2 : Int32) (50 : Int32)) (fun (u7 : PS) => (sq (f6_puts u7 p1 (3 : Int32) (0 : Int32)) (fun (u9 : PS) => (sq (f6_puts u9 p1 (4 : Int32) (-1 : Int32)) (fun (u11 : PS) => (sq (f6_puts u11 p1 (5 : Int32) (0 : Int32)) (fun (u13 : PS) => (sq (f6_puts u13 p1 (6 : Int32) (0 : Int32)) (fun (u15 : PS) => (sq (f6_begins_L53 p1 40 0 u15) (fun (u18 : PS) => u18))))))))))))))))
set_option maxHeartbeats 4000000 in
set_option maxRecDepth 100000 in
theorem c6_begins (l : Launch) (D : va_G) (cI cP : ClassId) (hs : Nat → Nat) (σ : PS) (p1 : Int32) (p2 : Int32) (hp_p1 : vp_in p1 8) : CV l yX6_begins wsX6_begins ({ frames := 1, cells := 0, slots := 0, locals := 23 } : Room) D (cty cI cP) (wMod cI hs σ) (wMod cI hs) [.ref (hs 0), .int p1, .int p2] 0 0 (fun u => f6_begins σ p1 p2 = u) := by
  refine CV.of (cc := cX6_begins) (maxL := 4) (own := RX6) (lv0 := [(0, .ref (hs 0)), (1, .int p1), (2, .int p2)]) pnX6 rfl rfl (Nat.le_of_ble_eq_true rfl) rfl (fun p e s m args below meth c A Q F hmn hret => ?_)
  have L53 : ∀ (n : Nat) (i : Nat) (u : PS), i + n = 40 → (∀ (uu : PS), f6_begins_L53 p1 n i u = uu → Wk p l e ({ frames := 1, cells := 0, slots := 0, locals := 23 } : Room) s m args below meth c 4 D A 0 0 Q (wMod cI hs uu) [] 75 []) → Wk p l e ({ frames := 1, cells := 0, slots := 0, locals := 23 } : Room) s m args below meth c 4 D A 0 0 Q (wMod cI hs u) [(0, .ref (hs 0)), (1, .int p1), (3, .int (nI i))] 53 [] := by
    intro n
    induction n with
    | zero =>
      intro i u hi kx
      refine wk_iload_n F dX6_begins_53 rfl 2 rfl (pc' := 54) rfl ?_
      refine wk_bipush F dX6_begins_54 bp_40 (pc' := 56) rfl ?_
      refine wk_icmp_ge (tgt := 75) F dX6_begins_56 (by decide) (pc' := 59) rfl (fun _ => ?_) (fun c => absurd ((nI_leI (a := 40) (b := i) (by omega) (by omega)).mpr (by omega)) c)
      refine wk_lv [] rfl ?_
      exact kx u (by rw [f6_begins_L53] <;> exact rfl)
    | succ n ih =>
      intro i u hi kx
      refine wk_iload_n F dX6_begins_53 rfl 2 rfl (pc' := 54) rfl ?_
      refine wk_bipush F dX6_begins_54 bp_40 (pc' := 56) rfl ?_
      refine wk_icmp_ge (tgt := 75) F dX6_begins_56 (by decide) (pc' := 59) rfl (fun c => absurd ((nI_leI (a := 40) (b := i) (by omega) (by omega)).mp c) (by omega)) (fun _ => ?_)
      refine wk_aload_n F dX6_begins_59 rfl 0 rfl (pc' := 60) rfl ?_
      refine wk_iload_n F dX6_begins_60 rfl 1 rfl (pc' := 61) rfl ?_
      refine wk_bipush F dX6_begins_61 bp_7 (pc' := 63) rfl ?_
      refine wk_iload_n F dX6_begins_63 rfl 2 rfl (pc' := 64) rfl ?_
      refine wk_iadd F dX6_begins_64 (pc' := 65) rfl ?_
      refine wk_top (nI_add 7 i) ?_
      refine wk_iconst F dX6_begins_65 ic_m1 (pc' := 66) rfl ?_
      refine wk_same_v F (c6_puts l D cI cP hs u p1 (nI (7 + i)) (-1 : Int32) hp_p1 (vp_in_nI (n := 7 + i) (N := 47) (by omega) (Nat.le_of_ble_eq_true rfl))) (cwV 3 F.hts gX6_begins_X6_puts rfl rfl rfl hdX6_puts ⟨Nat.le_of_ble_eq_true rfl, Nat.le_of_ble_eq_true rfl⟩) 0 6 rfl rfl rfl rfl (Nat.le_of_ble_eq_true rfl) dX6_begins_66 ⟨Nat.zero_le _, Nat.zero_le _⟩ (pc' := 69) rfl (fun u1 h2 => ?_)
      refine wk_iinc (k := 2) (v := nI (i + 1)) (lv' := [(3, .int (nI (i + 1))), (0, .ref (hs 0)), (1, .int p1)]) F dX6_begins_69 rfl (nI_inc i) (Nat.le_of_ble_eq_true rfl) rfl (pc' := 72) rfl ?_
      refine wk_goto (tgt := 53) F dX6_begins_72 (by decide) ?_
      refine wk_lv [1, 2, 0] rfl ?_
      exact ih (i + 1) u1 (by omega) (fun u_ h_ => kx u_ (Eq.trans (by rw [f6_begins_L53] <;> exact (st_let h2 rfl)) h_))
  refine wk_aload_n F dX6_begins_0 rfl 0 rfl (pc' := 1) rfl ?_
  refine wk_iload_n F dX6_begins_1 rfl 1 rfl (pc' := 2) rfl ?_
  refine wk_iconst F dX6_begins_2 ic_0 (pc' := 3) rfl ?_
  refine wk_iconst F dX6_begins_3 ic_1 (pc' := 4) rfl ?_
  refine wk_same_v F (c6_puts l D cI cP hs σ p1 (0 : Int32) (1 : Int32) hp_p1 (vp_in_nI (n := 0) (N := 47) (Nat.le_of_ble_eq_true rfl) (Nat.le_of_ble_eq_true rfl))) (cwV 3 F.hts gX6_begins_X6_puts rfl rfl rfl hdX6_puts ⟨Nat.le_of_ble_eq_true rfl, Nat.le_of_ble_eq_true rfl⟩) 0 6 rfl rfl rfl rfl (Nat.le_of_ble_eq_true rfl) dX6_begins_4 ⟨Nat.zero_le _, Nat.zero_le _⟩ (pc' := 7) rfl (fun u3 h4 => ?_)
  refine wk_aload_n F dX6_begins_7 rfl 0 rfl (pc' := 8) rfl ?_
  refine wk_iload_n F dX6_begins_8 rfl 1 rfl (pc' := 9) rfl ?_
  refine wk_iconst F dX6_begins_9 ic_1 (pc' := 10) rfl ?_
  refine wk_iload_n F dX6_begins_10 rfl 2 rfl (pc' := 11) rfl ?_
  refine wk_same_v F (c6_puts l D cI cP hs u3 p1 (1 : Int32) p2 hp_p1 (vp_in_nI (n := 1) (N := 47) (Nat.le_of_ble_eq_true rfl) (Nat.le_of_ble_eq_true rfl))) (cwV 3 F.hts gX6_begins_X6_puts rfl rfl rfl hdX6_puts ⟨Nat.le_of_ble_eq_true rfl, Nat.le_of_ble_eq_true rfl⟩) 0 6 rfl rfl rfl rfl (Nat.le_of_ble_eq_true rfl) dX6_begins_11 ⟨Nat.zero_le _, Nat.zero_le _⟩ (pc' := 14) rfl (fun u5 h6 => ?_)
  refine wk_aload_n F dX6_begins_14 rfl 0 rfl (pc' := 15) rfl ?_
  refine wk_iload_n F dX6_begins_15 rfl 1 rfl (pc' := 16) rfl ?_
  refine wk_iconst F dX6_begins_16 ic_2 (pc' := 17) rfl ?_
  refine wk_bipush F dX6_begins_17 bp_50 (pc' := 19) rfl ?_
  refine wk_same_v F (c6_puts l D cI cP hs u5 p1 (2 : Int32) (50 : Int32) hp_p1 (vp_in_nI (n := 2) (N := 47) (Nat.le_of_ble_eq_true rfl) (Nat.le_of_ble_eq_true rfl))) (cwV 3 F.hts gX6_begins_X6_puts rfl rfl rfl hdX6_puts ⟨Nat.le_of_ble_eq_true rfl, Nat.le_of_ble_eq_true rfl⟩) 0 6 rfl rfl rfl rfl (Nat.le_of_ble_eq_true rfl) dX6_begins_19 ⟨Nat.zero_le _, Nat.zero_le _⟩ (pc' := 22) rfl (fun u7 h8 => ?_)
  refine wk_aload_n F dX6_begins_22 rfl 0 rfl (pc' := 23) rfl ?_
  refine wk_iload_n F dX6_begins_23 rfl 1 rfl (pc' := 24) rfl ?_
  refine wk_iconst F dX6_begins_24 ic_3 (pc' := 25) rfl ?_
  refine wk_iconst F dX6_begins_25 ic_0 (pc' := 26) rfl ?_
  refine wk_same_v F (c6_puts l D cI cP hs u7 p1 (3 : Int32) (0 : Int32) hp_p1 (vp_in_nI (n := 3) (N := 47) (Nat.le_of_ble_eq_true rfl) (Nat.le_of_ble_eq_true rfl))) (cwV 3 F.hts gX6_begins_X6_puts rfl rfl rfl hdX6_puts ⟨Nat.le_of_ble_eq_true rfl, Nat.le_of_ble_eq_true rfl⟩) 0 6 rfl rfl rfl rfl (Nat.le_of_ble_eq_true rfl) dX6_begins_26 ⟨Nat.zero_le _, Nat.zero_le _⟩ (pc' := 29) rfl (fun u9 h10 => ?_)
  refine wk_aload_n F dX6_begins_29 rfl 0 rfl (pc' := 30) rfl ?_
  refine wk_iload_n F dX6_begins_30 rfl 1 rfl (pc' := 31) rfl ?_
  refine wk_iconst F dX6_begins_31 ic_4 (pc' := 32) rfl ?_
  refine wk_iconst F dX6_begins_32 ic_m1 (pc' := 33) rfl ?_
  refine wk_same_v F (c6_puts l D cI cP hs u9 p1 (4 : Int32) (-1 : Int32) hp_p1 (vp_in_nI (n := 4) (N := 47) (Nat.le_of_ble_eq_true rfl) (Nat.le_of_ble_eq_true rfl))) (cwV 3 F.hts gX6_begins_X6_puts rfl rfl rfl hdX6_puts ⟨Nat.le_of_ble_eq_true rfl, Nat.le_of_ble_eq_true rfl⟩) 0 6 rfl rfl rfl rfl (Nat.le_of_ble_eq_true rfl) dX6_begins_33 ⟨Nat.zero_le _, Nat.zero_le _⟩ (pc' := 36) rfl (fun u11 h12 => ?_)
  refine wk_aload_n F dX6_begins_36 rfl 0 rfl (pc' := 37) rfl ?_
  refine wk_iload_n F dX6_begins_37 rfl 1 rfl (pc' := 38) rfl ?_
  refine wk_iconst F dX6_begins_38 ic_5 (pc' := 39) rfl ?_
  refine wk_iconst F dX6_begins_39 ic_0 (pc' := 40) rfl ?_
  refine wk_same_v F (c6_puts l D cI cP hs u11 p1 (5 : Int32) (0 : Int32) hp_p1 (vp_in_nI (n := 5) (N := 47) (Nat.le_of_ble_eq_true rfl) (Nat.le_of_ble_eq_true rfl))) (cwV 3 F.hts gX6_begins_X6_puts rfl rfl rfl hdX6_puts ⟨Nat.le_of_ble_eq_true rfl, Nat.le_of_ble_eq_true rfl⟩) 0 6 rfl rfl rfl rfl (Nat.le_of_ble_eq_true rfl) dX6_begins_40 ⟨Nat.zero_le _, Nat.zero_le _⟩ (pc' := 43) rfl (fun u13 h14 => ?_)
  refine wk_aload_n F dX6_begins_43 rfl 0 rfl (pc' := 44) rfl ?_
  refine wk_iload_n F dX6_begins_44 rfl 1 rfl (pc' := 45) rfl ?_
  refine wk_bipush F dX6_begins_45 bp_6 (pc' := 47) rfl ?_
  refine wk_iconst F dX6_begins_47 ic_0 (pc' := 48) rfl ?_
  refine wk_same_v F (c6_puts l D cI cP hs u13 p1 (6 : Int32) (0 : Int32) hp_p1 (vp_in_nI (n := 6) (N := 47) (Nat.le_of_ble_eq_true rfl) (Nat.le_of_ble_eq_true rfl))) (cwV 3 F.hts gX6_begins_X6_puts rfl rfl rfl hdX6_puts ⟨Nat.le_of_ble_eq_true rfl, Nat.le_of_ble_eq_true rfl⟩) 0 6 rfl rfl rfl rfl (Nat.le_of_ble_eq_true rfl) dX6_begins_48 ⟨Nat.zero_le _, Nat.zero_le _⟩ (pc' := 51) rfl (fun u15 h16 => ?_)
  refine wk_iconst F dX6_begins_51 ic_0 (pc' := 52) rfl ?_
  refine wk_istore_n (lv' := [(3, .int (0 : Int32)), (0, .ref (hs 0)), (1, .int p1), (2, .int p2)]) F dX6_begins_52 rfl (Nat.le_of_ble_eq_true rfl) rfl (pc' := 53) rfl ?_
  refine wk_lv [1, 2, 0] rfl ?_
  refine L53 40 0 u15 (by omega) (fun u18 h17 => ?_)
  exact hret _ _ _ dX6_begins_75 (by rw [f6_begins] <;> exact (st_let h4 (st_let h6 (st_let h8 (st_let h10 (st_let h12 (st_let h14 (st_let h16 (st_let h17 rfl)))))))))
def f6_changes_L18 : Nat → Nat → PS → PS
  | 0, i, u => u
  | n + 1, i, u => (sq (wr u 1 i (u 1 (i + 443))) (fun (u1 : PS) => f6_changes_L18 n (i + 1) u1))
def f6_changes_L59 : Nat → Nat → PS → PS
  | 0, i, u => u
  | n + 1, i, u => (sq (wr u 1 (((443 : Int32) * (u 6 0)) + (nI i)).toNatClampNeg (u 0 i)) (fun (u3 : PS) => f6_changes_L59 n (i + 1) u3))
def f6_changes (σ : PS) : PS := (if (σ 6 1) = 0 then (if (σ 6 0) = (4 : Int32) then (sq (f6_changes_L18 1329 0 σ) (fun (u12 : PS) => (sq (wr u12 6 0 ((u12 6 0) - (1 : Int32))) (fun (u13 : PS) => (sq (f6_changes_L59 443 0 u13) (fun (u16 : PS) => (sq (wr u16 6 0 ((u16 6 0) + (1 : Int32))) (fun (u17 : PS) => u17)))))))) else (sq (f6_changes_L59 443 0 σ) (fun (u8 : PS) => (sq (wr u8 6 0 ((u8 6 0) + (1 : Int32))) (fun (u9 : PS) => u9))))) else σ)
theorem changes_L18_j : ∀ (n i : Nat) (u : PS) (j : Nat), j ≠ 1 → f6_changes_L18 n i u j = u j := by
  intro n
  induction n with
  | zero => intro i u j _; rfl
  | succ n ih =>
    intro i u j hj
    show f6_changes_L18 n (i + 1) (wr u 1 i (u 1 (i + 443))) j = u j
    rw [ih _ _ _ hj, wr_ne hj]
theorem changes_L59_j : ∀ (n i : Nat) (u : PS) (j : Nat), j ≠ 1 → f6_changes_L59 n i u j = u j := by
  intro n
  induction n with
  | zero => intro i u j _; rfl
  | succ n ih =>
    intro i u j hj
    show f6_changes_L59 n (i + 1) (wr u 1 _ _) j = u j
    rw [ih _ _ _ hj, wr_ne hj]
theorem chA {σ u1 u2 : PS} (c : σ 6 0 = 4) (h1 : f6_changes_L18 1329 0 σ = u1) (h2 : wr u1 6 0 (u1 6 0 - 1) = u2) : vp_in (u2 6 0) 4 := by
  subst h2
  have e : u1 6 0 = 4 := by rw [← h1, changes_L18_j _ _ _ _ (by decide)]; exact c
  rw [wr_at, if_pos rfl, e]
  unfold vp_in; decide
theorem chB {σ : PS} (h : okH σ) (c : ¬ σ 6 0 = 4) : vp_in (σ 6 0) 4 := by
  obtain ⟨j, hj, e⟩ := vp_in_of h (by decide)
  rw [e] at c ⊢
  refine vp_in_nI ?_ (by decide)
  rcases Nat.lt_or_ge j 4 with q | q
  · exact q
  · exact absurd (show nI j = 4 by rw [show j = 4 by omega]; rfl) c
theorem ix_past {x : Int32} {i : Nat} (h : vp_in x 4) (hi : i < 443) : vp_in (443 * x + nI i) 1772 := by
  obtain ⟨j, hj, rfl⟩ := vp_in_of h (by decide)
  have e : (443 : Int32) * nI j + nI i = nI (443 * j + i) := by rw [← nI_add, ← pk_mul]; rfl
  rw [e]; exact vp_in_nI (by omega) (by decide)
set_option maxHeartbeats 4000000 in
set_option maxRecDepth 100000 in
theorem c6_changes (l : Launch) (D : va_G) (cI cP : ClassId) (hs : Nat → Nat) (σ : PS) (hs_okH : okH σ) : CV l yX6_changes wsX6_changes ({ frames := 0, cells := 0, slots := 0, locals := 0 } : Room) D (cty cI cP) (wMod cI hs σ) (wMod cI hs) [.ref (hs 0)] 0 0 (fun u => f6_changes σ = u) := by
  refine CV.of (cc := cX6_changes) (maxL := 2) (own := RX6) (lv0 := [(0, .ref (hs 0))]) pnX6 rfl rfl (Nat.le_of_ble_eq_true rfl) rfl (fun p e s m args below meth c A Q F hmn hret => ?_)
  have w_3 := F.at (x := Cond.fieldLink RX6 13 "ThinVolumesModel" "past" "[I") 3 rfl
  have w_2 := F.at (x := Cond.fieldLink RX6 32 "ThinVolumesModel" "pasts" "I") 2 rfl
  have w_4 := F.at (x := Cond.fieldLink RX6 7 "ThinVolumesModel" "s" "[I") 4 rfl
  have w_1 := F.at (x := Cond.fieldLink RX6 28 "ThinVolumesModel" "runs" "Z") 1 rfl
  have k_6 : ∀ w ∈ wsX60, w ∈ wsX6_changes := fun _ h => List.mem_cons_of_mem _ (List.mem_append_right _ (h))
  have L18 : ∀ (n : Nat) (i : Nat) (u : PS), i + n = 1329 → (∀ (uu : PS), f6_changes_L18 n i u = uu → Wk p l e ({ frames := 0, cells := 0, slots := 0, locals := 0 } : Room) s m args below meth c 2 D A 0 0 Q (wMod cI hs uu) [(0, .ref (hs 0))] 47 []) → Wk p l e ({ frames := 0, cells := 0, slots := 0, locals := 0 } : Room) s m args below meth c 2 D A 0 0 Q (wMod cI hs u) [(0, .ref (hs 0)), (1, .int (nI i))] 18 [] := by
    intro n
    induction n with
    | zero =>
      intro i u hi kx
      refine wk_iload_n F dX6_changes_18 rfl 1 rfl (pc' := 19) rfl ?_
      refine wk_sipush F dX6_changes_19 sp_1329 (pc' := 22) rfl ?_
      refine wk_icmp_ge (tgt := 47) F dX6_changes_22 (by decide) (pc' := 25) rfl (fun _ => ?_) (fun c => absurd ((nI_leI (a := 1329) (b := i) (by omega) (by omega)).mpr (by omega)) c)
      refine wk_lv [0] rfl ?_
      exact kx u (by rw [f6_changes_L18] <;> exact rfl)
    | succ n ih =>
      intro i u hi kx
      refine wk_iload_n F dX6_changes_18 rfl 1 rfl (pc' := 19) rfl ?_
      refine wk_sipush F dX6_changes_19 sp_1329 (pc' := 22) rfl ?_
      refine wk_icmp_ge (tgt := 47) F dX6_changes_22 (by decide) (pc' := 25) rfl (fun c => absurd ((nI_leI (a := 1329) (b := i) (by omega) (by omega)).mp c) (by omega)) (fun _ => ?_)
      refine wk_aload_n F dX6_changes_25 rfl 0 rfl (pc' := 26) rfl ?_
      refine wk_get (C := RX6) (T := TX6) (N := 12) F 0 rfl rfl k_6 1 (Nat.le_of_ble_eq_true rfl) w_3 rfl dX6_changes_26 (pc' := 29) rfl ?_
      refine wk_iload_n F dX6_changes_29 rfl 1 rfl (pc' := 30) rfl ?_
      refine wk_aload_n F dX6_changes_30 rfl 0 rfl (pc' := 31) rfl ?_
      refine wk_get (C := RX6) (T := TX6) (N := 12) F 0 rfl rfl k_6 1 (Nat.le_of_ble_eq_true rfl) w_3 rfl dX6_changes_31 (pc' := 34) rfl ?_
      refine wk_iload_n F dX6_changes_34 rfl 1 rfl (pc' := 35) rfl ?_
      refine wk_sipush F dX6_changes_35 sp_443 (pc' := 38) rfl ?_
      refine wk_iadd F dX6_changes_38 (pc' := 39) rfl ?_
      refine wk_top (nI_add i 443) ?_
      refine wk_iald_n (i := i + 443) F 2 0 rfl rfl (by omega) (Nat.le_of_ble_eq_true rfl) dX6_changes_39 (pc' := 40) rfl ?_
      refine wk_iastu_n (wg := wMod cI hs) (f0 := wr u 1 i (u 1 (i + 443))) (i := i) F 2 0 rfl rfl aM_1 (by omega) (Nat.le_of_ble_eq_true rfl) dX6_changes_40 (pc' := 41) rfl (fun u1 h2 => ?_)
      refine wk_iinc (k := 1) (v := nI (i + 1)) (lv' := [(1, .int (nI (i + 1))), (0, .ref (hs 0))]) F dX6_changes_41 rfl (nI_inc i) (Nat.le_of_ble_eq_true rfl) rfl (pc' := 44) rfl ?_
      refine wk_goto (tgt := 18) F dX6_changes_44 (by decide) ?_
      refine wk_lv [1, 0] rfl ?_
      exact ih (i + 1) u1 (by omega) (fun u_ h_ => kx u_ (Eq.trans (by rw [f6_changes_L18] <;> exact (st_let h2 rfl)) h_))
  have L59 : ∀ (n : Nat) (i : Nat) (u : PS), i + n = 443 → vp_in (u 6 0) 4 → (∀ (uu : PS), f6_changes_L59 n i u = uu → Wk p l e ({ frames := 0, cells := 0, slots := 0, locals := 0 } : Room) s m args below meth c 2 D A 0 0 Q (wMod cI hs uu) [(0, .ref (hs 0))] 93 []) → Wk p l e ({ frames := 0, cells := 0, slots := 0, locals := 0 } : Room) s m args below meth c 2 D A 0 0 Q (wMod cI hs u) [(0, .ref (hs 0)), (1, .int (nI i))] 59 [] := by
    intro n
    induction n with
    | zero =>
      intro i u hi hv0 kx
      refine wk_iload_n F dX6_changes_59 rfl 1 rfl (pc' := 60) rfl ?_
      refine wk_sipush F dX6_changes_60 sp_443 (pc' := 63) rfl ?_
      refine wk_icmp_ge (tgt := 93) F dX6_changes_63 (by decide) (pc' := 66) rfl (fun _ => ?_) (fun c => absurd ((nI_leI (a := 443) (b := i) (by omega) (by omega)).mpr (by omega)) c)
      refine wk_lv [0] rfl ?_
      exact kx u (by rw [f6_changes_L59] <;> exact rfl)
    | succ n ih =>
      intro i u hi hv0 kx
      refine wk_iload_n F dX6_changes_59 rfl 1 rfl (pc' := 60) rfl ?_
      refine wk_sipush F dX6_changes_60 sp_443 (pc' := 63) rfl ?_
      refine wk_icmp_ge (tgt := 93) F dX6_changes_63 (by decide) (pc' := 66) rfl (fun c => absurd ((nI_leI (a := 443) (b := i) (by omega) (by omega)).mp c) (by omega)) (fun _ => ?_)
      refine wk_aload_n F dX6_changes_66 rfl 0 rfl (pc' := 67) rfl ?_
      refine wk_get (C := RX6) (T := TX6) (N := 12) F 0 rfl rfl k_6 1 (Nat.le_of_ble_eq_true rfl) w_3 rfl dX6_changes_67 (pc' := 70) rfl ?_
      refine wk_sipush F dX6_changes_70 sp_443 (pc' := 73) rfl ?_
      refine wk_aload_n F dX6_changes_73 rfl 0 rfl (pc' := 74) rfl ?_
      refine wk_get (C := RX6) (T := TX6) (N := 12) F 0 rfl rfl k_6 4 (Nat.le_of_ble_eq_true rfl) w_2 rfl dX6_changes_74 (pc' := 77) rfl ?_
      refine wk_imul F dX6_changes_77 (pc' := 78) rfl ?_
      refine wk_iload_n F dX6_changes_78 rfl 1 rfl (pc' := 79) rfl ?_
      refine wk_iadd F dX6_changes_79 (pc' := 80) rfl ?_
      refine wk_aload_n F dX6_changes_80 rfl 0 rfl (pc' := 81) rfl ?_
      refine wk_get (C := RX6) (T := TX6) (N := 12) F 0 rfl rfl k_6 0 (Nat.le_of_ble_eq_true rfl) w_4 rfl dX6_changes_81 (pc' := 84) rfl ?_
      refine wk_iload_n F dX6_changes_84 rfl 1 rfl (pc' := 85) rfl ?_
      refine wk_iald_n (i := i) F 1 0 rfl rfl (by omega) (Nat.le_of_ble_eq_true rfl) dX6_changes_85 (pc' := 86) rfl ?_
      refine wk_iastu (wg := wMod cI hs) (f0 := wr u 1 (((443 : Int32) * (u 6 0)) + (nI i)).toNatClampNeg (u 0 i)) F 2 0 rfl rfl aM_1 (ix_past hv0 (by omega)) dX6_changes_86 (pc' := 87) rfl (fun u3 h4 => ?_)
      refine wk_iinc (k := 1) (v := nI (i + 1)) (lv' := [(1, .int (nI (i + 1))), (0, .ref (hs 0))]) F dX6_changes_87 rfl (nI_inc i) (Nat.le_of_ble_eq_true rfl) rfl (pc' := 90) rfl ?_
      refine wk_goto (tgt := 59) F dX6_changes_90 (by decide) ?_
      refine wk_lv [1, 0] rfl ?_
      exact ih (i + 1) u3 (by omega) (by subst h4; exact hv0) (fun u_ h_ => kx u_ (Eq.trans (by rw [f6_changes_L59] <;> exact (st_let h4 rfl)) h_))
  refine wk_aload_n F dX6_changes_0 rfl 0 rfl (pc' := 1) rfl ?_
  refine wk_get (C := RX6) (T := TX6) (N := 12) F 0 rfl rfl k_6 5 (Nat.le_of_ble_eq_true rfl) w_1 rfl dX6_changes_1 (pc' := 4) rfl ?_
  refine wk_if_eq (tgt := 8) F dX6_changes_4 (by decide) (pc' := 7) rfl (fun c5 => ?_) (fun c5 => ?_)
  · refine wk_aload_n F dX6_changes_8 rfl 0 rfl (pc' := 9) rfl ?_
    refine wk_get (C := RX6) (T := TX6) (N := 12) F 0 rfl rfl k_6 4 (Nat.le_of_ble_eq_true rfl) w_2 rfl dX6_changes_9 (pc' := 12) rfl ?_
    refine wk_iconst F dX6_changes_12 ic_4 (pc' := 13) rfl ?_
    refine wk_icmp_ne (tgt := 57) F dX6_changes_13 (by decide) (pc' := 16) rfl (fun c6 => ?_) (fun c6 => ?_)
    · refine wk_iconst F dX6_changes_57 ic_0 (pc' := 58) rfl ?_
      refine wk_istore_n (lv' := [(1, .int (0 : Int32)), (0, .ref (hs 0))]) F dX6_changes_58 rfl (Nat.le_of_ble_eq_true rfl) rfl (pc' := 59) rfl ?_
      refine wk_lv [1, 0] rfl ?_
      refine L59 443 0 σ (by omega) (chB hs_okH c6) (fun u8 h7 => ?_)
      refine wk_aload_n F dX6_changes_93 rfl 0 rfl (pc' := 94) rfl ?_
      refine wk_dup F dX6_changes_94 rfl (pc' := 95) rfl ?_
      refine wk_get (C := RX6) (T := TX6) (N := 12) F 0 rfl rfl k_6 4 (Nat.le_of_ble_eq_true rfl) w_2 rfl dX6_changes_95 (pc' := 98) rfl ?_
      refine wk_iconst F dX6_changes_98 ic_1 (pc' := 99) rfl ?_
      refine wk_iadd F dX6_changes_99 (pc' := 100) rfl ?_
      refine wk_putu (wg := wMod cI hs) (f0 := wr u8 6 0 ((u8 6 0) + (1 : Int32))) (C := RX6) (T := TX6) (N := 12) (ty0 := tyX6) F 0 rfl rfl k_6 tyX6_ok nmX6 4 (Nat.le_of_ble_eq_true rfl) w_2 rfl rfl rfl (Nat.le_of_ble_eq_true rfl) sM_0 dX6_changes_100 (pc' := 103) rfl (fun u9 h10 => ?_)
      exact hret _ _ _ dX6_changes_103 (by rw [f6_changes] <;> exact (st_pos c5 (st_neg c6 (st_let h7 (st_let h10 rfl)))))
    · refine wk_iconst F dX6_changes_16 ic_0 (pc' := 17) rfl ?_
      refine wk_istore_n (lv' := [(1, .int (0 : Int32)), (0, .ref (hs 0))]) F dX6_changes_17 rfl (Nat.le_of_ble_eq_true rfl) rfl (pc' := 18) rfl ?_
      refine wk_lv [1, 0] rfl ?_
      refine L18 1329 0 σ (by omega) (fun u12 h11 => ?_)
      refine wk_aload_n F dX6_changes_47 rfl 0 rfl (pc' := 48) rfl ?_
      refine wk_dup F dX6_changes_48 rfl (pc' := 49) rfl ?_
      refine wk_get (C := RX6) (T := TX6) (N := 12) F 0 rfl rfl k_6 4 (Nat.le_of_ble_eq_true rfl) w_2 rfl dX6_changes_49 (pc' := 52) rfl ?_
      refine wk_iconst F dX6_changes_52 ic_1 (pc' := 53) rfl ?_
      refine wk_isub F dX6_changes_53 (pc' := 54) rfl ?_
      refine wk_putu (wg := wMod cI hs) (f0 := wr u12 6 0 ((u12 6 0) - (1 : Int32))) (C := RX6) (T := TX6) (N := 12) (ty0 := tyX6) F 0 rfl rfl k_6 tyX6_ok nmX6 4 (Nat.le_of_ble_eq_true rfl) w_2 rfl rfl rfl (Nat.le_of_ble_eq_true rfl) sM_0 dX6_changes_54 (pc' := 57) rfl (fun u13 h14 => ?_)
      refine wk_iconst F dX6_changes_57 ic_0 (pc' := 58) rfl ?_
      refine wk_istore_n (lv' := [(1, .int (0 : Int32)), (0, .ref (hs 0))]) F dX6_changes_58 rfl (Nat.le_of_ble_eq_true rfl) rfl (pc' := 59) rfl ?_
      refine wk_lv [1, 0] rfl ?_
      refine L59 443 0 u13 (by omega) (chA c6 h11 h14) (fun u16 h15 => ?_)
      refine wk_aload_n F dX6_changes_93 rfl 0 rfl (pc' := 94) rfl ?_
      refine wk_dup F dX6_changes_94 rfl (pc' := 95) rfl ?_
      refine wk_get (C := RX6) (T := TX6) (N := 12) F 0 rfl rfl k_6 4 (Nat.le_of_ble_eq_true rfl) w_2 rfl dX6_changes_95 (pc' := 98) rfl ?_
      refine wk_iconst F dX6_changes_98 ic_1 (pc' := 99) rfl ?_
      refine wk_iadd F dX6_changes_99 (pc' := 100) rfl ?_
      refine wk_putu (wg := wMod cI hs) (f0 := wr u16 6 0 ((u16 6 0) + (1 : Int32))) (C := RX6) (T := TX6) (N := 12) (ty0 := tyX6) F 0 rfl rfl k_6 tyX6_ok nmX6 4 (Nat.le_of_ble_eq_true rfl) w_2 rfl rfl rfl (Nat.le_of_ble_eq_true rfl) sM_0 dX6_changes_100 (pc' := 103) rfl (fun u17 h18 => ?_)
      exact hret _ _ _ dX6_changes_103 (by rw [f6_changes] <;> exact (st_pos c5 (st_pos c6 (st_let h11 (st_let h14 (st_let h15 (st_let h18 rfl)))))))
  · exact hret _ _ _ dX6_changes_7 (by rw [f6_changes] <;> exact (st_neg c5 rfl))
theorem changes_j {σ : PS} {j : Nat} (h1 : j ≠ 1) (h6 : j ≠ 6) : f6_changes σ j = σ j := by
  unfold f6_changes sq; dsimp only
  split
  · split
    · rw [wr_ne h6, changes_L59_j _ _ _ _ h1, wr_ne h6, changes_L18_j _ _ _ _ h1]
    · rw [wr_ne h6, changes_L59_j _ _ _ _ h1]
  · rfl
theorem okL_changes {σ u : PS} (h : f6_changes σ = u) (ho : okL σ) : okL u := by
  subst h; intro a ha; rw [changes_j (by decide) (by decide)]; exact ho a ha
theorem okP_changes {σ u : PS} (h : f6_changes σ = u) (ho : okP σ) : okP u := by
  subst h; intro a k ha hk; rw [changes_j (by decide) (by decide)]; exact ho a k ha hk
theorem free8_L {u : PS} : ∀ n i : Nat, i + n = 8 → ∃ j : Nat, j ≤ 8 ∧ f6_free8_L2 u n i = nI j := by
  intro n
  induction n with
  | zero => intro i hi; exact ⟨i, by omega, rfl⟩
  | succ n ih =>
    intro i hi
    unfold f6_free8_L2
    split
    · exact ih (i + 1) (by omega)
    · exact ⟨i, by omega, rfl⟩
theorem free8_in {u : PS} (h : ¬ f6_free8 u = 8) : vp_in (f6_free8 u) 8 := by
  obtain ⟨j, hj, e⟩ := free8_L (u := u) 8 0 rfl
  have e2 : f6_free8 u = nI j := e
  rw [e2] at h ⊢
  refine vp_in_nI ?_ (by decide)
  rcases Nat.lt_or_ge j 8 with q | q
  · exact q
  · exact absurd (show nI j = 8 by rw [show j = 8 by omega]; rfl) h
def f6_volume (σ : PS) (p1 : Int32) : Int32 × PS := (if (f6_in p1 (1 : Int32) (40 : Int32)) = 0 then ((-1000001 : Int32), σ) else (if (f6_free8 σ) = (8 : Int32) then ((-1000003 : Int32), σ) else (sq (f6_changes σ) (fun (u3 : PS) => (sq (f6_begins u3 (f6_free8 σ) p1) (fun (u5 : PS) => (f6_free8 σ, u5)))))))
set_option maxHeartbeats 4000000 in
set_option maxRecDepth 100000 in
theorem c6_volume (l : Launch) (D : va_G) (cI cP : ClassId) (hs : Nat → Nat) (σ : PS) (p1 : Int32) (hs_okH : okH σ) : CI l yX6_volume wsX6_volume ({ frames := 2, cells := 0, slots := 0, locals := 46 } : Room) D (cty cI cP) (wMod cI hs σ) (wMod cI hs) [.ref (hs 0), .int p1] 0 0 (fun r u => f6_volume σ p1 = (r, u)) := by
  refine CI.of (cc := cX6_volume) (maxL := 3) (rt := .int) (own := RX6) (lv0 := [(0, .ref (hs 0)), (1, .int p1)]) pnX6 rfl rfl (Nat.le_of_ble_eq_true rfl) rfl (fun p e s m args below meth c A Q F hret => ?_)
  have w_2 := F.at (x := Cond.constant RX6 90 (-1000003)) 2 rfl
  have w_1 := F.at (x := Cond.constant RX6 86 (-1000001)) 1 rfl
  refine wk_iload_n F dX6_volume_0 rfl 1 rfl (pc' := 1) rfl ?_
  refine wk_iconst F dX6_volume_1 ic_1 (pc' := 2) rfl ?_
  refine wk_bipush F dX6_volume_2 bp_40 (pc' := 4) rfl ?_
  refine wk_none_s F (c6_in l D cI cP p1 (1 : Int32) (40 : Int32)) (va_cwS 3 F.hts gX6_volume_X6_in rfl rfl rfl hdX6_in ⟨Nat.le_of_ble_eq_true rfl, Nat.le_of_ble_eq_true rfl⟩) rfl rfl (Nat.le_of_ble_eq_true rfl) dX6_volume_4 ⟨Nat.zero_le _, Nat.zero_le _⟩ (pc' := 7) rfl ?_
  refine wk_if_ne (tgt := 13) F dX6_volume_7 (by decide) (pc' := 10) rfl (fun c1 => ?_) (fun c1 => ?_)
  · refine wk_aload_n F dX6_volume_13 rfl 0 rfl (pc' := 14) rfl ?_
    refine wk_same_p F (c6_free8 l D cI cP hs σ) (cwV 0 F.hts gX6_volume_X6_free8 rfl rfl rfl hdX6_free8 ⟨Nat.le_of_ble_eq_true rfl, Nat.le_of_ble_eq_true rfl⟩) 0 6 rfl rfl rfl rfl (Nat.le_of_ble_eq_true rfl) dX6_volume_14 ⟨Nat.zero_le _, Nat.zero_le _⟩ (pc' := 17) rfl ?_
    refine wk_istore_n (lv' := [(2, .int (f6_free8 σ)), (0, .ref (hs 0)), (1, .int p1)]) F dX6_volume_17 rfl (Nat.le_of_ble_eq_true rfl) rfl (pc' := 18) rfl ?_
    refine wk_iload_n F dX6_volume_18 rfl 0 rfl (pc' := 19) rfl ?_
    refine wk_bipush F dX6_volume_19 bp_8 (pc' := 21) rfl ?_
    refine wk_icmp_ne (tgt := 27) F dX6_volume_21 (by decide) (pc' := 24) rfl (fun c2 => ?_) (fun c2 => ?_)
    · refine wk_aload_n F dX6_volume_27 rfl 1 rfl (pc' := 28) rfl ?_
      refine wk_same_v F (c6_changes l D cI cP hs σ hs_okH) (cwV 0 F.hts gX6_volume_X6_changes rfl rfl rfl hdX6_changes ⟨Nat.le_of_ble_eq_true rfl, Nat.le_of_ble_eq_true rfl⟩) 0 6 rfl rfl rfl rfl (Nat.le_of_ble_eq_true rfl) dX6_volume_28 ⟨Nat.zero_le _, Nat.zero_le _⟩ (pc' := 31) rfl (fun u3 h4 => ?_)
      refine wk_aload_n F dX6_volume_31 rfl 1 rfl (pc' := 32) rfl ?_
      refine wk_iload_n F dX6_volume_32 rfl 0 rfl (pc' := 33) rfl ?_
      refine wk_iload_n F dX6_volume_33 rfl 2 rfl (pc' := 34) rfl ?_
      refine wk_same_v F (c6_begins l D cI cP hs u3 (f6_free8 σ) p1 (free8_in c2)) (cwV 2 F.hts gX6_volume_X6_begins rfl rfl rfl hdX6_begins ⟨Nat.le_of_ble_eq_true rfl, Nat.le_of_ble_eq_true rfl⟩) 0 6 rfl rfl rfl rfl (Nat.le_of_ble_eq_true rfl) dX6_volume_34 ⟨Nat.zero_le _, Nat.zero_le _⟩ (pc' := 37) rfl (fun u5 h6 => ?_)
      refine wk_iload_n F dX6_volume_37 rfl 0 rfl (pc' := 38) rfl ?_
      exact hret _ _ _ _ dX6_volume_38 rfl (by rw [f6_volume] <;> exact (st_neg c1 (st_neg c2 (st_let h4 (st_let h6 rfl)))))
    · refine wk_ldc F dX6_volume_24 w_2 (pc' := 26) rfl ?_
      exact hret _ _ _ _ dX6_volume_26 rfl (by rw [f6_volume] <;> exact (st_neg c1 (st_pos c2 rfl)))
  · refine wk_ldc F dX6_volume_10 w_1 (pc' := 12) rfl ?_
    exact hret _ _ _ _ dX6_volume_12 rfl (by rw [f6_volume] <;> exact (st_pos c1 rfl))
def f6_share_L49 (p1 : Int32) (y2 : Int32) : Nat → Nat → PS → PS
  | 0, i, u => u
  | n + 1, i, u => (sq (f6_puts u y2 (nI (7 + i)) (f6_piece u p1 (nI i))) (fun (u1 : PS) => f6_share_L49 p1 y2 n (i + 1) u1))
def f6_share (σ : PS) (p1 : Int32) : Int32 × PS := (if (f6_isVolume σ p1) = 0 then ((-1000001 : Int32), σ) else (if (f6_free8 σ) = (8 : Int32) then ((-1000003 : Int32), σ) else (sq (f6_changes σ) (fun (u5 : PS) => (sq (f6_begins u5 (f6_free8 σ) (f6_of u5 p1 (1 : Int32))) (fun (u7 : PS) => (sq (f6_puts u7 (f6_free8 σ) (4 : Int32) p1) (fun (u9 : PS) => (sq (f6_share_L49 p1 (f6_free8 σ) 40 0 u9) (fun (u12 : PS) => (f6_free8 σ, u12)))))))))))
set_option maxHeartbeats 4000000 in
set_option maxRecDepth 100000 in
theorem c6_share (l : Launch) (D : va_G) (cI cP : ClassId) (hs : Nat → Nat) (σ : PS) (p1 : Int32) (hs_okH : okH σ) : CI l yX6_share wsX6_share ({ frames := 2, cells := 0, slots := 0, locals := 46 } : Room) D (cty cI cP) (wMod cI hs σ) (wMod cI hs) [.ref (hs 0), .int p1] 0 0 (fun r u => f6_share σ p1 = (r, u)) := by
  refine CI.of (cc := cX6_share) (maxL := 4) (rt := .int) (own := RX6) (lv0 := [(0, .ref (hs 0)), (1, .int p1)]) pnX6 rfl rfl (Nat.le_of_ble_eq_true rfl) rfl (fun p e s m args below meth c A Q F hret => ?_)
  have w_2 := F.at (x := Cond.constant RX6 90 (-1000003)) 2 rfl
  have w_1 := F.at (x := Cond.constant RX6 86 (-1000001)) 1 rfl
  have L49 : ∀ (y2 : Int32) (n : Nat) (i : Nat) (u : PS), i + n = 40 → vp_in p1 8 → vp_in y2 8 → (∀ (uu : PS), f6_share_L49 p1 y2 n i u = uu → Wk p l e ({ frames := 2, cells := 0, slots := 0, locals := 46 } : Room) s m args below meth c 4 D A 0 0 Q (wMod cI hs uu) [(2, .int y2)] 76 []) → Wk p l e ({ frames := 2, cells := 0, slots := 0, locals := 46 } : Room) s m args below meth c 4 D A 0 0 Q (wMod cI hs u) [(0, .ref (hs 0)), (1, .int p1), (2, .int y2), (3, .int (nI i))] 49 [] := by
    intro y2 n
    induction n with
    | zero =>
      intro i u hi hv0 hv1 kx
      refine wk_iload_n F dX6_share_49 rfl 3 rfl (pc' := 50) rfl ?_
      refine wk_bipush F dX6_share_50 bp_40 (pc' := 52) rfl ?_
      refine wk_icmp_ge (tgt := 76) F dX6_share_52 (by decide) (pc' := 55) rfl (fun _ => ?_) (fun c => absurd ((nI_leI (a := 40) (b := i) (by omega) (by omega)).mpr (by omega)) c)
      refine wk_lv [2] rfl ?_
      exact kx u (by rw [f6_share_L49] <;> exact rfl)
    | succ n ih =>
      intro i u hi hv0 hv1 kx
      refine wk_iload_n F dX6_share_49 rfl 3 rfl (pc' := 50) rfl ?_
      refine wk_bipush F dX6_share_50 bp_40 (pc' := 52) rfl ?_
      refine wk_icmp_ge (tgt := 76) F dX6_share_52 (by decide) (pc' := 55) rfl (fun c => absurd ((nI_leI (a := 40) (b := i) (by omega) (by omega)).mp c) (by omega)) (fun _ => ?_)
      refine wk_aload_n F dX6_share_55 rfl 0 rfl (pc' := 56) rfl ?_
      refine wk_iload_n F dX6_share_56 rfl 2 rfl (pc' := 57) rfl ?_
      refine wk_bipush F dX6_share_57 bp_7 (pc' := 59) rfl ?_
      refine wk_iload_n F dX6_share_59 rfl 3 rfl (pc' := 60) rfl ?_
      refine wk_iadd F dX6_share_60 (pc' := 61) rfl ?_
      refine wk_top (nI_add 7 i) ?_
      refine wk_aload_n F dX6_share_61 rfl 0 rfl (pc' := 62) rfl ?_
      refine wk_iload_n F dX6_share_62 rfl 1 rfl (pc' := 63) rfl ?_
      refine wk_iload_n F dX6_share_63 rfl 3 rfl (pc' := 64) rfl ?_
      refine wk_same_p F (c6_piece l D cI cP hs u p1 (nI i) hv0 (vp_in_nI (n := i) (N := 40) (by omega) (Nat.le_of_ble_eq_true rfl))) (cwV 2 F.hts gX6_share_X6_piece rfl rfl rfl hdX6_piece ⟨Nat.le_of_ble_eq_true rfl, Nat.le_of_ble_eq_true rfl⟩) 0 6 rfl rfl rfl rfl (Nat.le_of_ble_eq_true rfl) dX6_share_64 ⟨Nat.zero_le _, Nat.zero_le _⟩ (pc' := 67) rfl ?_
      refine wk_same_v F (c6_puts l D cI cP hs u y2 (nI (7 + i)) (f6_piece u p1 (nI i)) hv1 (vp_in_nI (n := 7 + i) (N := 47) (by omega) (Nat.le_of_ble_eq_true rfl))) (cwV 3 F.hts gX6_share_X6_puts rfl rfl rfl hdX6_puts ⟨Nat.le_of_ble_eq_true rfl, Nat.le_of_ble_eq_true rfl⟩) 0 6 rfl rfl rfl rfl (Nat.le_of_ble_eq_true rfl) dX6_share_67 ⟨Nat.zero_le _, Nat.zero_le _⟩ (pc' := 70) rfl (fun u1 h2 => ?_)
      refine wk_iinc (k := 3) (v := nI (i + 1)) (lv' := [(3, .int (nI (i + 1))), (0, .ref (hs 0)), (1, .int p1), (2, .int y2)]) F dX6_share_70 rfl (nI_inc i) (Nat.le_of_ble_eq_true rfl) rfl (pc' := 73) rfl ?_
      refine wk_goto (tgt := 49) F dX6_share_73 (by decide) ?_
      refine wk_lv [1, 2, 3, 0] rfl ?_
      exact ih (i + 1) u1 (by omega) hv0 hv1 (fun u_ h_ => kx u_ (Eq.trans (by rw [f6_share_L49] <;> exact (st_let h2 rfl)) h_))
  refine wk_aload_n F dX6_share_0 rfl 0 rfl (pc' := 1) rfl ?_
  refine wk_iload_n F dX6_share_1 rfl 1 rfl (pc' := 2) rfl ?_
  refine wk_same_p F (c6_isVolume l D cI cP hs σ p1) (cwV 1 F.hts gX6_share_X6_isVolume rfl rfl rfl hdX6_isVolume ⟨Nat.le_of_ble_eq_true rfl, Nat.le_of_ble_eq_true rfl⟩) 0 6 rfl rfl rfl rfl (Nat.le_of_ble_eq_true rfl) dX6_share_2 ⟨Nat.zero_le _, Nat.zero_le _⟩ (pc' := 5) rfl ?_
  refine wk_if_ne (tgt := 11) F dX6_share_5 (by decide) (pc' := 8) rfl (fun c3 => ?_) (fun c3 => ?_)
  · refine wk_aload_n F dX6_share_11 rfl 0 rfl (pc' := 12) rfl ?_
    refine wk_same_p F (c6_free8 l D cI cP hs σ) (cwV 0 F.hts gX6_share_X6_free8 rfl rfl rfl hdX6_free8 ⟨Nat.le_of_ble_eq_true rfl, Nat.le_of_ble_eq_true rfl⟩) 0 6 rfl rfl rfl rfl (Nat.le_of_ble_eq_true rfl) dX6_share_12 ⟨Nat.zero_le _, Nat.zero_le _⟩ (pc' := 15) rfl ?_
    refine wk_istore_n (lv' := [(2, .int (f6_free8 σ)), (0, .ref (hs 0)), (1, .int p1)]) F dX6_share_15 rfl (Nat.le_of_ble_eq_true rfl) rfl (pc' := 16) rfl ?_
    refine wk_iload_n F dX6_share_16 rfl 0 rfl (pc' := 17) rfl ?_
    refine wk_bipush F dX6_share_17 bp_8 (pc' := 19) rfl ?_
    refine wk_icmp_ne (tgt := 25) F dX6_share_19 (by decide) (pc' := 22) rfl (fun c4 => ?_) (fun c4 => ?_)
    · refine wk_aload_n F dX6_share_25 rfl 1 rfl (pc' := 26) rfl ?_
      refine wk_same_v F (c6_changes l D cI cP hs σ hs_okH) (cwV 0 F.hts gX6_share_X6_changes rfl rfl rfl hdX6_changes ⟨Nat.le_of_ble_eq_true rfl, Nat.le_of_ble_eq_true rfl⟩) 0 6 rfl rfl rfl rfl (Nat.le_of_ble_eq_true rfl) dX6_share_26 ⟨Nat.zero_le _, Nat.zero_le _⟩ (pc' := 29) rfl (fun u5 h6 => ?_)
      refine wk_aload_n F dX6_share_29 rfl 1 rfl (pc' := 30) rfl ?_
      refine wk_iload_n F dX6_share_30 rfl 0 rfl (pc' := 31) rfl ?_
      refine wk_aload_n F dX6_share_31 rfl 1 rfl (pc' := 32) rfl ?_
      refine wk_iload_n F dX6_share_32 rfl 2 rfl (pc' := 33) rfl ?_
      refine wk_iconst F dX6_share_33 ic_1 (pc' := 34) rfl ?_
      refine wk_same_p F (c6_of l D cI cP hs u5 p1 (1 : Int32) (isVolume_in c3) (vp_in_nI (n := 1) (N := 47) (Nat.le_of_ble_eq_true rfl) (Nat.le_of_ble_eq_true rfl))) (cwV 2 F.hts gX6_share_X6_of rfl rfl rfl hdX6_of ⟨Nat.le_of_ble_eq_true rfl, Nat.le_of_ble_eq_true rfl⟩) 0 6 rfl rfl rfl rfl (Nat.le_of_ble_eq_true rfl) dX6_share_34 ⟨Nat.zero_le _, Nat.zero_le _⟩ (pc' := 37) rfl ?_
      refine wk_same_v F (c6_begins l D cI cP hs u5 (f6_free8 σ) (f6_of u5 p1 (1 : Int32)) (free8_in c4)) (cwV 2 F.hts gX6_share_X6_begins rfl rfl rfl hdX6_begins ⟨Nat.le_of_ble_eq_true rfl, Nat.le_of_ble_eq_true rfl⟩) 0 6 rfl rfl rfl rfl (Nat.le_of_ble_eq_true rfl) dX6_share_37 ⟨Nat.zero_le _, Nat.zero_le _⟩ (pc' := 40) rfl (fun u7 h8 => ?_)
      refine wk_aload_n F dX6_share_40 rfl 1 rfl (pc' := 41) rfl ?_
      refine wk_iload_n F dX6_share_41 rfl 0 rfl (pc' := 42) rfl ?_
      refine wk_iconst F dX6_share_42 ic_4 (pc' := 43) rfl ?_
      refine wk_iload_n F dX6_share_43 rfl 2 rfl (pc' := 44) rfl ?_
      refine wk_same_v F (c6_puts l D cI cP hs u7 (f6_free8 σ) (4 : Int32) p1 (free8_in c4) (vp_in_nI (n := 4) (N := 47) (Nat.le_of_ble_eq_true rfl) (Nat.le_of_ble_eq_true rfl))) (cwV 3 F.hts gX6_share_X6_puts rfl rfl rfl hdX6_puts ⟨Nat.le_of_ble_eq_true rfl, Nat.le_of_ble_eq_true rfl⟩) 0 6 rfl rfl rfl rfl (Nat.le_of_ble_eq_true rfl) dX6_share_44 ⟨Nat.zero_le _, Nat.zero_le _⟩ (pc' := 47) rfl (fun u9 h10 => ?_)
      refine wk_iconst F dX6_share_47 ic_0 (pc' := 48) rfl ?_
      refine wk_istore_n (lv' := [(3, .int (0 : Int32)), (2, .int (f6_free8 σ)), (0, .ref (hs 0)), (1, .int p1)]) F dX6_share_48 rfl (Nat.le_of_ble_eq_true rfl) rfl (pc' := 49) rfl ?_
      refine wk_lv [2, 3, 1, 0] rfl ?_
      refine L49 (f6_free8 σ) 40 0 u9 (by omega) (isVolume_in c3) (free8_in c4) (fun u12 h11 => ?_)
      refine wk_iload_n F dX6_share_76 rfl 0 rfl (pc' := 77) rfl ?_
      exact hret _ _ _ _ dX6_share_77 rfl (by rw [f6_share] <;> exact (st_neg c3 (st_neg c4 (st_let h6 (st_let h8 (st_let h10 (st_let h11 rfl)))))))
    · refine wk_ldc F dX6_share_22 w_2 (pc' := 24) rfl ?_
      exact hret _ _ _ _ dX6_share_24 rfl (by rw [f6_share] <;> exact (st_neg c3 (st_pos c4 rfl)))
  · refine wk_ldc F dX6_share_8 w_1 (pc' := 10) rfl ?_
    exact hret _ _ _ _ dX6_share_10 rfl (by rw [f6_share] <;> exact (st_pos c3 rfl))
def f6_trims (σ : PS) (p1 : Int32) (p2 : Int32) : Int32 × PS := (sq (f6_puts σ p1 ((7 : Int32) + p2) (-1 : Int32)) (fun (u1 : PS) => (if (f6_owners u1 (f6_piece σ p1 p2)) = 0 then (sq (wr u1 0 5 ((u1 0 5) + (1 : Int32))) (fun (u6 : PS) => ((1 : Int32), u6))) else (sq (wr u1 0 5 ((u1 0 5) + (0 : Int32))) (fun (u4 : PS) => ((0 : Int32), u4))))))
set_option maxHeartbeats 4000000 in
set_option maxRecDepth 100000 in
theorem c6_trims (l : Launch) (D : va_G) (cI cP : ClassId) (hs : Nat → Nat) (σ : PS) (p1 : Int32) (p2 : Int32) (hp_p1 : vp_in p1 8) (hp_p2 : vp_in p2 40) (hs_okL : okL σ) : CI l yX6_trims wsX6_trims ({ frames := 4, cells := 0, slots := 0, locals := 91 } : Room) D (cty cI cP) (wMod cI hs σ) (wMod cI hs) [.ref (hs 0), .int p1, .int p2] 0 0 (fun r u => f6_trims σ p1 p2 = (r, u)) := by
  refine CI.of (cc := cX6_trims) (maxL := 5) (rt := .int) (own := RX6) (lv0 := [(0, .ref (hs 0)), (1, .int p1), (2, .int p2)]) pnX6 rfl rfl (Nat.le_of_ble_eq_true rfl) rfl (fun p e s m args below meth c A Q F hret => ?_)
  have w_1 := F.at (x := Cond.fieldLink RX6 7 "ThinVolumesModel" "s" "[I") 1 rfl
  have k_6 : ∀ w ∈ wsX60, w ∈ wsX6_trims := fun _ h => List.mem_cons_of_mem _ (List.mem_append_right _ (h))
  refine wk_aload_n F dX6_trims_0 rfl 0 rfl (pc' := 1) rfl ?_
  refine wk_iload_n F dX6_trims_1 rfl 1 rfl (pc' := 2) rfl ?_
  refine wk_iload_n F dX6_trims_2 rfl 2 rfl (pc' := 3) rfl ?_
  refine wk_same_p F (c6_piece l D cI cP hs σ p1 p2 hp_p1 hp_p2) (cwV 2 F.hts gX6_trims_X6_piece rfl rfl rfl hdX6_piece ⟨Nat.le_of_ble_eq_true rfl, Nat.le_of_ble_eq_true rfl⟩) 0 6 rfl rfl rfl rfl (Nat.le_of_ble_eq_true rfl) dX6_trims_3 ⟨Nat.zero_le _, Nat.zero_le _⟩ (pc' := 6) rfl ?_
  refine wk_istore_n (lv' := [(3, .int (f6_piece σ p1 p2)), (0, .ref (hs 0)), (1, .int p1), (2, .int p2)]) F dX6_trims_6 rfl (Nat.le_of_ble_eq_true rfl) rfl (pc' := 7) rfl ?_
  refine wk_aload_n F dX6_trims_7 rfl 1 rfl (pc' := 8) rfl ?_
  refine wk_iload_n F dX6_trims_8 rfl 2 rfl (pc' := 9) rfl ?_
  refine wk_bipush F dX6_trims_9 bp_7 (pc' := 11) rfl ?_
  refine wk_iload_n F dX6_trims_11 rfl 3 rfl (pc' := 12) rfl ?_
  refine wk_iadd F dX6_trims_12 (pc' := 13) rfl ?_
  refine wk_iconst F dX6_trims_13 ic_m1 (pc' := 14) rfl ?_
  refine wk_same_v F (c6_puts l D cI cP hs σ p1 ((7 : Int32) + p2) (-1 : Int32) hp_p1 (in47 hp_p2)) (cwV 3 F.hts gX6_trims_X6_puts rfl rfl rfl hdX6_puts ⟨Nat.le_of_ble_eq_true rfl, Nat.le_of_ble_eq_true rfl⟩) 0 6 rfl rfl rfl rfl (Nat.le_of_ble_eq_true rfl) dX6_trims_14 ⟨Nat.zero_le _, Nat.zero_le _⟩ (pc' := 17) rfl (fun u1 h2 => ?_)
  refine wk_aload_n F dX6_trims_17 rfl 1 rfl (pc' := 18) rfl ?_
  refine wk_iload_n F dX6_trims_18 rfl 0 rfl (pc' := 19) rfl ?_
  refine wk_same_p F (c6_owners l D cI cP hs u1 (f6_piece σ p1 p2) (okL_puts7 hp_p2 hp_p1 h2 hs_okL)) (cwV 1 F.hts gX6_trims_X6_owners rfl rfl rfl hdX6_owners ⟨Nat.le_of_ble_eq_true rfl, Nat.le_of_ble_eq_true rfl⟩) 0 6 rfl rfl rfl rfl (Nat.le_of_ble_eq_true rfl) dX6_trims_19 ⟨Nat.zero_le _, Nat.zero_le _⟩ (pc' := 22) rfl ?_
  refine wk_if_ne (tgt := 29) F dX6_trims_22 (by decide) (pc' := 25) rfl (fun c3 => ?_) (fun c3 => ?_)
  · refine wk_iconst F dX6_trims_29 ic_0 (pc' := 30) rfl ?_
    refine wk_istore (lv' := [(4, .int (0 : Int32)), (3, .int (f6_piece σ p1 p2)), (0, .ref (hs 0)), (1, .int p1), (2, .int p2)]) F dX6_trims_30 (Nat.le_of_ble_eq_true rfl) rfl (pc' := 32) rfl ?_
    refine wk_aload_n F dX6_trims_32 rfl 2 rfl (pc' := 33) rfl ?_
    refine wk_get (C := RX6) (T := TX6) (N := 12) F 0 rfl rfl k_6 0 (Nat.le_of_ble_eq_true rfl) w_1 rfl dX6_trims_33 (pc' := 36) rfl ?_
    refine wk_iconst F dX6_trims_36 ic_5 (pc' := 37) rfl ?_
    refine wk_dup2 F dX6_trims_37 rfl rfl (pc' := 38) rfl ?_
    refine wk_iald_n (i := 5) F 1 0 rfl rfl (by omega) (Nat.le_of_ble_eq_true rfl) dX6_trims_38 (pc' := 39) rfl ?_
    refine wk_iload F dX6_trims_39 0 rfl (pc' := 41) rfl ?_
    refine wk_iadd F dX6_trims_41 (pc' := 42) rfl ?_
    refine wk_iastu_n (wg := wMod cI hs) (f0 := wr u1 0 5 ((u1 0 5) + (0 : Int32))) (i := 5) F 1 0 rfl rfl aM_0 (by omega) (Nat.le_of_ble_eq_true rfl) dX6_trims_42 (pc' := 43) rfl (fun u4 h5 => ?_)
    refine wk_iload F dX6_trims_43 0 rfl (pc' := 45) rfl ?_
    exact hret _ _ _ _ dX6_trims_45 rfl (by rw [f6_trims] <;> exact (st_let h2 (st_neg c3 (st_let h5 rfl))))
  · refine wk_iconst F dX6_trims_25 ic_1 (pc' := 26) rfl ?_
    refine wk_goto (tgt := 30) F dX6_trims_26 (by decide) ?_
    refine wk_istore (lv' := [(4, .int (1 : Int32)), (3, .int (f6_piece σ p1 p2)), (0, .ref (hs 0)), (1, .int p1), (2, .int p2)]) F dX6_trims_30 (Nat.le_of_ble_eq_true rfl) rfl (pc' := 32) rfl ?_
    refine wk_aload_n F dX6_trims_32 rfl 2 rfl (pc' := 33) rfl ?_
    refine wk_get (C := RX6) (T := TX6) (N := 12) F 0 rfl rfl k_6 0 (Nat.le_of_ble_eq_true rfl) w_1 rfl dX6_trims_33 (pc' := 36) rfl ?_
    refine wk_iconst F dX6_trims_36 ic_5 (pc' := 37) rfl ?_
    refine wk_dup2 F dX6_trims_37 rfl rfl (pc' := 38) rfl ?_
    refine wk_iald_n (i := 5) F 1 0 rfl rfl (by omega) (Nat.le_of_ble_eq_true rfl) dX6_trims_38 (pc' := 39) rfl ?_
    refine wk_iload F dX6_trims_39 0 rfl (pc' := 41) rfl ?_
    refine wk_iadd F dX6_trims_41 (pc' := 42) rfl ?_
    refine wk_iastu_n (wg := wMod cI hs) (f0 := wr u1 0 5 ((u1 0 5) + (1 : Int32))) (i := 5) F 1 0 rfl rfl aM_0 (by omega) (Nat.le_of_ble_eq_true rfl) dX6_trims_42 (pc' := 43) rfl (fun u6 h7 => ?_)
    refine wk_iload F dX6_trims_43 0 rfl (pc' := 45) rfl ?_
    exact hret _ _ _ _ dX6_trims_45 rfl (by rw [f6_trims] <;> exact (st_let h2 (st_pos c3 (st_let h7 rfl))))
theorem okL_trims {σ u : PS} {v q r : Int32} (hv : vp_in v 8) (hq : vp_in q 40) (h : f6_trims σ v q = (r, u)) (ho : okL σ) : okL u := by
  have e : (f6_trims σ v q).2 = u := by rw [h]
  subst e; unfold f6_trims sq; dsimp only
  have h1 : okL (f6_puts σ v (7 + q) (-1)) := okL_puts7 hq hv rfl ho
  split <;> exact okL_wrlow (by decide) rfl h1
theorem okP_trims {σ u : PS} {v q r : Int32} (hv : vp_in v 8) (hq : vp_in q 40) (h : f6_trims σ v q = (r, u)) (ho : okP σ) : okP u := by
  have e : (f6_trims σ v q).2 = u := by rw [h]
  subst e; unfold f6_trims sq; dsimp only
  have h1 : okP (f6_puts σ v (7 + q) (-1)) := okP_puts7 (by decide) hq hv rfl ho
  split <;> exact okP_wrlow (by decide) rfl h1
def f6_drop_L19 (p1 : Int32) : Nat → Nat → Int32 → PS → Int32 × PS
  | 0, i, x2, u => (x2, u)
  | n + 1, i, x2, u => (if (f6_of u p1 (1 : Int32)) ≤ (nI i) then (x2, u) else (if 0 ≤ (f6_piece u p1 (nI i)) then (sq2 (f6_trims u p1 (nI i)) (fun (r4 : Int32) (u3 : PS) => f6_drop_L19 p1 n (i + 1) (x2 + r4) u3)) else f6_drop_L19 p1 n (i + 1) (x2 + (0 : Int32)) u))
def f6_drop_L66 (p1 : Int32) : Nat → Nat → PS → PS
  | 0, i, u => u
  | n + 1, i, u => (if (f6_of u (nI i) (0 : Int32)) = (1 : Int32) then (if (f6_of u (nI i) (4 : Int32)) = p1 then (sq (f6_puts u (nI i) (4 : Int32) (f6_of u p1 (4 : Int32))) (fun (u8 : PS) => f6_drop_L66 p1 n (i + 1) u8)) else f6_drop_L66 p1 n (i + 1) u) else f6_drop_L66 p1 n (i + 1) u)
def f6_drop (σ : PS) (p1 : Int32) : Int32 × PS := (if (f6_isVolume σ p1) = 0 then ((-1000001 : Int32), σ) else (sq (f6_changes σ) (fun (u11 : PS) => (sq2 (f6_drop_L19 p1 40 0 (0 : Int32) u11) (fun (y14 : Int32) (u15 : PS) => (sq (f6_puts u15 p1 (0 : Int32) (0 : Int32)) (fun (u16 : PS) => (sq (f6_drop_L66 p1 8 0 u16) (fun (u19 : PS) => (y14, u19))))))))))
set_option maxHeartbeats 4000000 in
set_option maxRecDepth 100000 in
theorem c6_drop (l : Launch) (D : va_G) (cI cP : ClassId) (hs : Nat → Nat) (σ : PS) (p1 : Int32) (hs_okH : okH σ) (hs_okL : okL σ) : CI l yX6_drop wsX6_drop ({ frames := 5, cells := 0, slots := 0, locals := 115 } : Room) D (cty cI cP) (wMod cI hs σ) (wMod cI hs) [.ref (hs 0), .int p1] 0 0 (fun r u => f6_drop σ p1 = (r, u)) := by
  refine CI.of (cc := cX6_drop) (maxL := 4) (rt := .int) (own := RX6) (lv0 := [(0, .ref (hs 0)), (1, .int p1)]) pnX6 rfl rfl (Nat.le_of_ble_eq_true rfl) rfl (fun p e s m args below meth c A Q F hret => ?_)
  have w_1 := F.at (x := Cond.constant RX6 86 (-1000001)) 1 rfl
  have L19 : ∀ (n : Nat) (i : Nat) (x2 : Int32) (u : PS), i + n = 40 → vp_in p1 8 → okL u → (∀ (y2 : Int32) (uu : PS), f6_drop_L19 p1 n i x2 u = (y2, uu) → Wk p l e ({ frames := 5, cells := 0, slots := 0, locals := 115 } : Room) s m args below meth c 4 D A 0 0 Q (wMod cI hs uu) [(0, .ref (hs 0)), (1, .int p1), (2, .int y2)] 57 []) → Wk p l e ({ frames := 5, cells := 0, slots := 0, locals := 115 } : Room) s m args below meth c 4 D A 0 0 Q (wMod cI hs u) [(0, .ref (hs 0)), (1, .int p1), (2, .int x2), (3, .int (nI i))] 19 [] := by
    intro n
    induction n with
    | zero =>
      intro i x2 u hi hv0 hv1 kx
      refine wk_iload_n F dX6_drop_19 rfl 3 rfl (pc' := 20) rfl ?_
      refine wk_aload_n F dX6_drop_20 rfl 0 rfl (pc' := 21) rfl ?_
      refine wk_iload_n F dX6_drop_21 rfl 1 rfl (pc' := 22) rfl ?_
      refine wk_iconst F dX6_drop_22 ic_1 (pc' := 23) rfl ?_
      refine wk_same_p F (c6_of l D cI cP hs u p1 (1 : Int32) hv0 (vp_in_nI (n := 1) (N := 47) (Nat.le_of_ble_eq_true rfl) (Nat.le_of_ble_eq_true rfl))) (cwV 2 F.hts gX6_drop_X6_of rfl rfl rfl hdX6_of ⟨Nat.le_of_ble_eq_true rfl, Nat.le_of_ble_eq_true rfl⟩) 0 6 rfl rfl rfl rfl (Nat.le_of_ble_eq_true rfl) dX6_drop_23 ⟨Nat.zero_le _, Nat.zero_le _⟩ (pc' := 26) rfl ?_
      refine wk_icmp_ge (tgt := 57) F dX6_drop_26 (by decide) (pc' := 29) rfl (fun _ => ?_) (fun c => absurd (okL_le hv1 hv0 (by omega) (by omega)) c)
      refine wk_lv [0, 1, 2] rfl ?_
      exact kx x2 u (by rw [f6_drop_L19] <;> exact rfl)
    | succ n ih =>
      intro i x2 u hi hv0 hv1 kx
      refine wk_iload_n F dX6_drop_19 rfl 3 rfl (pc' := 20) rfl ?_
      refine wk_aload_n F dX6_drop_20 rfl 0 rfl (pc' := 21) rfl ?_
      refine wk_iload_n F dX6_drop_21 rfl 1 rfl (pc' := 22) rfl ?_
      refine wk_iconst F dX6_drop_22 ic_1 (pc' := 23) rfl ?_
      refine wk_same_p F (c6_of l D cI cP hs u p1 (1 : Int32) hv0 (vp_in_nI (n := 1) (N := 47) (Nat.le_of_ble_eq_true rfl) (Nat.le_of_ble_eq_true rfl))) (cwV 2 F.hts gX6_drop_X6_of rfl rfl rfl hdX6_of ⟨Nat.le_of_ble_eq_true rfl, Nat.le_of_ble_eq_true rfl⟩) 0 6 rfl rfl rfl rfl (Nat.le_of_ble_eq_true rfl) dX6_drop_23 ⟨Nat.zero_le _, Nat.zero_le _⟩ (pc' := 26) rfl ?_
      refine wk_icmp_ge (tgt := 57) F dX6_drop_26 (by decide) (pc' := 29) rfl (fun c1 => ?_) (fun c1 => ?_)
      · refine wk_lv [0, 1, 2] rfl ?_
        exact kx x2 u (by rw [f6_drop_L19] <;> exact (st_pos c1 rfl))
      · refine wk_iload_n F dX6_drop_29 rfl 2 rfl (pc' := 30) rfl ?_
        refine wk_aload_n F dX6_drop_30 rfl 0 rfl (pc' := 31) rfl ?_
        refine wk_iload_n F dX6_drop_31 rfl 1 rfl (pc' := 32) rfl ?_
        refine wk_iload_n F dX6_drop_32 rfl 3 rfl (pc' := 33) rfl ?_
        refine wk_same_p F (c6_piece l D cI cP hs u p1 (nI i) hv0 (vp_in_nI (n := i) (N := 40) (by omega) (Nat.le_of_ble_eq_true rfl))) (cwV 2 F.hts gX6_drop_X6_piece rfl rfl rfl hdX6_piece ⟨Nat.le_of_ble_eq_true rfl, Nat.le_of_ble_eq_true rfl⟩) 0 6 rfl rfl rfl rfl (Nat.le_of_ble_eq_true rfl) dX6_drop_33 ⟨Nat.zero_le _, Nat.zero_le _⟩ (pc' := 36) rfl ?_
        refine wk_if_ge (tgt := 43) F dX6_drop_36 (by decide) (pc' := 39) rfl (fun c2 => ?_) (fun c2 => ?_)
        · refine wk_aload_n F dX6_drop_43 rfl 0 rfl (pc' := 44) rfl ?_
          refine wk_iload_n F dX6_drop_44 rfl 1 rfl (pc' := 45) rfl ?_
          refine wk_iload_n F dX6_drop_45 rfl 3 rfl (pc' := 46) rfl ?_
          refine wk_same_i F (c6_trims l D cI cP hs u p1 (nI i) hv0 (vp_in_nI (n := i) (N := 40) (by omega) (Nat.le_of_ble_eq_true rfl)) hv1) (cwV 2 F.hts gX6_drop_X6_trims rfl rfl rfl hdX6_trims ⟨Nat.le_of_ble_eq_true rfl, Nat.le_of_ble_eq_true rfl⟩) 0 6 rfl rfl rfl rfl (Nat.le_of_ble_eq_true rfl) dX6_drop_46 ⟨Nat.zero_le _, Nat.zero_le _⟩ (pc' := 49) rfl (fun r4 u3 h5 => ?_)
          refine wk_iadd F dX6_drop_49 (pc' := 50) rfl ?_
          refine wk_istore_n (lv' := [(2, .int (x2 + r4)), (0, .ref (hs 0)), (1, .int p1), (3, .int (nI i))]) F dX6_drop_50 rfl (Nat.le_of_ble_eq_true rfl) rfl (pc' := 51) rfl ?_
          refine wk_iinc (k := 3) (v := nI (i + 1)) (lv' := [(3, .int (nI (i + 1))), (2, .int (x2 + r4)), (0, .ref (hs 0)), (1, .int p1)]) F dX6_drop_51 rfl (nI_inc i) (Nat.le_of_ble_eq_true rfl) rfl (pc' := 54) rfl ?_
          refine wk_goto (tgt := 19) F dX6_drop_54 (by decide) ?_
          refine wk_lv [2, 3, 1, 0] rfl ?_
          exact ih (i + 1) (x2 + r4) u3 (by omega) hv0 (okL_trims hv0 (vp_in_nI (n := i) (N := 40) (by omega) (Nat.le_of_ble_eq_true rfl)) h5 hv1) (fun y2_ u_ h_ => kx y2_ u_ (Eq.trans (by rw [f6_drop_L19] <;> exact (st_neg c1 (st_pos c2 (st_match h5 rfl)))) h_))
        · refine wk_iconst F dX6_drop_39 ic_0 (pc' := 40) rfl ?_
          refine wk_goto (tgt := 49) F dX6_drop_40 (by decide) ?_
          refine wk_iadd F dX6_drop_49 (pc' := 50) rfl ?_
          refine wk_istore_n (lv' := [(2, .int (x2 + (0 : Int32))), (0, .ref (hs 0)), (1, .int p1), (3, .int (nI i))]) F dX6_drop_50 rfl (Nat.le_of_ble_eq_true rfl) rfl (pc' := 51) rfl ?_
          refine wk_iinc (k := 3) (v := nI (i + 1)) (lv' := [(3, .int (nI (i + 1))), (2, .int (x2 + (0 : Int32))), (0, .ref (hs 0)), (1, .int p1)]) F dX6_drop_51 rfl (nI_inc i) (Nat.le_of_ble_eq_true rfl) rfl (pc' := 54) rfl ?_
          refine wk_goto (tgt := 19) F dX6_drop_54 (by decide) ?_
          refine wk_lv [2, 3, 1, 0] rfl ?_
          exact ih (i + 1) (x2 + (0 : Int32)) u (by omega) hv0 hv1 (fun y2_ u_ h_ => kx y2_ u_ (Eq.trans (by rw [f6_drop_L19] <;> exact (st_neg c1 (st_neg c2 rfl))) h_))
  have L66 : ∀ (y2 : Int32) (n : Nat) (i : Nat) (u : PS), i + n = 8 → vp_in p1 8 → (∀ (uu : PS), f6_drop_L66 p1 n i u = uu → Wk p l e ({ frames := 5, cells := 0, slots := 0, locals := 115 } : Room) s m args below meth c 4 D A 0 0 Q (wMod cI hs uu) [(2, .int y2)] 110 []) → Wk p l e ({ frames := 5, cells := 0, slots := 0, locals := 115 } : Room) s m args below meth c 4 D A 0 0 Q (wMod cI hs u) [(0, .ref (hs 0)), (1, .int p1), (2, .int y2), (3, .int (nI i))] 66 [] := by
    intro y2 n
    induction n with
    | zero =>
      intro i u hi hv0 kx
      refine wk_iload_n F dX6_drop_66 rfl 3 rfl (pc' := 67) rfl ?_
      refine wk_bipush F dX6_drop_67 bp_8 (pc' := 69) rfl ?_
      refine wk_icmp_ge (tgt := 110) F dX6_drop_69 (by decide) (pc' := 72) rfl (fun _ => ?_) (fun c => absurd ((nI_leI (a := 8) (b := i) (by omega) (by omega)).mpr (by omega)) c)
      refine wk_lv [2] rfl ?_
      exact kx u (by rw [f6_drop_L66] <;> exact rfl)
    | succ n ih =>
      intro i u hi hv0 kx
      refine wk_iload_n F dX6_drop_66 rfl 3 rfl (pc' := 67) rfl ?_
      refine wk_bipush F dX6_drop_67 bp_8 (pc' := 69) rfl ?_
      refine wk_icmp_ge (tgt := 110) F dX6_drop_69 (by decide) (pc' := 72) rfl (fun c => absurd ((nI_leI (a := 8) (b := i) (by omega) (by omega)).mp c) (by omega)) (fun _ => ?_)
      refine wk_aload_n F dX6_drop_72 rfl 0 rfl (pc' := 73) rfl ?_
      refine wk_iload_n F dX6_drop_73 rfl 3 rfl (pc' := 74) rfl ?_
      refine wk_iconst F dX6_drop_74 ic_0 (pc' := 75) rfl ?_
      refine wk_same_p F (c6_of l D cI cP hs u (nI i) (0 : Int32) (vp_in_nI (n := i) (N := 8) (by omega) (Nat.le_of_ble_eq_true rfl)) (vp_in_nI (n := 0) (N := 47) (Nat.le_of_ble_eq_true rfl) (Nat.le_of_ble_eq_true rfl))) (cwV 2 F.hts gX6_drop_X6_of rfl rfl rfl hdX6_of ⟨Nat.le_of_ble_eq_true rfl, Nat.le_of_ble_eq_true rfl⟩) 0 6 rfl rfl rfl rfl (Nat.le_of_ble_eq_true rfl) dX6_drop_75 ⟨Nat.zero_le _, Nat.zero_le _⟩ (pc' := 78) rfl ?_
      refine wk_iconst F dX6_drop_78 ic_1 (pc' := 79) rfl ?_
      refine wk_icmp_ne (tgt := 104) F dX6_drop_79 (by decide) (pc' := 82) rfl (fun c6 => ?_) (fun c6 => ?_)
      · refine wk_iinc (k := 3) (v := nI (i + 1)) (lv' := [(3, .int (nI (i + 1))), (0, .ref (hs 0)), (1, .int p1), (2, .int y2)]) F dX6_drop_104 rfl (nI_inc i) (Nat.le_of_ble_eq_true rfl) rfl (pc' := 107) rfl ?_
        refine wk_goto (tgt := 66) F dX6_drop_107 (by decide) ?_
        refine wk_lv [1, 2, 3, 0] rfl ?_
        exact ih (i + 1) u (by omega) hv0 (fun u_ h_ => kx u_ (Eq.trans (by rw [f6_drop_L66] <;> exact (st_neg c6 rfl)) h_))
      · refine wk_aload_n F dX6_drop_82 rfl 0 rfl (pc' := 83) rfl ?_
        refine wk_iload_n F dX6_drop_83 rfl 3 rfl (pc' := 84) rfl ?_
        refine wk_iconst F dX6_drop_84 ic_4 (pc' := 85) rfl ?_
        refine wk_same_p F (c6_of l D cI cP hs u (nI i) (4 : Int32) (vp_in_nI (n := i) (N := 8) (by omega) (Nat.le_of_ble_eq_true rfl)) (vp_in_nI (n := 4) (N := 47) (Nat.le_of_ble_eq_true rfl) (Nat.le_of_ble_eq_true rfl))) (cwV 2 F.hts gX6_drop_X6_of rfl rfl rfl hdX6_of ⟨Nat.le_of_ble_eq_true rfl, Nat.le_of_ble_eq_true rfl⟩) 0 6 rfl rfl rfl rfl (Nat.le_of_ble_eq_true rfl) dX6_drop_85 ⟨Nat.zero_le _, Nat.zero_le _⟩ (pc' := 88) rfl ?_
        refine wk_iload_n F dX6_drop_88 rfl 1 rfl (pc' := 89) rfl ?_
        refine wk_icmp_ne (tgt := 104) F dX6_drop_89 (by decide) (pc' := 92) rfl (fun c7 => ?_) (fun c7 => ?_)
        · refine wk_iinc (k := 3) (v := nI (i + 1)) (lv' := [(3, .int (nI (i + 1))), (0, .ref (hs 0)), (1, .int p1), (2, .int y2)]) F dX6_drop_104 rfl (nI_inc i) (Nat.le_of_ble_eq_true rfl) rfl (pc' := 107) rfl ?_
          refine wk_goto (tgt := 66) F dX6_drop_107 (by decide) ?_
          refine wk_lv [1, 2, 3, 0] rfl ?_
          exact ih (i + 1) u (by omega) hv0 (fun u_ h_ => kx u_ (Eq.trans (by rw [f6_drop_L66] <;> exact (st_pos c6 (st_neg c7 rfl))) h_))
        · refine wk_aload_n F dX6_drop_92 rfl 0 rfl (pc' := 93) rfl ?_
          refine wk_iload_n F dX6_drop_93 rfl 3 rfl (pc' := 94) rfl ?_
          refine wk_iconst F dX6_drop_94 ic_4 (pc' := 95) rfl ?_
          refine wk_aload_n F dX6_drop_95 rfl 0 rfl (pc' := 96) rfl ?_
          refine wk_iload_n F dX6_drop_96 rfl 1 rfl (pc' := 97) rfl ?_
          refine wk_iconst F dX6_drop_97 ic_4 (pc' := 98) rfl ?_
          refine wk_same_p F (c6_of l D cI cP hs u p1 (4 : Int32) hv0 (vp_in_nI (n := 4) (N := 47) (Nat.le_of_ble_eq_true rfl) (Nat.le_of_ble_eq_true rfl))) (cwV 2 F.hts gX6_drop_X6_of rfl rfl rfl hdX6_of ⟨Nat.le_of_ble_eq_true rfl, Nat.le_of_ble_eq_true rfl⟩) 0 6 rfl rfl rfl rfl (Nat.le_of_ble_eq_true rfl) dX6_drop_98 ⟨Nat.zero_le _, Nat.zero_le _⟩ (pc' := 101) rfl ?_
          refine wk_same_v F (c6_puts l D cI cP hs u (nI i) (4 : Int32) (f6_of u p1 (4 : Int32)) (vp_in_nI (n := i) (N := 8) (by omega) (Nat.le_of_ble_eq_true rfl)) (vp_in_nI (n := 4) (N := 47) (Nat.le_of_ble_eq_true rfl) (Nat.le_of_ble_eq_true rfl))) (cwV 3 F.hts gX6_drop_X6_puts rfl rfl rfl hdX6_puts ⟨Nat.le_of_ble_eq_true rfl, Nat.le_of_ble_eq_true rfl⟩) 0 6 rfl rfl rfl rfl (Nat.le_of_ble_eq_true rfl) dX6_drop_101 ⟨Nat.zero_le _, Nat.zero_le _⟩ (pc' := 104) rfl (fun u8 h9 => ?_)
          refine wk_iinc (k := 3) (v := nI (i + 1)) (lv' := [(3, .int (nI (i + 1))), (0, .ref (hs 0)), (1, .int p1), (2, .int y2)]) F dX6_drop_104 rfl (nI_inc i) (Nat.le_of_ble_eq_true rfl) rfl (pc' := 107) rfl ?_
          refine wk_goto (tgt := 66) F dX6_drop_107 (by decide) ?_
          refine wk_lv [1, 2, 3, 0] rfl ?_
          exact ih (i + 1) u8 (by omega) hv0 (fun u_ h_ => kx u_ (Eq.trans (by rw [f6_drop_L66] <;> exact (st_pos c6 (st_pos c7 (st_let h9 rfl)))) h_))
  refine wk_aload_n F dX6_drop_0 rfl 0 rfl (pc' := 1) rfl ?_
  refine wk_iload_n F dX6_drop_1 rfl 1 rfl (pc' := 2) rfl ?_
  refine wk_same_p F (c6_isVolume l D cI cP hs σ p1) (cwV 1 F.hts gX6_drop_X6_isVolume rfl rfl rfl hdX6_isVolume ⟨Nat.le_of_ble_eq_true rfl, Nat.le_of_ble_eq_true rfl⟩) 0 6 rfl rfl rfl rfl (Nat.le_of_ble_eq_true rfl) dX6_drop_2 ⟨Nat.zero_le _, Nat.zero_le _⟩ (pc' := 5) rfl ?_
  refine wk_if_ne (tgt := 11) F dX6_drop_5 (by decide) (pc' := 8) rfl (fun c10 => ?_) (fun c10 => ?_)
  · refine wk_aload_n F dX6_drop_11 rfl 0 rfl (pc' := 12) rfl ?_
    refine wk_same_v F (c6_changes l D cI cP hs σ hs_okH) (cwV 0 F.hts gX6_drop_X6_changes rfl rfl rfl hdX6_changes ⟨Nat.le_of_ble_eq_true rfl, Nat.le_of_ble_eq_true rfl⟩) 0 6 rfl rfl rfl rfl (Nat.le_of_ble_eq_true rfl) dX6_drop_12 ⟨Nat.zero_le _, Nat.zero_le _⟩ (pc' := 15) rfl (fun u11 h12 => ?_)
    refine wk_iconst F dX6_drop_15 ic_0 (pc' := 16) rfl ?_
    refine wk_istore_n (lv' := [(2, .int (0 : Int32)), (0, .ref (hs 0)), (1, .int p1)]) F dX6_drop_16 rfl (Nat.le_of_ble_eq_true rfl) rfl (pc' := 17) rfl ?_
    refine wk_iconst F dX6_drop_17 ic_0 (pc' := 18) rfl ?_
    refine wk_istore_n (lv' := [(3, .int (0 : Int32)), (2, .int (0 : Int32)), (0, .ref (hs 0)), (1, .int p1)]) F dX6_drop_18 rfl (Nat.le_of_ble_eq_true rfl) rfl (pc' := 19) rfl ?_
    refine wk_lv [2, 3, 1, 0] rfl ?_
    refine L19 40 0 (0 : Int32) u11 (by omega) (isVolume_in c10) (okL_changes h12 hs_okL) (fun y14 u15 h13 => ?_)
    refine wk_aload_n F dX6_drop_57 rfl 0 rfl (pc' := 58) rfl ?_
    refine wk_iload_n F dX6_drop_58 rfl 1 rfl (pc' := 59) rfl ?_
    refine wk_iconst F dX6_drop_59 ic_0 (pc' := 60) rfl ?_
    refine wk_iconst F dX6_drop_60 ic_0 (pc' := 61) rfl ?_
    refine wk_same_v F (c6_puts l D cI cP hs u15 p1 (0 : Int32) (0 : Int32) (isVolume_in c10) (vp_in_nI (n := 0) (N := 47) (Nat.le_of_ble_eq_true rfl) (Nat.le_of_ble_eq_true rfl))) (cwV 3 F.hts gX6_drop_X6_puts rfl rfl rfl hdX6_puts ⟨Nat.le_of_ble_eq_true rfl, Nat.le_of_ble_eq_true rfl⟩) 0 6 rfl rfl rfl rfl (Nat.le_of_ble_eq_true rfl) dX6_drop_61 ⟨Nat.zero_le _, Nat.zero_le _⟩ (pc' := 64) rfl (fun u16 h17 => ?_)
    refine wk_iconst F dX6_drop_64 ic_0 (pc' := 65) rfl ?_
    refine wk_istore_n (lv' := [(3, .int (0 : Int32)), (0, .ref (hs 0)), (1, .int p1), (2, .int y14)]) F dX6_drop_65 rfl (Nat.le_of_ble_eq_true rfl) rfl (pc' := 66) rfl ?_
    refine wk_lv [1, 2, 3, 0] rfl ?_
    refine L66 y14 8 0 u16 (by omega) (isVolume_in c10) (fun u19 h18 => ?_)
    refine wk_iload_n F dX6_drop_110 rfl 0 rfl (pc' := 111) rfl ?_
    exact hret _ _ _ _ dX6_drop_111 rfl (by rw [f6_drop] <;> exact (st_neg c10 (st_let h12 (st_match h13 (st_let h17 (st_let h18 rfl))))))
  · refine wk_ldc F dX6_drop_8 w_1 (pc' := 10) rfl ?_
    exact hret _ _ _ _ dX6_drop_10 rfl (by rw [f6_drop] <;> exact (st_pos c10 rfl))
def f6_promise (σ : PS) (p1 : Int32) (p2 : Int32) : Int32 × PS := (if (f6_isVolume σ p1) = 0 then ((-1000001 : Int32), σ) else (if (f6_in p2 (0 : Int32) (30 : Int32)) = 0 then ((-1000001 : Int32), σ) else (if (((f6_promises σ) - (f6_of σ p1 (3 : Int32))) + p2) ≤ (f6_free σ) then (sq (f6_changes σ) (fun (u4 : PS) => (sq (f6_puts u4 p1 (3 : Int32) p2) (fun (u6 : PS) => (sq (f6_ends u6 (f6_levelBy u4 (f6_available u4))) (fun (u8 : PS) => (f6_of σ p1 (3 : Int32), u8))))))) else ((-1000002 : Int32), σ))))
set_option maxHeartbeats 4000000 in
set_option maxRecDepth 100000 in
theorem c6_promise (l : Launch) (D : va_G) (cI cP : ClassId) (hs : Nat → Nat) (σ : PS) (p1 : Int32) (p2 : Int32) (hs_okH : okH σ) (hs_okL : okL σ) : CI l yX6_promise wsX6_promise ({ frames := 8, cells := 0, slots := 0, locals := 177 } : Room) D (cty cI cP) (wMod cI hs σ) (wMod cI hs) [.ref (hs 0), .int p1, .int p2] 0 0 (fun r u => f6_promise σ p1 p2 = (r, u)) := by
  refine CI.of (cc := cX6_promise) (maxL := 5) (rt := .int) (own := RX6) (lv0 := [(0, .ref (hs 0)), (1, .int p1), (2, .int p2)]) pnX6 rfl rfl (Nat.le_of_ble_eq_true rfl) rfl (fun p e s m args below meth c A Q F hret => ?_)
  have w_1 := F.at (x := Cond.constant RX6 86 (-1000001)) 1 rfl
  have w_2 := F.at (x := Cond.constant RX6 100 (-1000002)) 2 rfl
  refine wk_aload_n F dX6_promise_0 rfl 0 rfl (pc' := 1) rfl ?_
  refine wk_iload_n F dX6_promise_1 rfl 1 rfl (pc' := 2) rfl ?_
  refine wk_same_p F (c6_isVolume l D cI cP hs σ p1) (cwV 1 F.hts gX6_promise_X6_isVolume rfl rfl rfl hdX6_isVolume ⟨Nat.le_of_ble_eq_true rfl, Nat.le_of_ble_eq_true rfl⟩) 0 6 rfl rfl rfl rfl (Nat.le_of_ble_eq_true rfl) dX6_promise_2 ⟨Nat.zero_le _, Nat.zero_le _⟩ (pc' := 5) rfl ?_
  refine wk_if_eq (tgt := 18) F dX6_promise_5 (by decide) (pc' := 8) rfl (fun c1 => ?_) (fun c1 => ?_)
  · refine wk_ldc F dX6_promise_18 w_1 (pc' := 20) rfl ?_
    exact hret _ _ _ _ dX6_promise_20 rfl (by rw [f6_promise] <;> exact (st_pos c1 rfl))
  · refine wk_iload_n F dX6_promise_8 rfl 2 rfl (pc' := 9) rfl ?_
    refine wk_iconst F dX6_promise_9 ic_0 (pc' := 10) rfl ?_
    refine wk_bipush F dX6_promise_10 bp_30 (pc' := 12) rfl ?_
    refine wk_none_s F (c6_in l D cI cP p2 (0 : Int32) (30 : Int32)) (va_cwS 3 F.hts gX6_promise_X6_in rfl rfl rfl hdX6_in ⟨Nat.le_of_ble_eq_true rfl, Nat.le_of_ble_eq_true rfl⟩) rfl rfl (Nat.le_of_ble_eq_true rfl) dX6_promise_12 ⟨Nat.zero_le _, Nat.zero_le _⟩ (pc' := 15) rfl ?_
    refine wk_if_ne (tgt := 21) F dX6_promise_15 (by decide) (pc' := 18) rfl (fun c2 => ?_) (fun c2 => ?_)
    · refine wk_aload_n F dX6_promise_21 rfl 0 rfl (pc' := 22) rfl ?_
      refine wk_iload_n F dX6_promise_22 rfl 1 rfl (pc' := 23) rfl ?_
      refine wk_iconst F dX6_promise_23 ic_3 (pc' := 24) rfl ?_
      refine wk_same_p F (c6_of l D cI cP hs σ p1 (3 : Int32) (isVolume_in c1) (vp_in_nI (n := 3) (N := 47) (Nat.le_of_ble_eq_true rfl) (Nat.le_of_ble_eq_true rfl))) (cwV 2 F.hts gX6_promise_X6_of rfl rfl rfl hdX6_of ⟨Nat.le_of_ble_eq_true rfl, Nat.le_of_ble_eq_true rfl⟩) 0 6 rfl rfl rfl rfl (Nat.le_of_ble_eq_true rfl) dX6_promise_24 ⟨Nat.zero_le _, Nat.zero_le _⟩ (pc' := 27) rfl ?_
      refine wk_istore_n (lv' := [(3, .int (f6_of σ p1 (3 : Int32))), (0, .ref (hs 0)), (1, .int p1), (2, .int p2)]) F dX6_promise_27 rfl (Nat.le_of_ble_eq_true rfl) rfl (pc' := 28) rfl ?_
      refine wk_aload_n F dX6_promise_28 rfl 1 rfl (pc' := 29) rfl ?_
      refine wk_same_p F (c6_promises l D cI cP hs σ) (cwV 0 F.hts gX6_promise_X6_promises rfl rfl rfl hdX6_promises ⟨Nat.le_of_ble_eq_true rfl, Nat.le_of_ble_eq_true rfl⟩) 0 6 rfl rfl rfl rfl (Nat.le_of_ble_eq_true rfl) dX6_promise_29 ⟨Nat.zero_le _, Nat.zero_le _⟩ (pc' := 32) rfl ?_
      refine wk_iload_n F dX6_promise_32 rfl 0 rfl (pc' := 33) rfl ?_
      refine wk_isub F dX6_promise_33 (pc' := 34) rfl ?_
      refine wk_iload_n F dX6_promise_34 rfl 3 rfl (pc' := 35) rfl ?_
      refine wk_iadd F dX6_promise_35 (pc' := 36) rfl ?_
      refine wk_aload_n F dX6_promise_36 rfl 1 rfl (pc' := 37) rfl ?_
      refine wk_same_p F (c6_free l D cI cP hs σ hs_okL) (cwV 0 F.hts gX6_promise_X6_free rfl rfl rfl hdX6_free ⟨Nat.le_of_ble_eq_true rfl, Nat.le_of_ble_eq_true rfl⟩) 0 6 rfl rfl rfl rfl (Nat.le_of_ble_eq_true rfl) dX6_promise_37 ⟨Nat.zero_le _, Nat.zero_le _⟩ (pc' := 40) rfl ?_
      refine wk_icmp_le (tgt := 46) F dX6_promise_40 (by decide) (pc' := 43) rfl (fun c3 => ?_) (fun c3 => ?_)
      · refine wk_aload_n F dX6_promise_46 rfl 1 rfl (pc' := 47) rfl ?_
        refine wk_same_v F (c6_changes l D cI cP hs σ hs_okH) (cwV 0 F.hts gX6_promise_X6_changes rfl rfl rfl hdX6_changes ⟨Nat.le_of_ble_eq_true rfl, Nat.le_of_ble_eq_true rfl⟩) 0 6 rfl rfl rfl rfl (Nat.le_of_ble_eq_true rfl) dX6_promise_47 ⟨Nat.zero_le _, Nat.zero_le _⟩ (pc' := 50) rfl (fun u4 h5 => ?_)
        refine wk_aload_n F dX6_promise_50 rfl 1 rfl (pc' := 51) rfl ?_
        refine wk_aload_n F dX6_promise_51 rfl 1 rfl (pc' := 52) rfl ?_
        refine wk_same_p F (c6_available l D cI cP hs u4 (okL_changes h5 hs_okL)) (cwV 0 F.hts gX6_promise_X6_available rfl rfl rfl hdX6_available ⟨Nat.le_of_ble_eq_true rfl, Nat.le_of_ble_eq_true rfl⟩) 0 6 rfl rfl rfl rfl (Nat.le_of_ble_eq_true rfl) dX6_promise_52 ⟨Nat.zero_le _, Nat.zero_le _⟩ (pc' := 55) rfl ?_
        refine wk_same_p F (c6_levelBy l D cI cP hs u4 (f6_available u4)) (cwV 1 F.hts gX6_promise_X6_levelBy rfl rfl rfl hdX6_levelBy ⟨Nat.le_of_ble_eq_true rfl, Nat.le_of_ble_eq_true rfl⟩) 0 6 rfl rfl rfl rfl (Nat.le_of_ble_eq_true rfl) dX6_promise_55 ⟨Nat.zero_le _, Nat.zero_le _⟩ (pc' := 58) rfl ?_
        refine wk_istore (lv' := [(4, .int (f6_levelBy u4 (f6_available u4))), (3, .int (f6_of σ p1 (3 : Int32))), (0, .ref (hs 0)), (1, .int p1), (2, .int p2)]) F dX6_promise_58 (Nat.le_of_ble_eq_true rfl) rfl (pc' := 60) rfl ?_
        refine wk_aload_n F dX6_promise_60 rfl 2 rfl (pc' := 61) rfl ?_
        refine wk_iload_n F dX6_promise_61 rfl 3 rfl (pc' := 62) rfl ?_
        refine wk_iconst F dX6_promise_62 ic_3 (pc' := 63) rfl ?_
        refine wk_iload_n F dX6_promise_63 rfl 4 rfl (pc' := 64) rfl ?_
        refine wk_same_v F (c6_puts l D cI cP hs u4 p1 (3 : Int32) p2 (isVolume_in c1) (vp_in_nI (n := 3) (N := 47) (Nat.le_of_ble_eq_true rfl) (Nat.le_of_ble_eq_true rfl))) (cwV 3 F.hts gX6_promise_X6_puts rfl rfl rfl hdX6_puts ⟨Nat.le_of_ble_eq_true rfl, Nat.le_of_ble_eq_true rfl⟩) 0 6 rfl rfl rfl rfl (Nat.le_of_ble_eq_true rfl) dX6_promise_64 ⟨Nat.zero_le _, Nat.zero_le _⟩ (pc' := 67) rfl (fun u6 h7 => ?_)
        refine wk_aload_n F dX6_promise_67 rfl 2 rfl (pc' := 68) rfl ?_
        refine wk_iload F dX6_promise_68 0 rfl (pc' := 70) rfl ?_
        refine wk_same_v F (c6_ends l D cI cP hs u6 (f6_levelBy u4 (f6_available u4)) (okL_puts (w := 3) (by omega) (by omega) (isVolume_in c1) h7 (okL_changes h5 hs_okL))) (cwV 1 F.hts gX6_promise_X6_ends rfl rfl rfl hdX6_ends ⟨Nat.le_of_ble_eq_true rfl, Nat.le_of_ble_eq_true rfl⟩) 0 6 rfl rfl rfl rfl (Nat.le_of_ble_eq_true rfl) dX6_promise_70 ⟨Nat.zero_le _, Nat.zero_le _⟩ (pc' := 73) rfl (fun u8 h9 => ?_)
        refine wk_iload_n F dX6_promise_73 rfl 1 rfl (pc' := 74) rfl ?_
        exact hret _ _ _ _ dX6_promise_74 rfl (by rw [f6_promise] <;> exact (st_neg c1 (st_neg c2 (st_pos c3 (st_let h5 (st_let h7 (st_let h9 rfl)))))))
      · refine wk_ldc F dX6_promise_43 w_2 (pc' := 45) rfl ?_
        exact hret _ _ _ _ dX6_promise_45 rfl (by rw [f6_promise] <;> exact (st_neg c1 (st_neg c2 (st_neg c3 rfl))))
    · refine wk_ldc F dX6_promise_18 w_1 (pc' := 20) rfl ?_
      exact hret _ _ _ _ dX6_promise_20 rfl (by rw [f6_promise] <;> exact (st_neg c1 (st_pos c2 rfl)))
def f6_set (σ : PS) (p1 : Int32) (p2 : Int32) : Int32 × PS := (if (f6_in p1 (0 : Int32) (2 : Int32)) = 0 then ((-1000001 : Int32), σ) else (if p1 = (2 : Int32) then (if (f6_in p2 (0 : Int32) (100 : Int32)) = 0 then ((-1000001 : Int32), σ) else (sq (f6_changes σ) (fun (u11 : PS) => (sq (wr u11 0 p1.toNatClampNeg p2) (fun (u13 : PS) => (sq (f6_ends u13 (f6_levelBy u11 (f6_available u11))) (fun (u15 : PS) => (u11 0 p1.toNatClampNeg, u15)))))))) else (if (f6_in p2 (0 : Int32) (30 : Int32)) = 0 then ((-1000001 : Int32), σ) else (sq (f6_changes σ) (fun (u4 : PS) => (sq (wr u4 0 p1.toNatClampNeg p2) (fun (u6 : PS) => (sq (f6_ends u6 (f6_levelBy u4 (f6_available u4))) (fun (u8 : PS) => (u4 0 p1.toNatClampNeg, u8))))))))))
set_option maxHeartbeats 4000000 in
set_option maxRecDepth 100000 in
theorem c6_set (l : Launch) (D : va_G) (cI cP : ClassId) (hs : Nat → Nat) (σ : PS) (p1 : Int32) (p2 : Int32) (hs_okH : okH σ) (hs_okL : okL σ) : CI l yX6_set wsX6_set ({ frames := 8, cells := 0, slots := 0, locals := 177 } : Room) D (cty cI cP) (wMod cI hs σ) (wMod cI hs) [.ref (hs 0), .int p1, .int p2] 0 0 (fun r u => f6_set σ p1 p2 = (r, u)) := by
  refine CI.of (cc := cX6_set) (maxL := 5) (rt := .int) (own := RX6) (lv0 := [(0, .ref (hs 0)), (1, .int p1), (2, .int p2)]) pnX6 rfl rfl (Nat.le_of_ble_eq_true rfl) rfl (fun p e s m args below meth c A Q F hret => ?_)
  have w_1 := F.at (x := Cond.constant RX6 86 (-1000001)) 1 rfl
  have w_2 := F.at (x := Cond.fieldLink RX6 7 "ThinVolumesModel" "s" "[I") 2 rfl
  have k_6 : ∀ w ∈ wsX60, w ∈ wsX6_set := fun _ h => List.mem_cons_of_mem _ (List.mem_append_right _ (h))
  refine wk_iload_n F dX6_set_0 rfl 1 rfl (pc' := 1) rfl ?_
  refine wk_iconst F dX6_set_1 ic_0 (pc' := 2) rfl ?_
  refine wk_iconst F dX6_set_2 ic_2 (pc' := 3) rfl ?_
  refine wk_none_s F (c6_in l D cI cP p1 (0 : Int32) (2 : Int32)) (va_cwS 3 F.hts gX6_set_X6_in rfl rfl rfl hdX6_in ⟨Nat.le_of_ble_eq_true rfl, Nat.le_of_ble_eq_true rfl⟩) rfl rfl (Nat.le_of_ble_eq_true rfl) dX6_set_3 ⟨Nat.zero_le _, Nat.zero_le _⟩ (pc' := 6) rfl ?_
  refine wk_if_eq (tgt := 29) F dX6_set_6 (by decide) (pc' := 9) rfl (fun c1 => ?_) (fun c1 => ?_)
  · refine wk_ldc F dX6_set_29 w_1 (pc' := 31) rfl ?_
    exact hret _ _ _ _ dX6_set_31 rfl (by rw [f6_set] <;> exact (st_pos c1 rfl))
  · refine wk_iload_n F dX6_set_9 rfl 2 rfl (pc' := 10) rfl ?_
    refine wk_iconst F dX6_set_10 ic_0 (pc' := 11) rfl ?_
    refine wk_iload_n F dX6_set_11 rfl 1 rfl (pc' := 12) rfl ?_
    refine wk_iconst F dX6_set_12 ic_2 (pc' := 13) rfl ?_
    refine wk_icmp_ne (tgt := 21) F dX6_set_13 (by decide) (pc' := 16) rfl (fun c2 => ?_) (fun c2 => ?_)
    · refine wk_bipush F dX6_set_21 bp_30 (pc' := 23) rfl ?_
      refine wk_none_s F (c6_in l D cI cP p2 (0 : Int32) (30 : Int32)) (va_cwS 3 F.hts gX6_set_X6_in rfl rfl rfl hdX6_in ⟨Nat.le_of_ble_eq_true rfl, Nat.le_of_ble_eq_true rfl⟩) rfl rfl (Nat.le_of_ble_eq_true rfl) dX6_set_23 ⟨Nat.zero_le _, Nat.zero_le _⟩ (pc' := 26) rfl ?_
      refine wk_if_ne (tgt := 32) F dX6_set_26 (by decide) (pc' := 29) rfl (fun c3 => ?_) (fun c3 => ?_)
      · refine wk_aload_n F dX6_set_32 rfl 0 rfl (pc' := 33) rfl ?_
        refine wk_same_v F (c6_changes l D cI cP hs σ hs_okH) (cwV 0 F.hts gX6_set_X6_changes rfl rfl rfl hdX6_changes ⟨Nat.le_of_ble_eq_true rfl, Nat.le_of_ble_eq_true rfl⟩) 0 6 rfl rfl rfl rfl (Nat.le_of_ble_eq_true rfl) dX6_set_33 ⟨Nat.zero_le _, Nat.zero_le _⟩ (pc' := 36) rfl (fun u4 h5 => ?_)
        refine wk_aload_n F dX6_set_36 rfl 0 rfl (pc' := 37) rfl ?_
        refine wk_aload_n F dX6_set_37 rfl 0 rfl (pc' := 38) rfl ?_
        refine wk_same_p F (c6_available l D cI cP hs u4 (okL_changes h5 hs_okL)) (cwV 0 F.hts gX6_set_X6_available rfl rfl rfl hdX6_available ⟨Nat.le_of_ble_eq_true rfl, Nat.le_of_ble_eq_true rfl⟩) 0 6 rfl rfl rfl rfl (Nat.le_of_ble_eq_true rfl) dX6_set_38 ⟨Nat.zero_le _, Nat.zero_le _⟩ (pc' := 41) rfl ?_
        refine wk_same_p F (c6_levelBy l D cI cP hs u4 (f6_available u4)) (cwV 1 F.hts gX6_set_X6_levelBy rfl rfl rfl hdX6_levelBy ⟨Nat.le_of_ble_eq_true rfl, Nat.le_of_ble_eq_true rfl⟩) 0 6 rfl rfl rfl rfl (Nat.le_of_ble_eq_true rfl) dX6_set_41 ⟨Nat.zero_le _, Nat.zero_le _⟩ (pc' := 44) rfl ?_
        refine wk_istore_n (lv' := [(3, .int (f6_levelBy u4 (f6_available u4))), (0, .ref (hs 0)), (1, .int p1), (2, .int p2)]) F dX6_set_44 rfl (Nat.le_of_ble_eq_true rfl) rfl (pc' := 45) rfl ?_
        refine wk_aload_n F dX6_set_45 rfl 1 rfl (pc' := 46) rfl ?_
        refine wk_get (C := RX6) (T := TX6) (N := 12) F 0 rfl rfl k_6 0 (Nat.le_of_ble_eq_true rfl) w_2 rfl dX6_set_46 (pc' := 49) rfl ?_
        refine wk_iload_n F dX6_set_49 rfl 2 rfl (pc' := 50) rfl ?_
        refine wk_iald F 1 0 rfl rfl (vin_mono (in_of c1 (Nat.le_of_ble_eq_true rfl)) (Nat.le_of_ble_eq_true rfl)) dX6_set_50 (pc' := 51) rfl ?_
        refine wk_istore (lv' := [(4, .int (u4 0 p1.toNatClampNeg)), (3, .int (f6_levelBy u4 (f6_available u4))), (0, .ref (hs 0)), (1, .int p1), (2, .int p2)]) F dX6_set_51 (Nat.le_of_ble_eq_true rfl) rfl (pc' := 53) rfl ?_
        refine wk_aload_n F dX6_set_53 rfl 2 rfl (pc' := 54) rfl ?_
        refine wk_get (C := RX6) (T := TX6) (N := 12) F 0 rfl rfl k_6 0 (Nat.le_of_ble_eq_true rfl) w_2 rfl dX6_set_54 (pc' := 57) rfl ?_
        refine wk_iload_n F dX6_set_57 rfl 3 rfl (pc' := 58) rfl ?_
        refine wk_iload_n F dX6_set_58 rfl 4 rfl (pc' := 59) rfl ?_
        refine wk_iastu (wg := wMod cI hs) (f0 := wr u4 0 p1.toNatClampNeg p2) F 1 0 rfl rfl aM_0 (vin_mono (in_of c1 (Nat.le_of_ble_eq_true rfl)) (Nat.le_of_ble_eq_true rfl)) dX6_set_59 (pc' := 60) rfl (fun u6 h7 => ?_)
        refine wk_aload_n F dX6_set_60 rfl 2 rfl (pc' := 61) rfl ?_
        refine wk_iload_n F dX6_set_61 rfl 1 rfl (pc' := 62) rfl ?_
        refine wk_same_v F (c6_ends l D cI cP hs u6 (f6_levelBy u4 (f6_available u4)) (okL_wrin (vin_mono (in_of c1 (Nat.le_of_ble_eq_true rfl)) (Nat.le_of_ble_eq_true rfl)) h7 (okL_changes h5 hs_okL))) (cwV 1 F.hts gX6_set_X6_ends rfl rfl rfl hdX6_ends ⟨Nat.le_of_ble_eq_true rfl, Nat.le_of_ble_eq_true rfl⟩) 0 6 rfl rfl rfl rfl (Nat.le_of_ble_eq_true rfl) dX6_set_62 ⟨Nat.zero_le _, Nat.zero_le _⟩ (pc' := 65) rfl (fun u8 h9 => ?_)
        refine wk_iload F dX6_set_65 0 rfl (pc' := 67) rfl ?_
        exact hret _ _ _ _ dX6_set_67 rfl (by rw [f6_set] <;> exact (st_neg c1 (st_neg c2 (st_neg c3 (st_let h5 (st_let h7 (st_let h9 rfl)))))))
      · refine wk_ldc F dX6_set_29 w_1 (pc' := 31) rfl ?_
        exact hret _ _ _ _ dX6_set_31 rfl (by rw [f6_set] <;> exact (st_neg c1 (st_neg c2 (st_pos c3 rfl))))
    · refine wk_bipush F dX6_set_16 bp_100 (pc' := 18) rfl ?_
      refine wk_goto (tgt := 23) F dX6_set_18 (by decide) ?_
      refine wk_none_s F (c6_in l D cI cP p2 (0 : Int32) (100 : Int32)) (va_cwS 3 F.hts gX6_set_X6_in rfl rfl rfl hdX6_in ⟨Nat.le_of_ble_eq_true rfl, Nat.le_of_ble_eq_true rfl⟩) rfl rfl (Nat.le_of_ble_eq_true rfl) dX6_set_23 ⟨Nat.zero_le _, Nat.zero_le _⟩ (pc' := 26) rfl ?_
      refine wk_if_ne (tgt := 32) F dX6_set_26 (by decide) (pc' := 29) rfl (fun c10 => ?_) (fun c10 => ?_)
      · refine wk_aload_n F dX6_set_32 rfl 0 rfl (pc' := 33) rfl ?_
        refine wk_same_v F (c6_changes l D cI cP hs σ hs_okH) (cwV 0 F.hts gX6_set_X6_changes rfl rfl rfl hdX6_changes ⟨Nat.le_of_ble_eq_true rfl, Nat.le_of_ble_eq_true rfl⟩) 0 6 rfl rfl rfl rfl (Nat.le_of_ble_eq_true rfl) dX6_set_33 ⟨Nat.zero_le _, Nat.zero_le _⟩ (pc' := 36) rfl (fun u11 h12 => ?_)
        refine wk_aload_n F dX6_set_36 rfl 0 rfl (pc' := 37) rfl ?_
        refine wk_aload_n F dX6_set_37 rfl 0 rfl (pc' := 38) rfl ?_
        refine wk_same_p F (c6_available l D cI cP hs u11 (okL_changes h12 hs_okL)) (cwV 0 F.hts gX6_set_X6_available rfl rfl rfl hdX6_available ⟨Nat.le_of_ble_eq_true rfl, Nat.le_of_ble_eq_true rfl⟩) 0 6 rfl rfl rfl rfl (Nat.le_of_ble_eq_true rfl) dX6_set_38 ⟨Nat.zero_le _, Nat.zero_le _⟩ (pc' := 41) rfl ?_
        refine wk_same_p F (c6_levelBy l D cI cP hs u11 (f6_available u11)) (cwV 1 F.hts gX6_set_X6_levelBy rfl rfl rfl hdX6_levelBy ⟨Nat.le_of_ble_eq_true rfl, Nat.le_of_ble_eq_true rfl⟩) 0 6 rfl rfl rfl rfl (Nat.le_of_ble_eq_true rfl) dX6_set_41 ⟨Nat.zero_le _, Nat.zero_le _⟩ (pc' := 44) rfl ?_
        refine wk_istore_n (lv' := [(3, .int (f6_levelBy u11 (f6_available u11))), (0, .ref (hs 0)), (1, .int p1), (2, .int p2)]) F dX6_set_44 rfl (Nat.le_of_ble_eq_true rfl) rfl (pc' := 45) rfl ?_
        refine wk_aload_n F dX6_set_45 rfl 1 rfl (pc' := 46) rfl ?_
        refine wk_get (C := RX6) (T := TX6) (N := 12) F 0 rfl rfl k_6 0 (Nat.le_of_ble_eq_true rfl) w_2 rfl dX6_set_46 (pc' := 49) rfl ?_
        refine wk_iload_n F dX6_set_49 rfl 2 rfl (pc' := 50) rfl ?_
        refine wk_iald F 1 0 rfl rfl (vin_mono (in_of c1 (Nat.le_of_ble_eq_true rfl)) (Nat.le_of_ble_eq_true rfl)) dX6_set_50 (pc' := 51) rfl ?_
        refine wk_istore (lv' := [(4, .int (u11 0 p1.toNatClampNeg)), (3, .int (f6_levelBy u11 (f6_available u11))), (0, .ref (hs 0)), (1, .int p1), (2, .int p2)]) F dX6_set_51 (Nat.le_of_ble_eq_true rfl) rfl (pc' := 53) rfl ?_
        refine wk_aload_n F dX6_set_53 rfl 2 rfl (pc' := 54) rfl ?_
        refine wk_get (C := RX6) (T := TX6) (N := 12) F 0 rfl rfl k_6 0 (Nat.le_of_ble_eq_true rfl) w_2 rfl dX6_set_54 (pc' := 57) rfl ?_
        refine wk_iload_n F dX6_set_57 rfl 3 rfl (pc' := 58) rfl ?_
        refine wk_iload_n F dX6_set_58 rfl 4 rfl (pc' := 59) rfl ?_
        refine wk_iastu (wg := wMod cI hs) (f0 := wr u11 0 p1.toNatClampNeg p2) F 1 0 rfl rfl aM_0 (vin_mono (in_of c1 (Nat.le_of_ble_eq_true rfl)) (Nat.le_of_ble_eq_true rfl)) dX6_set_59 (pc' := 60) rfl (fun u13 h14 => ?_)
        refine wk_aload_n F dX6_set_60 rfl 2 rfl (pc' := 61) rfl ?_
        refine wk_iload_n F dX6_set_61 rfl 1 rfl (pc' := 62) rfl ?_
        refine wk_same_v F (c6_ends l D cI cP hs u13 (f6_levelBy u11 (f6_available u11)) (okL_wrin (vin_mono (in_of c1 (Nat.le_of_ble_eq_true rfl)) (Nat.le_of_ble_eq_true rfl)) h14 (okL_changes h12 hs_okL))) (cwV 1 F.hts gX6_set_X6_ends rfl rfl rfl hdX6_ends ⟨Nat.le_of_ble_eq_true rfl, Nat.le_of_ble_eq_true rfl⟩) 0 6 rfl rfl rfl rfl (Nat.le_of_ble_eq_true rfl) dX6_set_62 ⟨Nat.zero_le _, Nat.zero_le _⟩ (pc' := 65) rfl (fun u15 h16 => ?_)
        refine wk_iload F dX6_set_65 0 rfl (pc' := 67) rfl ?_
        exact hret _ _ _ _ dX6_set_67 rfl (by rw [f6_set] <;> exact (st_neg c1 (st_pos c2 (st_neg c10 (st_let h12 (st_let h14 (st_let h16 rfl)))))))
      · refine wk_ldc F dX6_set_29 w_1 (pc' := 31) rfl ?_
        exact hret _ _ _ _ dX6_set_31 rfl (by rw [f6_set] <;> exact (st_neg c1 (st_pos c2 (st_pos c10 rfl))))
def f6_write (σ : PS) (p1 : Int32) (p2 : Int32) (p3 : Int32) : Int32 × PS := (if (f6_isPlace σ p1 p2) = 0 then ((-1000001 : Int32), σ) else (if (f6_in p3 (0 : Int32) (99 : Int32)) = 0 then ((-1000001 : Int32), σ) else (sq (f6_changes σ) (fun (u3 : PS) => (if (f6_piece u3 p1 p2) < 0 then (sq2 (f6_asks u3 p1 (f6_available u3)) (fun (r7 : Int32) (u6 : PS) => (if r7 = 0 then (sq (f6_puts u6 p1 (5 : Int32) ((f6_of u6 p1 (5 : Int32)) + (1 : Int32))) (fun (u28 : PS) => (sq (wr u28 0 3 ((u28 0 3) + (1 : Int32))) (fun (u30 : PS) => (sq (f6_warns u30 (1 : Int32) p1) (fun (u32 : PS) => ((-1000005 : Int32), u32))))))) else (sq (f6_puts u6 p1 ((7 : Int32) + p2) (f6_lowestFree u6)) (fun (u10 : PS) => (sq (wr u10 0 ((7 : Int32) + (f6_lowestFree u6)).toNatClampNeg p3) (fun (u12 : PS) => (sq (f6_puts u12 p1 (6 : Int32) ((f6_of u12 p1 (6 : Int32)) + (1 : Int32))) (fun (u14 : PS) => (sq (wr u14 0 4 ((u14 0 4) + (1 : Int32))) (fun (u16 : PS) => (if r7 = (2 : Int32) then (if (f6_of u16 p1 (3 : Int32)) = 0 then (sq (f6_warns u16 (2 : Int32) p1) (fun (u24 : PS) => (sq (f6_ends u24 (f6_levelBy u3 (f6_available u3))) (fun (u26 : PS) => (f6_lowestFree u6, u26))))) else (sq (f6_ends u16 (f6_levelBy u3 (f6_available u3))) (fun (u22 : PS) => (f6_lowestFree u6, u22)))) else (sq (f6_ends u16 (f6_levelBy u3 (f6_available u3))) (fun (u19 : PS) => (f6_lowestFree u6, u19))))))))))))))) else (if (f6_owners u3 (f6_piece u3 p1 p2)) = (1 : Int32) then (sq (wr u3 0 ((7 : Int32) + (f6_piece u3 p1 p2)).toNatClampNeg p3) (fun (u63 : PS) => (f6_piece u3 p1 p2, u63))) else (sq2 (f6_asks u3 p1 (f6_available u3)) (fun (r36 : Int32) (u35 : PS) => (if r36 = 0 then (sq (f6_puts u35 p1 (5 : Int32) ((f6_of u35 p1 (5 : Int32)) + (1 : Int32))) (fun (u57 : PS) => (sq (wr u57 0 3 ((u57 0 3) + (1 : Int32))) (fun (u59 : PS) => (sq (f6_warns u59 (1 : Int32) p1) (fun (u61 : PS) => ((-1000005 : Int32), u61))))))) else (sq (f6_puts u35 p1 ((7 : Int32) + p2) (f6_lowestFree u35)) (fun (u39 : PS) => (sq (wr u39 0 ((7 : Int32) + (f6_lowestFree u35)).toNatClampNeg p3) (fun (u41 : PS) => (sq (f6_puts u41 p1 (6 : Int32) ((f6_of u41 p1 (6 : Int32)) + (1 : Int32))) (fun (u43 : PS) => (sq (wr u43 0 4 ((u43 0 4) + (1 : Int32))) (fun (u45 : PS) => (if r36 = (2 : Int32) then (if (f6_of u45 p1 (3 : Int32)) = 0 then (sq (f6_warns u45 (2 : Int32) p1) (fun (u53 : PS) => (sq (f6_ends u53 (f6_levelBy u3 (f6_available u3))) (fun (u55 : PS) => (f6_lowestFree u35, u55))))) else (sq (f6_ends u45 (f6_levelBy u3 (f6_available u3))) (fun (u51 : PS) => (f6_lowestFree u35, u51)))) else (sq (f6_ends u45 (f6_levelBy u3 (f6_available u3))) (fun (u48 : PS) => (f6_lowestFree u35, u48)))))))))))))))))))))
set_option maxHeartbeats 4000000 in
set_option maxRecDepth 100000 in
theorem c6_write (l : Launch) (D : va_G) (cI cP : ClassId) (hs : Nat → Nat) (σ : PS) (p1 : Int32) (p2 : Int32) (p3 : Int32) (hs_okH : okH σ) (hs_okL : okL σ) (hs_okP : okP σ) : CI l yX6_write wsX6_write ({ frames := 8, cells := 0, slots := 0, locals := 177 } : Room) D (cty cI cP) (wMod cI hs σ) (wMod cI hs) [.ref (hs 0), .int p1, .int p2, .int p3] 0 0 (fun r u => f6_write σ p1 p2 p3 = (r, u)) := by
  refine CI.of (cc := cX6_write) (maxL := 9) (rt := .int) (own := RX6) (lv0 := [(0, .ref (hs 0)), (1, .int p1), (2, .int p2), (3, .int p3)]) pnX6 rfl rfl (Nat.le_of_ble_eq_true rfl) rfl (fun p e s m args below meth c A Q F hret => ?_)
  have w_1 := F.at (x := Cond.constant RX6 86 (-1000001)) 1 rfl
  have w_2 := F.at (x := Cond.fieldLink RX6 7 "ThinVolumesModel" "s" "[I") 2 rfl
  have w_3 := F.at (x := Cond.constant RX6 112 (-1000005)) 3 rfl
  have k_6 : ∀ w ∈ wsX60, w ∈ wsX6_write := fun _ h => List.mem_cons_of_mem _ (List.mem_append_right _ (h))
  refine wk_aload_n F dX6_write_0 rfl 0 rfl (pc' := 1) rfl ?_
  refine wk_iload_n F dX6_write_1 rfl 1 rfl (pc' := 2) rfl ?_
  refine wk_iload_n F dX6_write_2 rfl 2 rfl (pc' := 3) rfl ?_
  refine wk_same_p F (c6_isPlace l D cI cP hs σ p1 p2) (cwV 2 F.hts gX6_write_X6_isPlace rfl rfl rfl hdX6_isPlace ⟨Nat.le_of_ble_eq_true rfl, Nat.le_of_ble_eq_true rfl⟩) 0 6 rfl rfl rfl rfl (Nat.le_of_ble_eq_true rfl) dX6_write_3 ⟨Nat.zero_le _, Nat.zero_le _⟩ (pc' := 6) rfl ?_
  refine wk_if_eq (tgt := 19) F dX6_write_6 (by decide) (pc' := 9) rfl (fun c1 => ?_) (fun c1 => ?_)
  · refine wk_ldc F dX6_write_19 w_1 (pc' := 21) rfl ?_
    exact hret _ _ _ _ dX6_write_21 rfl (by rw [f6_write] <;> exact (st_pos c1 rfl))
  · refine wk_iload_n F dX6_write_9 rfl 3 rfl (pc' := 10) rfl ?_
    refine wk_iconst F dX6_write_10 ic_0 (pc' := 11) rfl ?_
    refine wk_bipush F dX6_write_11 bp_99 (pc' := 13) rfl ?_
    refine wk_none_s F (c6_in l D cI cP p3 (0 : Int32) (99 : Int32)) (va_cwS 3 F.hts gX6_write_X6_in rfl rfl rfl hdX6_in ⟨Nat.le_of_ble_eq_true rfl, Nat.le_of_ble_eq_true rfl⟩) rfl rfl (Nat.le_of_ble_eq_true rfl) dX6_write_13 ⟨Nat.zero_le _, Nat.zero_le _⟩ (pc' := 16) rfl ?_
    refine wk_if_ne (tgt := 22) F dX6_write_16 (by decide) (pc' := 19) rfl (fun c2 => ?_) (fun c2 => ?_)
    · refine wk_aload_n F dX6_write_22 rfl 0 rfl (pc' := 23) rfl ?_
      refine wk_same_v F (c6_changes l D cI cP hs σ hs_okH) (cwV 0 F.hts gX6_write_X6_changes rfl rfl rfl hdX6_changes ⟨Nat.le_of_ble_eq_true rfl, Nat.le_of_ble_eq_true rfl⟩) 0 6 rfl rfl rfl rfl (Nat.le_of_ble_eq_true rfl) dX6_write_23 ⟨Nat.zero_le _, Nat.zero_le _⟩ (pc' := 26) rfl (fun u3 h4 => ?_)
      refine wk_aload_n F dX6_write_26 rfl 0 rfl (pc' := 27) rfl ?_
      refine wk_iload_n F dX6_write_27 rfl 1 rfl (pc' := 28) rfl ?_
      refine wk_iload_n F dX6_write_28 rfl 2 rfl (pc' := 29) rfl ?_
      refine wk_same_p F (c6_piece l D cI cP hs u3 p1 p2 (isPlace_v c1) (isPlace_p hs_okL c1)) (cwV 2 F.hts gX6_write_X6_piece rfl rfl rfl hdX6_piece ⟨Nat.le_of_ble_eq_true rfl, Nat.le_of_ble_eq_true rfl⟩) 0 6 rfl rfl rfl rfl (Nat.le_of_ble_eq_true rfl) dX6_write_29 ⟨Nat.zero_le _, Nat.zero_le _⟩ (pc' := 32) rfl ?_
      refine wk_istore (lv' := [(4, .int (f6_piece u3 p1 p2)), (0, .ref (hs 0)), (1, .int p1), (2, .int p2), (3, .int p3)]) F dX6_write_32 (Nat.le_of_ble_eq_true rfl) rfl (pc' := 34) rfl ?_
      refine wk_iload F dX6_write_34 0 rfl (pc' := 36) rfl ?_
      refine wk_if_lt (tgt := 63) F dX6_write_36 (by decide) (pc' := 39) rfl (fun c5 => ?_) (fun c5 => ?_)
      · refine wk_aload_n F dX6_write_63 rfl 1 rfl (pc' := 64) rfl ?_
        refine wk_same_p F (c6_available l D cI cP hs u3 (okL_changes h4 hs_okL)) (cwV 0 F.hts gX6_write_X6_available rfl rfl rfl hdX6_available ⟨Nat.le_of_ble_eq_true rfl, Nat.le_of_ble_eq_true rfl⟩) 0 6 rfl rfl rfl rfl (Nat.le_of_ble_eq_true rfl) dX6_write_64 ⟨Nat.zero_le _, Nat.zero_le _⟩ (pc' := 67) rfl ?_
        refine wk_istore (lv' := [(5, .int (f6_available u3)), (4, .int (f6_piece u3 p1 p2)), (0, .ref (hs 0)), (1, .int p1), (2, .int p2), (3, .int p3)]) F dX6_write_67 (Nat.le_of_ble_eq_true rfl) rfl (pc' := 69) rfl ?_
        refine wk_aload_n F dX6_write_69 rfl 2 rfl (pc' := 70) rfl ?_
        refine wk_iload F dX6_write_70 0 rfl (pc' := 72) rfl ?_
        refine wk_same_p F (c6_levelBy l D cI cP hs u3 (f6_available u3)) (cwV 1 F.hts gX6_write_X6_levelBy rfl rfl rfl hdX6_levelBy ⟨Nat.le_of_ble_eq_true rfl, Nat.le_of_ble_eq_true rfl⟩) 0 6 rfl rfl rfl rfl (Nat.le_of_ble_eq_true rfl) dX6_write_72 ⟨Nat.zero_le _, Nat.zero_le _⟩ (pc' := 75) rfl ?_
        refine wk_istore (lv' := [(6, .int (f6_levelBy u3 (f6_available u3))), (5, .int (f6_available u3)), (4, .int (f6_piece u3 p1 p2)), (0, .ref (hs 0)), (1, .int p1), (2, .int p2), (3, .int p3)]) F dX6_write_75 (Nat.le_of_ble_eq_true rfl) rfl (pc' := 77) rfl ?_
        refine wk_aload_n F dX6_write_77 rfl 3 rfl (pc' := 78) rfl ?_
        refine wk_iload_n F dX6_write_78 rfl 4 rfl (pc' := 79) rfl ?_
        refine wk_iload F dX6_write_79 1 rfl (pc' := 81) rfl ?_
        refine wk_same_i F (c6_asks l D cI cP hs u3 p1 (f6_available u3) (isPlace_v c1)) (cwV 2 F.hts gX6_write_X6_asks rfl rfl rfl hdX6_asks ⟨Nat.le_of_ble_eq_true rfl, Nat.le_of_ble_eq_true rfl⟩) 0 6 rfl rfl rfl rfl (Nat.le_of_ble_eq_true rfl) dX6_write_81 ⟨Nat.zero_le _, Nat.zero_le _⟩ (pc' := 84) rfl (fun r7 u6 h8 => ?_)
        refine wk_istore (lv' := [(7, .int r7), (6, .int (f6_levelBy u3 (f6_available u3))), (5, .int (f6_available u3)), (4, .int (f6_piece u3 p1 p2)), (0, .ref (hs 0)), (1, .int p1), (2, .int p2), (3, .int p3)]) F dX6_write_84 (Nat.le_of_ble_eq_true rfl) rfl (pc' := 86) rfl ?_
        refine wk_iload F dX6_write_86 0 rfl (pc' := 88) rfl ?_
        refine wk_if_ne (tgt := 124) F dX6_write_88 (by decide) (pc' := 91) rfl (fun c9 => ?_) (fun c9 => ?_)
        · refine wk_aload_n F dX6_write_124 rfl 4 rfl (pc' := 125) rfl ?_
          refine wk_same_p F (c6_lowestFree l D cI cP hs u6 (okL_asks (isPlace_v c1) h8 (okL_changes h4 hs_okL))) (cwV 0 F.hts gX6_write_X6_lowestFree rfl rfl rfl hdX6_lowestFree ⟨Nat.le_of_ble_eq_true rfl, Nat.le_of_ble_eq_true rfl⟩) 0 6 rfl rfl rfl rfl (Nat.le_of_ble_eq_true rfl) dX6_write_125 ⟨Nat.zero_le _, Nat.zero_le _⟩ (pc' := 128) rfl ?_
          refine wk_istore (lv' := [(8, .int (f6_lowestFree u6)), (7, .int r7), (6, .int (f6_levelBy u3 (f6_available u3))), (5, .int (f6_available u3)), (4, .int (f6_piece u3 p1 p2)), (0, .ref (hs 0)), (1, .int p1), (2, .int p2), (3, .int p3)]) F dX6_write_128 (Nat.le_of_ble_eq_true rfl) rfl (pc' := 130) rfl ?_
          refine wk_aload_n F dX6_write_130 rfl 5 rfl (pc' := 131) rfl ?_
          refine wk_iload_n F dX6_write_131 rfl 6 rfl (pc' := 132) rfl ?_
          refine wk_bipush F dX6_write_132 bp_7 (pc' := 134) rfl ?_
          refine wk_iload_n F dX6_write_134 rfl 7 rfl (pc' := 135) rfl ?_
          refine wk_iadd F dX6_write_135 (pc' := 136) rfl ?_
          refine wk_iload F dX6_write_136 0 rfl (pc' := 138) rfl ?_
          refine wk_same_v F (c6_puts l D cI cP hs u6 p1 ((7 : Int32) + p2) (f6_lowestFree u6) (isPlace_v c1) (in47 (isPlace_p hs_okL c1))) (cwV 3 F.hts gX6_write_X6_puts rfl rfl rfl hdX6_puts ⟨Nat.le_of_ble_eq_true rfl, Nat.le_of_ble_eq_true rfl⟩) 0 6 rfl rfl rfl rfl (Nat.le_of_ble_eq_true rfl) dX6_write_138 ⟨Nat.zero_le _, Nat.zero_le _⟩ (pc' := 141) rfl (fun u10 h11 => ?_)
          refine wk_aload_n F dX6_write_141 rfl 5 rfl (pc' := 142) rfl ?_
          refine wk_get (C := RX6) (T := TX6) (N := 12) F 0 rfl rfl k_6 0 (Nat.le_of_ble_eq_true rfl) w_2 rfl dX6_write_142 (pc' := 145) rfl ?_
          refine wk_bipush F dX6_write_145 bp_7 (pc' := 147) rfl ?_
          refine wk_iload F dX6_write_147 0 rfl (pc' := 149) rfl ?_
          refine wk_iadd F dX6_write_149 (pc' := 150) rfl ?_
          refine wk_iload_n F dX6_write_150 rfl 8 rfl (pc' := 151) rfl ?_
          refine wk_iastu (wg := wMod cI hs) (f0 := wr u10 0 ((7 : Int32) + (f6_lowestFree u6)).toNatClampNeg p3) F 1 0 rfl rfl aM_0 (vin_mono (ix_low (lowestFree_in _)) (Nat.le_of_ble_eq_true rfl)) dX6_write_151 (pc' := 152) rfl (fun u12 h13 => ?_)
          refine wk_aload_n F dX6_write_152 rfl 5 rfl (pc' := 153) rfl ?_
          refine wk_iload_n F dX6_write_153 rfl 6 rfl (pc' := 154) rfl ?_
          refine wk_bipush F dX6_write_154 bp_6 (pc' := 156) rfl ?_
          refine wk_aload_n F dX6_write_156 rfl 5 rfl (pc' := 157) rfl ?_
          refine wk_iload_n F dX6_write_157 rfl 6 rfl (pc' := 158) rfl ?_
          refine wk_bipush F dX6_write_158 bp_6 (pc' := 160) rfl ?_
          refine wk_same_p F (c6_of l D cI cP hs u12 p1 (6 : Int32) (isPlace_v c1) (vp_in_nI (n := 6) (N := 47) (Nat.le_of_ble_eq_true rfl) (Nat.le_of_ble_eq_true rfl))) (cwV 2 F.hts gX6_write_X6_of rfl rfl rfl hdX6_of ⟨Nat.le_of_ble_eq_true rfl, Nat.le_of_ble_eq_true rfl⟩) 0 6 rfl rfl rfl rfl (Nat.le_of_ble_eq_true rfl) dX6_write_160 ⟨Nat.zero_le _, Nat.zero_le _⟩ (pc' := 163) rfl ?_
          refine wk_iconst F dX6_write_163 ic_1 (pc' := 164) rfl ?_
          refine wk_iadd F dX6_write_164 (pc' := 165) rfl ?_
          refine wk_same_v F (c6_puts l D cI cP hs u12 p1 (6 : Int32) ((f6_of u12 p1 (6 : Int32)) + (1 : Int32)) (isPlace_v c1) (vp_in_nI (n := 6) (N := 47) (Nat.le_of_ble_eq_true rfl) (Nat.le_of_ble_eq_true rfl))) (cwV 3 F.hts gX6_write_X6_puts rfl rfl rfl hdX6_puts ⟨Nat.le_of_ble_eq_true rfl, Nat.le_of_ble_eq_true rfl⟩) 0 6 rfl rfl rfl rfl (Nat.le_of_ble_eq_true rfl) dX6_write_165 ⟨Nat.zero_le _, Nat.zero_le _⟩ (pc' := 168) rfl (fun u14 h15 => ?_)
          refine wk_aload_n F dX6_write_168 rfl 5 rfl (pc' := 169) rfl ?_
          refine wk_get (C := RX6) (T := TX6) (N := 12) F 0 rfl rfl k_6 0 (Nat.le_of_ble_eq_true rfl) w_2 rfl dX6_write_169 (pc' := 172) rfl ?_
          refine wk_iconst F dX6_write_172 ic_4 (pc' := 173) rfl ?_
          refine wk_dup2 F dX6_write_173 rfl rfl (pc' := 174) rfl ?_
          refine wk_iald_n (i := 4) F 1 0 rfl rfl (by omega) (Nat.le_of_ble_eq_true rfl) dX6_write_174 (pc' := 175) rfl ?_
          refine wk_iconst F dX6_write_175 ic_1 (pc' := 176) rfl ?_
          refine wk_iadd F dX6_write_176 (pc' := 177) rfl ?_
          refine wk_iastu_n (wg := wMod cI hs) (f0 := wr u14 0 4 ((u14 0 4) + (1 : Int32))) (i := 4) F 1 0 rfl rfl aM_0 (by omega) (Nat.le_of_ble_eq_true rfl) dX6_write_177 (pc' := 178) rfl (fun u16 h17 => ?_)
          refine wk_iload F dX6_write_178 1 rfl (pc' := 180) rfl ?_
          refine wk_iconst F dX6_write_180 ic_2 (pc' := 181) rfl ?_
          refine wk_icmp_ne (tgt := 199) F dX6_write_181 (by decide) (pc' := 184) rfl (fun c18 => ?_) (fun c18 => ?_)
          · refine wk_aload_n F dX6_write_199 rfl 5 rfl (pc' := 200) rfl ?_
            refine wk_iload F dX6_write_200 2 rfl (pc' := 202) rfl ?_
            refine wk_same_v F (c6_ends l D cI cP hs u16 (f6_levelBy u3 (f6_available u3)) (okL_wrlow (by omega) h17 (okL_puts (w := 6) (by omega) (by omega) (isPlace_v c1) h15 (okL_wrin (vin_mono (ix_low (lowestFree_in _)) (Nat.le_of_ble_eq_true rfl)) h13 (okL_puts7 (isPlace_p hs_okL c1) (isPlace_v c1) h11 (okL_asks (isPlace_v c1) h8 (okL_changes h4 hs_okL))))))) (cwV 1 F.hts gX6_write_X6_ends rfl rfl rfl hdX6_ends ⟨Nat.le_of_ble_eq_true rfl, Nat.le_of_ble_eq_true rfl⟩) 0 6 rfl rfl rfl rfl (Nat.le_of_ble_eq_true rfl) dX6_write_202 ⟨Nat.zero_le _, Nat.zero_le _⟩ (pc' := 205) rfl (fun u19 h20 => ?_)
            refine wk_iload F dX6_write_205 0 rfl (pc' := 207) rfl ?_
            exact hret _ _ _ _ dX6_write_207 rfl (by rw [f6_write] <;> exact (st_neg c1 (st_neg c2 (st_let h4 (st_pos c5 (st_match h8 (st_neg c9 (st_let h11 (st_let h13 (st_let h15 (st_let h17 (st_neg c18 (st_let h20 rfl)))))))))))))
          · refine wk_aload_n F dX6_write_184 rfl 5 rfl (pc' := 185) rfl ?_
            refine wk_iload_n F dX6_write_185 rfl 6 rfl (pc' := 186) rfl ?_
            refine wk_iconst F dX6_write_186 ic_3 (pc' := 187) rfl ?_
            refine wk_same_p F (c6_of l D cI cP hs u16 p1 (3 : Int32) (isPlace_v c1) (vp_in_nI (n := 3) (N := 47) (Nat.le_of_ble_eq_true rfl) (Nat.le_of_ble_eq_true rfl))) (cwV 2 F.hts gX6_write_X6_of rfl rfl rfl hdX6_of ⟨Nat.le_of_ble_eq_true rfl, Nat.le_of_ble_eq_true rfl⟩) 0 6 rfl rfl rfl rfl (Nat.le_of_ble_eq_true rfl) dX6_write_187 ⟨Nat.zero_le _, Nat.zero_le _⟩ (pc' := 190) rfl ?_
            refine wk_if_ne (tgt := 199) F dX6_write_190 (by decide) (pc' := 193) rfl (fun c21 => ?_) (fun c21 => ?_)
            · refine wk_aload_n F dX6_write_199 rfl 5 rfl (pc' := 200) rfl ?_
              refine wk_iload F dX6_write_200 2 rfl (pc' := 202) rfl ?_
              refine wk_same_v F (c6_ends l D cI cP hs u16 (f6_levelBy u3 (f6_available u3)) (okL_wrlow (by omega) h17 (okL_puts (w := 6) (by omega) (by omega) (isPlace_v c1) h15 (okL_wrin (vin_mono (ix_low (lowestFree_in _)) (Nat.le_of_ble_eq_true rfl)) h13 (okL_puts7 (isPlace_p hs_okL c1) (isPlace_v c1) h11 (okL_asks (isPlace_v c1) h8 (okL_changes h4 hs_okL))))))) (cwV 1 F.hts gX6_write_X6_ends rfl rfl rfl hdX6_ends ⟨Nat.le_of_ble_eq_true rfl, Nat.le_of_ble_eq_true rfl⟩) 0 6 rfl rfl rfl rfl (Nat.le_of_ble_eq_true rfl) dX6_write_202 ⟨Nat.zero_le _, Nat.zero_le _⟩ (pc' := 205) rfl (fun u22 h23 => ?_)
              refine wk_iload F dX6_write_205 0 rfl (pc' := 207) rfl ?_
              exact hret _ _ _ _ dX6_write_207 rfl (by rw [f6_write] <;> exact (st_neg c1 (st_neg c2 (st_let h4 (st_pos c5 (st_match h8 (st_neg c9 (st_let h11 (st_let h13 (st_let h15 (st_let h17 (st_pos c18 (st_neg c21 (st_let h23 rfl))))))))))))))
            · refine wk_aload_n F dX6_write_193 rfl 5 rfl (pc' := 194) rfl ?_
              refine wk_iconst F dX6_write_194 ic_2 (pc' := 195) rfl ?_
              refine wk_iload_n F dX6_write_195 rfl 6 rfl (pc' := 196) rfl ?_
              refine wk_same_v F (c6_warns l D cI cP hs u16 (2 : Int32) p1 (okL_wrlow (by omega) h17 (okL_puts (w := 6) (by omega) (by omega) (isPlace_v c1) h15 (okL_wrin (vin_mono (ix_low (lowestFree_in _)) (Nat.le_of_ble_eq_true rfl)) h13 (okL_puts7 (isPlace_p hs_okL c1) (isPlace_v c1) h11 (okL_asks (isPlace_v c1) h8 (okL_changes h4 hs_okL))))))) (cwV 2 F.hts gX6_write_X6_warns rfl rfl rfl hdX6_warns ⟨Nat.le_of_ble_eq_true rfl, Nat.le_of_ble_eq_true rfl⟩) 0 6 rfl rfl rfl rfl (Nat.le_of_ble_eq_true rfl) dX6_write_196 ⟨Nat.zero_le _, Nat.zero_le _⟩ (pc' := 199) rfl (fun u24 h25 => ?_)
              refine wk_aload_n F dX6_write_199 rfl 5 rfl (pc' := 200) rfl ?_
              refine wk_iload F dX6_write_200 2 rfl (pc' := 202) rfl ?_
              refine wk_same_v F (c6_ends l D cI cP hs u24 (f6_levelBy u3 (f6_available u3)) (okL_warns h25 (okL_wrlow (by omega) h17 (okL_puts (w := 6) (by omega) (by omega) (isPlace_v c1) h15 (okL_wrin (vin_mono (ix_low (lowestFree_in _)) (Nat.le_of_ble_eq_true rfl)) h13 (okL_puts7 (isPlace_p hs_okL c1) (isPlace_v c1) h11 (okL_asks (isPlace_v c1) h8 (okL_changes h4 hs_okL)))))))) (cwV 1 F.hts gX6_write_X6_ends rfl rfl rfl hdX6_ends ⟨Nat.le_of_ble_eq_true rfl, Nat.le_of_ble_eq_true rfl⟩) 0 6 rfl rfl rfl rfl (Nat.le_of_ble_eq_true rfl) dX6_write_202 ⟨Nat.zero_le _, Nat.zero_le _⟩ (pc' := 205) rfl (fun u26 h27 => ?_)
              refine wk_iload F dX6_write_205 0 rfl (pc' := 207) rfl ?_
              exact hret _ _ _ _ dX6_write_207 rfl (by rw [f6_write] <;> exact (st_neg c1 (st_neg c2 (st_let h4 (st_pos c5 (st_match h8 (st_neg c9 (st_let h11 (st_let h13 (st_let h15 (st_let h17 (st_pos c18 (st_pos c21 (st_let h25 (st_let h27 rfl)))))))))))))))
        · refine wk_aload_n F dX6_write_91 rfl 4 rfl (pc' := 92) rfl ?_
          refine wk_iload_n F dX6_write_92 rfl 5 rfl (pc' := 93) rfl ?_
          refine wk_iconst F dX6_write_93 ic_5 (pc' := 94) rfl ?_
          refine wk_aload_n F dX6_write_94 rfl 4 rfl (pc' := 95) rfl ?_
          refine wk_iload_n F dX6_write_95 rfl 5 rfl (pc' := 96) rfl ?_
          refine wk_iconst F dX6_write_96 ic_5 (pc' := 97) rfl ?_
          refine wk_same_p F (c6_of l D cI cP hs u6 p1 (5 : Int32) (isPlace_v c1) (vp_in_nI (n := 5) (N := 47) (Nat.le_of_ble_eq_true rfl) (Nat.le_of_ble_eq_true rfl))) (cwV 2 F.hts gX6_write_X6_of rfl rfl rfl hdX6_of ⟨Nat.le_of_ble_eq_true rfl, Nat.le_of_ble_eq_true rfl⟩) 0 6 rfl rfl rfl rfl (Nat.le_of_ble_eq_true rfl) dX6_write_97 ⟨Nat.zero_le _, Nat.zero_le _⟩ (pc' := 100) rfl ?_
          refine wk_iconst F dX6_write_100 ic_1 (pc' := 101) rfl ?_
          refine wk_iadd F dX6_write_101 (pc' := 102) rfl ?_
          refine wk_same_v F (c6_puts l D cI cP hs u6 p1 (5 : Int32) ((f6_of u6 p1 (5 : Int32)) + (1 : Int32)) (isPlace_v c1) (vp_in_nI (n := 5) (N := 47) (Nat.le_of_ble_eq_true rfl) (Nat.le_of_ble_eq_true rfl))) (cwV 3 F.hts gX6_write_X6_puts rfl rfl rfl hdX6_puts ⟨Nat.le_of_ble_eq_true rfl, Nat.le_of_ble_eq_true rfl⟩) 0 6 rfl rfl rfl rfl (Nat.le_of_ble_eq_true rfl) dX6_write_102 ⟨Nat.zero_le _, Nat.zero_le _⟩ (pc' := 105) rfl (fun u28 h29 => ?_)
          refine wk_aload_n F dX6_write_105 rfl 4 rfl (pc' := 106) rfl ?_
          refine wk_get (C := RX6) (T := TX6) (N := 12) F 0 rfl rfl k_6 0 (Nat.le_of_ble_eq_true rfl) w_2 rfl dX6_write_106 (pc' := 109) rfl ?_
          refine wk_iconst F dX6_write_109 ic_3 (pc' := 110) rfl ?_
          refine wk_dup2 F dX6_write_110 rfl rfl (pc' := 111) rfl ?_
          refine wk_iald_n (i := 3) F 1 0 rfl rfl (by omega) (Nat.le_of_ble_eq_true rfl) dX6_write_111 (pc' := 112) rfl ?_
          refine wk_iconst F dX6_write_112 ic_1 (pc' := 113) rfl ?_
          refine wk_iadd F dX6_write_113 (pc' := 114) rfl ?_
          refine wk_iastu_n (wg := wMod cI hs) (f0 := wr u28 0 3 ((u28 0 3) + (1 : Int32))) (i := 3) F 1 0 rfl rfl aM_0 (by omega) (Nat.le_of_ble_eq_true rfl) dX6_write_114 (pc' := 115) rfl (fun u30 h31 => ?_)
          refine wk_aload_n F dX6_write_115 rfl 4 rfl (pc' := 116) rfl ?_
          refine wk_iconst F dX6_write_116 ic_1 (pc' := 117) rfl ?_
          refine wk_iload_n F dX6_write_117 rfl 5 rfl (pc' := 118) rfl ?_
          refine wk_same_v F (c6_warns l D cI cP hs u30 (1 : Int32) p1 (okL_wrlow (by omega) h31 (okL_puts (w := 5) (by omega) (by omega) (isPlace_v c1) h29 (okL_asks (isPlace_v c1) h8 (okL_changes h4 hs_okL))))) (cwV 2 F.hts gX6_write_X6_warns rfl rfl rfl hdX6_warns ⟨Nat.le_of_ble_eq_true rfl, Nat.le_of_ble_eq_true rfl⟩) 0 6 rfl rfl rfl rfl (Nat.le_of_ble_eq_true rfl) dX6_write_118 ⟨Nat.zero_le _, Nat.zero_le _⟩ (pc' := 121) rfl (fun u32 h33 => ?_)
          refine wk_ldc F dX6_write_121 w_3 (pc' := 123) rfl ?_
          exact hret _ _ _ _ dX6_write_123 rfl (by rw [f6_write] <;> exact (st_neg c1 (st_neg c2 (st_let h4 (st_pos c5 (st_match h8 (st_pos c9 (st_let h29 (st_let h31 (st_let h33 rfl))))))))))
      · refine wk_aload_n F dX6_write_39 rfl 1 rfl (pc' := 40) rfl ?_
        refine wk_iload F dX6_write_40 0 rfl (pc' := 42) rfl ?_
        refine wk_same_p F (c6_owners l D cI cP hs u3 (f6_piece u3 p1 p2) (okL_changes h4 hs_okL)) (cwV 1 F.hts gX6_write_X6_owners rfl rfl rfl hdX6_owners ⟨Nat.le_of_ble_eq_true rfl, Nat.le_of_ble_eq_true rfl⟩) 0 6 rfl rfl rfl rfl (Nat.le_of_ble_eq_true rfl) dX6_write_42 ⟨Nat.zero_le _, Nat.zero_le _⟩ (pc' := 45) rfl ?_
        refine wk_iconst F dX6_write_45 ic_1 (pc' := 46) rfl ?_
        refine wk_icmp_ne (tgt := 63) F dX6_write_46 (by decide) (pc' := 49) rfl (fun c34 => ?_) (fun c34 => ?_)
        · refine wk_aload_n F dX6_write_63 rfl 1 rfl (pc' := 64) rfl ?_
          refine wk_same_p F (c6_available l D cI cP hs u3 (okL_changes h4 hs_okL)) (cwV 0 F.hts gX6_write_X6_available rfl rfl rfl hdX6_available ⟨Nat.le_of_ble_eq_true rfl, Nat.le_of_ble_eq_true rfl⟩) 0 6 rfl rfl rfl rfl (Nat.le_of_ble_eq_true rfl) dX6_write_64 ⟨Nat.zero_le _, Nat.zero_le _⟩ (pc' := 67) rfl ?_
          refine wk_istore (lv' := [(5, .int (f6_available u3)), (4, .int (f6_piece u3 p1 p2)), (0, .ref (hs 0)), (1, .int p1), (2, .int p2), (3, .int p3)]) F dX6_write_67 (Nat.le_of_ble_eq_true rfl) rfl (pc' := 69) rfl ?_
          refine wk_aload_n F dX6_write_69 rfl 2 rfl (pc' := 70) rfl ?_
          refine wk_iload F dX6_write_70 0 rfl (pc' := 72) rfl ?_
          refine wk_same_p F (c6_levelBy l D cI cP hs u3 (f6_available u3)) (cwV 1 F.hts gX6_write_X6_levelBy rfl rfl rfl hdX6_levelBy ⟨Nat.le_of_ble_eq_true rfl, Nat.le_of_ble_eq_true rfl⟩) 0 6 rfl rfl rfl rfl (Nat.le_of_ble_eq_true rfl) dX6_write_72 ⟨Nat.zero_le _, Nat.zero_le _⟩ (pc' := 75) rfl ?_
          refine wk_istore (lv' := [(6, .int (f6_levelBy u3 (f6_available u3))), (5, .int (f6_available u3)), (4, .int (f6_piece u3 p1 p2)), (0, .ref (hs 0)), (1, .int p1), (2, .int p2), (3, .int p3)]) F dX6_write_75 (Nat.le_of_ble_eq_true rfl) rfl (pc' := 77) rfl ?_
          refine wk_aload_n F dX6_write_77 rfl 3 rfl (pc' := 78) rfl ?_
          refine wk_iload_n F dX6_write_78 rfl 4 rfl (pc' := 79) rfl ?_
          refine wk_iload F dX6_write_79 1 rfl (pc' := 81) rfl ?_
          refine wk_same_i F (c6_asks l D cI cP hs u3 p1 (f6_available u3) (isPlace_v c1)) (cwV 2 F.hts gX6_write_X6_asks rfl rfl rfl hdX6_asks ⟨Nat.le_of_ble_eq_true rfl, Nat.le_of_ble_eq_true rfl⟩) 0 6 rfl rfl rfl rfl (Nat.le_of_ble_eq_true rfl) dX6_write_81 ⟨Nat.zero_le _, Nat.zero_le _⟩ (pc' := 84) rfl (fun r36 u35 h37 => ?_)
          refine wk_istore (lv' := [(7, .int r36), (6, .int (f6_levelBy u3 (f6_available u3))), (5, .int (f6_available u3)), (4, .int (f6_piece u3 p1 p2)), (0, .ref (hs 0)), (1, .int p1), (2, .int p2), (3, .int p3)]) F dX6_write_84 (Nat.le_of_ble_eq_true rfl) rfl (pc' := 86) rfl ?_
          refine wk_iload F dX6_write_86 0 rfl (pc' := 88) rfl ?_
          refine wk_if_ne (tgt := 124) F dX6_write_88 (by decide) (pc' := 91) rfl (fun c38 => ?_) (fun c38 => ?_)
          · refine wk_aload_n F dX6_write_124 rfl 4 rfl (pc' := 125) rfl ?_
            refine wk_same_p F (c6_lowestFree l D cI cP hs u35 (okL_asks (isPlace_v c1) h37 (okL_changes h4 hs_okL))) (cwV 0 F.hts gX6_write_X6_lowestFree rfl rfl rfl hdX6_lowestFree ⟨Nat.le_of_ble_eq_true rfl, Nat.le_of_ble_eq_true rfl⟩) 0 6 rfl rfl rfl rfl (Nat.le_of_ble_eq_true rfl) dX6_write_125 ⟨Nat.zero_le _, Nat.zero_le _⟩ (pc' := 128) rfl ?_
            refine wk_istore (lv' := [(8, .int (f6_lowestFree u35)), (7, .int r36), (6, .int (f6_levelBy u3 (f6_available u3))), (5, .int (f6_available u3)), (4, .int (f6_piece u3 p1 p2)), (0, .ref (hs 0)), (1, .int p1), (2, .int p2), (3, .int p3)]) F dX6_write_128 (Nat.le_of_ble_eq_true rfl) rfl (pc' := 130) rfl ?_
            refine wk_aload_n F dX6_write_130 rfl 5 rfl (pc' := 131) rfl ?_
            refine wk_iload_n F dX6_write_131 rfl 6 rfl (pc' := 132) rfl ?_
            refine wk_bipush F dX6_write_132 bp_7 (pc' := 134) rfl ?_
            refine wk_iload_n F dX6_write_134 rfl 7 rfl (pc' := 135) rfl ?_
            refine wk_iadd F dX6_write_135 (pc' := 136) rfl ?_
            refine wk_iload F dX6_write_136 0 rfl (pc' := 138) rfl ?_
            refine wk_same_v F (c6_puts l D cI cP hs u35 p1 ((7 : Int32) + p2) (f6_lowestFree u35) (isPlace_v c1) (in47 (isPlace_p hs_okL c1))) (cwV 3 F.hts gX6_write_X6_puts rfl rfl rfl hdX6_puts ⟨Nat.le_of_ble_eq_true rfl, Nat.le_of_ble_eq_true rfl⟩) 0 6 rfl rfl rfl rfl (Nat.le_of_ble_eq_true rfl) dX6_write_138 ⟨Nat.zero_le _, Nat.zero_le _⟩ (pc' := 141) rfl (fun u39 h40 => ?_)
            refine wk_aload_n F dX6_write_141 rfl 5 rfl (pc' := 142) rfl ?_
            refine wk_get (C := RX6) (T := TX6) (N := 12) F 0 rfl rfl k_6 0 (Nat.le_of_ble_eq_true rfl) w_2 rfl dX6_write_142 (pc' := 145) rfl ?_
            refine wk_bipush F dX6_write_145 bp_7 (pc' := 147) rfl ?_
            refine wk_iload F dX6_write_147 0 rfl (pc' := 149) rfl ?_
            refine wk_iadd F dX6_write_149 (pc' := 150) rfl ?_
            refine wk_iload_n F dX6_write_150 rfl 8 rfl (pc' := 151) rfl ?_
            refine wk_iastu (wg := wMod cI hs) (f0 := wr u39 0 ((7 : Int32) + (f6_lowestFree u35)).toNatClampNeg p3) F 1 0 rfl rfl aM_0 (vin_mono (ix_low (lowestFree_in _)) (Nat.le_of_ble_eq_true rfl)) dX6_write_151 (pc' := 152) rfl (fun u41 h42 => ?_)
            refine wk_aload_n F dX6_write_152 rfl 5 rfl (pc' := 153) rfl ?_
            refine wk_iload_n F dX6_write_153 rfl 6 rfl (pc' := 154) rfl ?_
            refine wk_bipush F dX6_write_154 bp_6 (pc' := 156) rfl ?_
            refine wk_aload_n F dX6_write_156 rfl 5 rfl (pc' := 157) rfl ?_
            refine wk_iload_n F dX6_write_157 rfl 6 rfl (pc' := 158) rfl ?_
            refine wk_bipush F dX6_write_158 bp_6 (pc' := 160) rfl ?_
            refine wk_same_p F (c6_of l D cI cP hs u41 p1 (6 : Int32) (isPlace_v c1) (vp_in_nI (n := 6) (N := 47) (Nat.le_of_ble_eq_true rfl) (Nat.le_of_ble_eq_true rfl))) (cwV 2 F.hts gX6_write_X6_of rfl rfl rfl hdX6_of ⟨Nat.le_of_ble_eq_true rfl, Nat.le_of_ble_eq_true rfl⟩) 0 6 rfl rfl rfl rfl (Nat.le_of_ble_eq_true rfl) dX6_write_160 ⟨Nat.zero_le _, Nat.zero_le _⟩ (pc' := 163) rfl ?_
            refine wk_iconst F dX6_write_163 ic_1 (pc' := 164) rfl ?_
            refine wk_iadd F dX6_write_164 (pc' := 165) rfl ?_
            refine wk_same_v F (c6_puts l D cI cP hs u41 p1 (6 : Int32) ((f6_of u41 p1 (6 : Int32)) + (1 : Int32)) (isPlace_v c1) (vp_in_nI (n := 6) (N := 47) (Nat.le_of_ble_eq_true rfl) (Nat.le_of_ble_eq_true rfl))) (cwV 3 F.hts gX6_write_X6_puts rfl rfl rfl hdX6_puts ⟨Nat.le_of_ble_eq_true rfl, Nat.le_of_ble_eq_true rfl⟩) 0 6 rfl rfl rfl rfl (Nat.le_of_ble_eq_true rfl) dX6_write_165 ⟨Nat.zero_le _, Nat.zero_le _⟩ (pc' := 168) rfl (fun u43 h44 => ?_)
            refine wk_aload_n F dX6_write_168 rfl 5 rfl (pc' := 169) rfl ?_
            refine wk_get (C := RX6) (T := TX6) (N := 12) F 0 rfl rfl k_6 0 (Nat.le_of_ble_eq_true rfl) w_2 rfl dX6_write_169 (pc' := 172) rfl ?_
            refine wk_iconst F dX6_write_172 ic_4 (pc' := 173) rfl ?_
            refine wk_dup2 F dX6_write_173 rfl rfl (pc' := 174) rfl ?_
            refine wk_iald_n (i := 4) F 1 0 rfl rfl (by omega) (Nat.le_of_ble_eq_true rfl) dX6_write_174 (pc' := 175) rfl ?_
            refine wk_iconst F dX6_write_175 ic_1 (pc' := 176) rfl ?_
            refine wk_iadd F dX6_write_176 (pc' := 177) rfl ?_
            refine wk_iastu_n (wg := wMod cI hs) (f0 := wr u43 0 4 ((u43 0 4) + (1 : Int32))) (i := 4) F 1 0 rfl rfl aM_0 (by omega) (Nat.le_of_ble_eq_true rfl) dX6_write_177 (pc' := 178) rfl (fun u45 h46 => ?_)
            refine wk_iload F dX6_write_178 1 rfl (pc' := 180) rfl ?_
            refine wk_iconst F dX6_write_180 ic_2 (pc' := 181) rfl ?_
            refine wk_icmp_ne (tgt := 199) F dX6_write_181 (by decide) (pc' := 184) rfl (fun c47 => ?_) (fun c47 => ?_)
            · refine wk_aload_n F dX6_write_199 rfl 5 rfl (pc' := 200) rfl ?_
              refine wk_iload F dX6_write_200 2 rfl (pc' := 202) rfl ?_
              refine wk_same_v F (c6_ends l D cI cP hs u45 (f6_levelBy u3 (f6_available u3)) (okL_wrlow (by omega) h46 (okL_puts (w := 6) (by omega) (by omega) (isPlace_v c1) h44 (okL_wrin (vin_mono (ix_low (lowestFree_in _)) (Nat.le_of_ble_eq_true rfl)) h42 (okL_puts7 (isPlace_p hs_okL c1) (isPlace_v c1) h40 (okL_asks (isPlace_v c1) h37 (okL_changes h4 hs_okL))))))) (cwV 1 F.hts gX6_write_X6_ends rfl rfl rfl hdX6_ends ⟨Nat.le_of_ble_eq_true rfl, Nat.le_of_ble_eq_true rfl⟩) 0 6 rfl rfl rfl rfl (Nat.le_of_ble_eq_true rfl) dX6_write_202 ⟨Nat.zero_le _, Nat.zero_le _⟩ (pc' := 205) rfl (fun u48 h49 => ?_)
              refine wk_iload F dX6_write_205 0 rfl (pc' := 207) rfl ?_
              exact hret _ _ _ _ dX6_write_207 rfl (by rw [f6_write] <;> exact (st_neg c1 (st_neg c2 (st_let h4 (st_neg c5 (st_neg c34 (st_match h37 (st_neg c38 (st_let h40 (st_let h42 (st_let h44 (st_let h46 (st_neg c47 (st_let h49 rfl))))))))))))))
            · refine wk_aload_n F dX6_write_184 rfl 5 rfl (pc' := 185) rfl ?_
              refine wk_iload_n F dX6_write_185 rfl 6 rfl (pc' := 186) rfl ?_
              refine wk_iconst F dX6_write_186 ic_3 (pc' := 187) rfl ?_
              refine wk_same_p F (c6_of l D cI cP hs u45 p1 (3 : Int32) (isPlace_v c1) (vp_in_nI (n := 3) (N := 47) (Nat.le_of_ble_eq_true rfl) (Nat.le_of_ble_eq_true rfl))) (cwV 2 F.hts gX6_write_X6_of rfl rfl rfl hdX6_of ⟨Nat.le_of_ble_eq_true rfl, Nat.le_of_ble_eq_true rfl⟩) 0 6 rfl rfl rfl rfl (Nat.le_of_ble_eq_true rfl) dX6_write_187 ⟨Nat.zero_le _, Nat.zero_le _⟩ (pc' := 190) rfl ?_
              refine wk_if_ne (tgt := 199) F dX6_write_190 (by decide) (pc' := 193) rfl (fun c50 => ?_) (fun c50 => ?_)
              · refine wk_aload_n F dX6_write_199 rfl 5 rfl (pc' := 200) rfl ?_
                refine wk_iload F dX6_write_200 2 rfl (pc' := 202) rfl ?_
                refine wk_same_v F (c6_ends l D cI cP hs u45 (f6_levelBy u3 (f6_available u3)) (okL_wrlow (by omega) h46 (okL_puts (w := 6) (by omega) (by omega) (isPlace_v c1) h44 (okL_wrin (vin_mono (ix_low (lowestFree_in _)) (Nat.le_of_ble_eq_true rfl)) h42 (okL_puts7 (isPlace_p hs_okL c1) (isPlace_v c1) h40 (okL_asks (isPlace_v c1) h37 (okL_changes h4 hs_okL))))))) (cwV 1 F.hts gX6_write_X6_ends rfl rfl rfl hdX6_ends ⟨Nat.le_of_ble_eq_true rfl, Nat.le_of_ble_eq_true rfl⟩) 0 6 rfl rfl rfl rfl (Nat.le_of_ble_eq_true rfl) dX6_write_202 ⟨Nat.zero_le _, Nat.zero_le _⟩ (pc' := 205) rfl (fun u51 h52 => ?_)
                refine wk_iload F dX6_write_205 0 rfl (pc' := 207) rfl ?_
                exact hret _ _ _ _ dX6_write_207 rfl (by rw [f6_write] <;> exact (st_neg c1 (st_neg c2 (st_let h4 (st_neg c5 (st_neg c34 (st_match h37 (st_neg c38 (st_let h40 (st_let h42 (st_let h44 (st_let h46 (st_pos c47 (st_neg c50 (st_let h52 rfl)))))))))))))))
              · refine wk_aload_n F dX6_write_193 rfl 5 rfl (pc' := 194) rfl ?_
                refine wk_iconst F dX6_write_194 ic_2 (pc' := 195) rfl ?_
                refine wk_iload_n F dX6_write_195 rfl 6 rfl (pc' := 196) rfl ?_
                refine wk_same_v F (c6_warns l D cI cP hs u45 (2 : Int32) p1 (okL_wrlow (by omega) h46 (okL_puts (w := 6) (by omega) (by omega) (isPlace_v c1) h44 (okL_wrin (vin_mono (ix_low (lowestFree_in _)) (Nat.le_of_ble_eq_true rfl)) h42 (okL_puts7 (isPlace_p hs_okL c1) (isPlace_v c1) h40 (okL_asks (isPlace_v c1) h37 (okL_changes h4 hs_okL))))))) (cwV 2 F.hts gX6_write_X6_warns rfl rfl rfl hdX6_warns ⟨Nat.le_of_ble_eq_true rfl, Nat.le_of_ble_eq_true rfl⟩) 0 6 rfl rfl rfl rfl (Nat.le_of_ble_eq_true rfl) dX6_write_196 ⟨Nat.zero_le _, Nat.zero_le _⟩ (pc' := 199) rfl (fun u53 h54 => ?_)
                refine wk_aload_n F dX6_write_199 rfl 5 rfl (pc' := 200) rfl ?_
                refine wk_iload F dX6_write_200 2 rfl (pc' := 202) rfl ?_
                refine wk_same_v F (c6_ends l D cI cP hs u53 (f6_levelBy u3 (f6_available u3)) (okL_warns h54 (okL_wrlow (by omega) h46 (okL_puts (w := 6) (by omega) (by omega) (isPlace_v c1) h44 (okL_wrin (vin_mono (ix_low (lowestFree_in _)) (Nat.le_of_ble_eq_true rfl)) h42 (okL_puts7 (isPlace_p hs_okL c1) (isPlace_v c1) h40 (okL_asks (isPlace_v c1) h37 (okL_changes h4 hs_okL)))))))) (cwV 1 F.hts gX6_write_X6_ends rfl rfl rfl hdX6_ends ⟨Nat.le_of_ble_eq_true rfl, Nat.le_of_ble_eq_true rfl⟩) 0 6 rfl rfl rfl rfl (Nat.le_of_ble_eq_true rfl) dX6_write_202 ⟨Nat.zero_le _, Nat.zero_le _⟩ (pc' := 205) rfl (fun u55 h56 => ?_)
                refine wk_iload F dX6_write_205 0 rfl (pc' := 207) rfl ?_
                exact hret _ _ _ _ dX6_write_207 rfl (by rw [f6_write] <;> exact (st_neg c1 (st_neg c2 (st_let h4 (st_neg c5 (st_neg c34 (st_match h37 (st_neg c38 (st_let h40 (st_let h42 (st_let h44 (st_let h46 (st_pos c47 (st_pos c50 (st_let h54 (st_let h56 rfl))))))))))))))))
          · refine wk_aload_n F dX6_write_91 rfl 4 rfl (pc' := 92) rfl ?_
            refine wk_iload_n F dX6_write_92 rfl 5 rfl (pc' := 93) rfl ?_
            refine wk_iconst F dX6_write_93 ic_5 (pc' := 94) rfl ?_
            refine wk_aload_n F dX6_write_94 rfl 4 rfl (pc' := 95) rfl ?_
            refine wk_iload_n F dX6_write_95 rfl 5 rfl (pc' := 96) rfl ?_
            refine wk_iconst F dX6_write_96 ic_5 (pc' := 97) rfl ?_
            refine wk_same_p F (c6_of l D cI cP hs u35 p1 (5 : Int32) (isPlace_v c1) (vp_in_nI (n := 5) (N := 47) (Nat.le_of_ble_eq_true rfl) (Nat.le_of_ble_eq_true rfl))) (cwV 2 F.hts gX6_write_X6_of rfl rfl rfl hdX6_of ⟨Nat.le_of_ble_eq_true rfl, Nat.le_of_ble_eq_true rfl⟩) 0 6 rfl rfl rfl rfl (Nat.le_of_ble_eq_true rfl) dX6_write_97 ⟨Nat.zero_le _, Nat.zero_le _⟩ (pc' := 100) rfl ?_
            refine wk_iconst F dX6_write_100 ic_1 (pc' := 101) rfl ?_
            refine wk_iadd F dX6_write_101 (pc' := 102) rfl ?_
            refine wk_same_v F (c6_puts l D cI cP hs u35 p1 (5 : Int32) ((f6_of u35 p1 (5 : Int32)) + (1 : Int32)) (isPlace_v c1) (vp_in_nI (n := 5) (N := 47) (Nat.le_of_ble_eq_true rfl) (Nat.le_of_ble_eq_true rfl))) (cwV 3 F.hts gX6_write_X6_puts rfl rfl rfl hdX6_puts ⟨Nat.le_of_ble_eq_true rfl, Nat.le_of_ble_eq_true rfl⟩) 0 6 rfl rfl rfl rfl (Nat.le_of_ble_eq_true rfl) dX6_write_102 ⟨Nat.zero_le _, Nat.zero_le _⟩ (pc' := 105) rfl (fun u57 h58 => ?_)
            refine wk_aload_n F dX6_write_105 rfl 4 rfl (pc' := 106) rfl ?_
            refine wk_get (C := RX6) (T := TX6) (N := 12) F 0 rfl rfl k_6 0 (Nat.le_of_ble_eq_true rfl) w_2 rfl dX6_write_106 (pc' := 109) rfl ?_
            refine wk_iconst F dX6_write_109 ic_3 (pc' := 110) rfl ?_
            refine wk_dup2 F dX6_write_110 rfl rfl (pc' := 111) rfl ?_
            refine wk_iald_n (i := 3) F 1 0 rfl rfl (by omega) (Nat.le_of_ble_eq_true rfl) dX6_write_111 (pc' := 112) rfl ?_
            refine wk_iconst F dX6_write_112 ic_1 (pc' := 113) rfl ?_
            refine wk_iadd F dX6_write_113 (pc' := 114) rfl ?_
            refine wk_iastu_n (wg := wMod cI hs) (f0 := wr u57 0 3 ((u57 0 3) + (1 : Int32))) (i := 3) F 1 0 rfl rfl aM_0 (by omega) (Nat.le_of_ble_eq_true rfl) dX6_write_114 (pc' := 115) rfl (fun u59 h60 => ?_)
            refine wk_aload_n F dX6_write_115 rfl 4 rfl (pc' := 116) rfl ?_
            refine wk_iconst F dX6_write_116 ic_1 (pc' := 117) rfl ?_
            refine wk_iload_n F dX6_write_117 rfl 5 rfl (pc' := 118) rfl ?_
            refine wk_same_v F (c6_warns l D cI cP hs u59 (1 : Int32) p1 (okL_wrlow (by omega) h60 (okL_puts (w := 5) (by omega) (by omega) (isPlace_v c1) h58 (okL_asks (isPlace_v c1) h37 (okL_changes h4 hs_okL))))) (cwV 2 F.hts gX6_write_X6_warns rfl rfl rfl hdX6_warns ⟨Nat.le_of_ble_eq_true rfl, Nat.le_of_ble_eq_true rfl⟩) 0 6 rfl rfl rfl rfl (Nat.le_of_ble_eq_true rfl) dX6_write_118 ⟨Nat.zero_le _, Nat.zero_le _⟩ (pc' := 121) rfl (fun u61 h62 => ?_)
            refine wk_ldc F dX6_write_121 w_3 (pc' := 123) rfl ?_
            exact hret _ _ _ _ dX6_write_123 rfl (by rw [f6_write] <;> exact (st_neg c1 (st_neg c2 (st_let h4 (st_neg c5 (st_neg c34 (st_match h37 (st_pos c38 (st_let h58 (st_let h60 (st_let h62 rfl)))))))))))
        · refine wk_aload_n F dX6_write_49 rfl 1 rfl (pc' := 50) rfl ?_
          refine wk_get (C := RX6) (T := TX6) (N := 12) F 0 rfl rfl k_6 0 (Nat.le_of_ble_eq_true rfl) w_2 rfl dX6_write_50 (pc' := 53) rfl ?_
          refine wk_bipush F dX6_write_53 bp_7 (pc' := 55) rfl ?_
          refine wk_iload F dX6_write_55 0 rfl (pc' := 57) rfl ?_
          refine wk_iadd F dX6_write_57 (pc' := 58) rfl ?_
          refine wk_iload_n F dX6_write_58 rfl 4 rfl (pc' := 59) rfl ?_
          refine wk_iastu (wg := wMod cI hs) (f0 := wr u3 0 ((7 : Int32) + (f6_piece u3 p1 p2)).toNatClampNeg p3) F 1 0 rfl rfl aM_0 (vin_mono (ix_val c5 (piece_lt (okP_changes h4 hs_okP) (isPlace_v c1) (isPlace_p hs_okL c1))) (Nat.le_of_ble_eq_true rfl)) dX6_write_59 (pc' := 60) rfl (fun u63 h64 => ?_)
          refine wk_iload F dX6_write_60 0 rfl (pc' := 62) rfl ?_
          exact hret _ _ _ _ dX6_write_62 rfl (by rw [f6_write] <;> exact (st_neg c1 (st_neg c2 (st_let h4 (st_neg c5 (st_pos c34 (st_let h64 rfl)))))))
    · refine wk_ldc F dX6_write_19 w_1 (pc' := 21) rfl ?_
      exact hret _ _ _ _ dX6_write_21 rfl (by rw [f6_write] <;> exact (st_neg c1 (st_pos c2 rfl)))
def f6_trim (σ : PS) (p1 : Int32) (p2 : Int32) : Int32 × PS := (if (f6_isPlace σ p1 p2) = 0 then ((-1000001 : Int32), σ) else (if 0 ≤ (f6_piece σ p1 p2) then (sq (f6_changes σ) (fun (u3 : PS) => (sq2 (f6_trims u3 p1 p2) (fun (r6 : Int32) (u5 : PS) => (sq (f6_behaves u5 p1 ((2 : Int32) * r6)) (fun (u8 : PS) => (r6, u8))))))) else ((-1000002 : Int32), σ)))
set_option maxHeartbeats 4000000 in
set_option maxRecDepth 100000 in
theorem c6_trim (l : Launch) (D : va_G) (cI cP : ClassId) (hs : Nat → Nat) (σ : PS) (p1 : Int32) (p2 : Int32) (hs_okH : okH σ) (hs_okL : okL σ) : CI l yX6_trim wsX6_trim ({ frames := 5, cells := 0, slots := 0, locals := 115 } : Room) D (cty cI cP) (wMod cI hs σ) (wMod cI hs) [.ref (hs 0), .int p1, .int p2] 0 0 (fun r u => f6_trim σ p1 p2 = (r, u)) := by
  refine CI.of (cc := cX6_trim) (maxL := 4) (rt := .int) (own := RX6) (lv0 := [(0, .ref (hs 0)), (1, .int p1), (2, .int p2)]) pnX6 rfl rfl (Nat.le_of_ble_eq_true rfl) rfl (fun p e s m args below meth c A Q F hret => ?_)
  have w_2 := F.at (x := Cond.constant RX6 100 (-1000002)) 2 rfl
  have w_1 := F.at (x := Cond.constant RX6 86 (-1000001)) 1 rfl
  refine wk_aload_n F dX6_trim_0 rfl 0 rfl (pc' := 1) rfl ?_
  refine wk_iload_n F dX6_trim_1 rfl 1 rfl (pc' := 2) rfl ?_
  refine wk_iload_n F dX6_trim_2 rfl 2 rfl (pc' := 3) rfl ?_
  refine wk_same_p F (c6_isPlace l D cI cP hs σ p1 p2) (cwV 2 F.hts gX6_trim_X6_isPlace rfl rfl rfl hdX6_isPlace ⟨Nat.le_of_ble_eq_true rfl, Nat.le_of_ble_eq_true rfl⟩) 0 6 rfl rfl rfl rfl (Nat.le_of_ble_eq_true rfl) dX6_trim_3 ⟨Nat.zero_le _, Nat.zero_le _⟩ (pc' := 6) rfl ?_
  refine wk_if_ne (tgt := 12) F dX6_trim_6 (by decide) (pc' := 9) rfl (fun c1 => ?_) (fun c1 => ?_)
  · refine wk_aload_n F dX6_trim_12 rfl 0 rfl (pc' := 13) rfl ?_
    refine wk_iload_n F dX6_trim_13 rfl 1 rfl (pc' := 14) rfl ?_
    refine wk_iload_n F dX6_trim_14 rfl 2 rfl (pc' := 15) rfl ?_
    refine wk_same_p F (c6_piece l D cI cP hs σ p1 p2 (isPlace_v c1) (isPlace_p hs_okL c1)) (cwV 2 F.hts gX6_trim_X6_piece rfl rfl rfl hdX6_piece ⟨Nat.le_of_ble_eq_true rfl, Nat.le_of_ble_eq_true rfl⟩) 0 6 rfl rfl rfl rfl (Nat.le_of_ble_eq_true rfl) dX6_trim_15 ⟨Nat.zero_le _, Nat.zero_le _⟩ (pc' := 18) rfl ?_
    refine wk_if_ge (tgt := 24) F dX6_trim_18 (by decide) (pc' := 21) rfl (fun c2 => ?_) (fun c2 => ?_)
    · refine wk_aload_n F dX6_trim_24 rfl 0 rfl (pc' := 25) rfl ?_
      refine wk_same_v F (c6_changes l D cI cP hs σ hs_okH) (cwV 0 F.hts gX6_trim_X6_changes rfl rfl rfl hdX6_changes ⟨Nat.le_of_ble_eq_true rfl, Nat.le_of_ble_eq_true rfl⟩) 0 6 rfl rfl rfl rfl (Nat.le_of_ble_eq_true rfl) dX6_trim_25 ⟨Nat.zero_le _, Nat.zero_le _⟩ (pc' := 28) rfl (fun u3 h4 => ?_)
      refine wk_aload_n F dX6_trim_28 rfl 0 rfl (pc' := 29) rfl ?_
      refine wk_iload_n F dX6_trim_29 rfl 1 rfl (pc' := 30) rfl ?_
      refine wk_iload_n F dX6_trim_30 rfl 2 rfl (pc' := 31) rfl ?_
      refine wk_same_i F (c6_trims l D cI cP hs u3 p1 p2 (isPlace_v c1) (isPlace_p hs_okL c1) (okL_changes h4 hs_okL)) (cwV 2 F.hts gX6_trim_X6_trims rfl rfl rfl hdX6_trims ⟨Nat.le_of_ble_eq_true rfl, Nat.le_of_ble_eq_true rfl⟩) 0 6 rfl rfl rfl rfl (Nat.le_of_ble_eq_true rfl) dX6_trim_31 ⟨Nat.zero_le _, Nat.zero_le _⟩ (pc' := 34) rfl (fun r6 u5 h7 => ?_)
      refine wk_istore_n (lv' := [(3, .int r6), (0, .ref (hs 0)), (1, .int p1), (2, .int p2)]) F dX6_trim_34 rfl (Nat.le_of_ble_eq_true rfl) rfl (pc' := 35) rfl ?_
      refine wk_aload_n F dX6_trim_35 rfl 1 rfl (pc' := 36) rfl ?_
      refine wk_iload_n F dX6_trim_36 rfl 2 rfl (pc' := 37) rfl ?_
      refine wk_iconst F dX6_trim_37 ic_2 (pc' := 38) rfl ?_
      refine wk_iload_n F dX6_trim_38 rfl 0 rfl (pc' := 39) rfl ?_
      refine wk_imul F dX6_trim_39 (pc' := 40) rfl ?_
      refine wk_same_v F (c6_behaves l D cI cP hs u5 p1 ((2 : Int32) * r6) (isPlace_v c1)) (cwV 2 F.hts gX6_trim_X6_behaves rfl rfl rfl hdX6_behaves ⟨Nat.le_of_ble_eq_true rfl, Nat.le_of_ble_eq_true rfl⟩) 0 6 rfl rfl rfl rfl (Nat.le_of_ble_eq_true rfl) dX6_trim_40 ⟨Nat.zero_le _, Nat.zero_le _⟩ (pc' := 43) rfl (fun u8 h9 => ?_)
      refine wk_iload_n F dX6_trim_43 rfl 0 rfl (pc' := 44) rfl ?_
      exact hret _ _ _ _ dX6_trim_44 rfl (by rw [f6_trim] <;> exact (st_neg c1 (st_pos c2 (st_let h4 (st_match h7 (st_let h9 rfl))))))
    · refine wk_ldc F dX6_trim_21 w_2 (pc' := 23) rfl ?_
      exact hret _ _ _ _ dX6_trim_23 rfl (by rw [f6_trim] <;> exact (st_neg c1 (st_neg c2 rfl)))
  · refine wk_ldc F dX6_trim_9 w_1 (pc' := 11) rfl ?_
    exact hret _ _ _ _ dX6_trim_11 rfl (by rw [f6_trim] <;> exact (st_pos c1 rfl))
def f6_sweeps_L4 (p1 : Int32) : Nat → Nat → Int32 → PS → Int32 × PS
  | 0, i, x2, u => (x2, u)
  | n + 1, i, x2, u => (if (f6_of u p1 (1 : Int32)) ≤ (nI i) then (x2, u) else (if (f6_piece u p1 (nI i)) < 0 then (sq (f6_behaves u p1 ((2 : Int32) * (0 : Int32))) (fun (u3 : PS) => f6_sweeps_L4 p1 n (i + 1) (x2 + (0 : Int32)) u3)) else (if (u 0 ((7 : Int32) + (f6_piece u p1 (nI i))).toNatClampNeg) = 0 then (sq2 (f6_trims u p1 (nI i)) (fun (r9 : Int32) (u8 : PS) => (sq (f6_behaves u8 p1 ((2 : Int32) * r9)) (fun (u11 : PS) => f6_sweeps_L4 p1 n (i + 1) (x2 + r9) u11)))) else (sq (f6_behaves u p1 ((2 : Int32) * (0 : Int32))) (fun (u6 : PS) => f6_sweeps_L4 p1 n (i + 1) (x2 + (0 : Int32)) u6)))))
def f6_sweeps (σ : PS) (p1 : Int32) : Int32 × PS := (sq2 (f6_sweeps_L4 p1 40 0 (0 : Int32) σ) (fun (y14 : Int32) (u15 : PS) => (y14, u15)))
set_option maxHeartbeats 4000000 in
set_option maxRecDepth 100000 in
theorem c6_sweeps (l : Launch) (D : va_G) (cI cP : ClassId) (hs : Nat → Nat) (σ : PS) (p1 : Int32) (hp_p1 : vp_in p1 8) (hs_okL : okL σ) (hs_okP : okP σ) : CI l yX6_sweeps wsX6_sweeps ({ frames := 5, cells := 0, slots := 0, locals := 115 } : Room) D (cty cI cP) (wMod cI hs σ) (wMod cI hs) [.ref (hs 0), .int p1] 0 0 (fun r u => f6_sweeps σ p1 = (r, u)) := by
  refine CI.of (cc := cX6_sweeps) (maxL := 6) (rt := .int) (own := RX6) (lv0 := [(0, .ref (hs 0)), (1, .int p1)]) pnX6 rfl rfl (Nat.le_of_ble_eq_true rfl) rfl (fun p e s m args below meth c A Q F hret => ?_)
  have w_1 := F.at (x := Cond.fieldLink RX6 7 "ThinVolumesModel" "s" "[I") 1 rfl
  have k_6 : ∀ w ∈ wsX60, w ∈ wsX6_sweeps := fun _ h => List.mem_cons_of_mem _ (List.mem_append_right _ (h))
  have L4 : ∀ (n : Nat) (i : Nat) (x2 : Int32) (u : PS), i + n = 40 → okL u → okP u → (∀ (y2 : Int32) (uu : PS), f6_sweeps_L4 p1 n i x2 u = (y2, uu) → Wk p l e ({ frames := 5, cells := 0, slots := 0, locals := 115 } : Room) s m args below meth c 6 D A 0 0 Q (wMod cI hs uu) [(2, .int y2)] 72 []) → Wk p l e ({ frames := 5, cells := 0, slots := 0, locals := 115 } : Room) s m args below meth c 6 D A 0 0 Q (wMod cI hs u) [(0, .ref (hs 0)), (1, .int p1), (2, .int x2), (3, .int (nI i))] 4 [] := by
    intro n
    induction n with
    | zero =>
      intro i x2 u hi hv0 hv1 kx
      refine wk_iload_n F dX6_sweeps_4 rfl 3 rfl (pc' := 5) rfl ?_
      refine wk_aload_n F dX6_sweeps_5 rfl 0 rfl (pc' := 6) rfl ?_
      refine wk_iload_n F dX6_sweeps_6 rfl 1 rfl (pc' := 7) rfl ?_
      refine wk_iconst F dX6_sweeps_7 ic_1 (pc' := 8) rfl ?_
      refine wk_same_p F (c6_of l D cI cP hs u p1 (1 : Int32) hp_p1 (vp_in_nI (n := 1) (N := 47) (Nat.le_of_ble_eq_true rfl) (Nat.le_of_ble_eq_true rfl))) (cwV 2 F.hts gX6_sweeps_X6_of rfl rfl rfl hdX6_of ⟨Nat.le_of_ble_eq_true rfl, Nat.le_of_ble_eq_true rfl⟩) 0 6 rfl rfl rfl rfl (Nat.le_of_ble_eq_true rfl) dX6_sweeps_8 ⟨Nat.zero_le _, Nat.zero_le _⟩ (pc' := 11) rfl ?_
      refine wk_icmp_ge (tgt := 72) F dX6_sweeps_11 (by decide) (pc' := 14) rfl (fun _ => ?_) (fun c => absurd (okL_le hv0 hp_p1 (by omega) (by omega)) c)
      refine wk_lv [2] rfl ?_
      exact kx x2 u (by rw [f6_sweeps_L4] <;> exact rfl)
    | succ n ih =>
      intro i x2 u hi hv0 hv1 kx
      refine wk_iload_n F dX6_sweeps_4 rfl 3 rfl (pc' := 5) rfl ?_
      refine wk_aload_n F dX6_sweeps_5 rfl 0 rfl (pc' := 6) rfl ?_
      refine wk_iload_n F dX6_sweeps_6 rfl 1 rfl (pc' := 7) rfl ?_
      refine wk_iconst F dX6_sweeps_7 ic_1 (pc' := 8) rfl ?_
      refine wk_same_p F (c6_of l D cI cP hs u p1 (1 : Int32) hp_p1 (vp_in_nI (n := 1) (N := 47) (Nat.le_of_ble_eq_true rfl) (Nat.le_of_ble_eq_true rfl))) (cwV 2 F.hts gX6_sweeps_X6_of rfl rfl rfl hdX6_of ⟨Nat.le_of_ble_eq_true rfl, Nat.le_of_ble_eq_true rfl⟩) 0 6 rfl rfl rfl rfl (Nat.le_of_ble_eq_true rfl) dX6_sweeps_8 ⟨Nat.zero_le _, Nat.zero_le _⟩ (pc' := 11) rfl ?_
      refine wk_icmp_ge (tgt := 72) F dX6_sweeps_11 (by decide) (pc' := 14) rfl (fun c1 => ?_) (fun c1 => ?_)
      · refine wk_lv [2] rfl ?_
        exact kx x2 u (by rw [f6_sweeps_L4] <;> exact (st_pos c1 rfl))
      · refine wk_aload_n F dX6_sweeps_14 rfl 0 rfl (pc' := 15) rfl ?_
        refine wk_iload_n F dX6_sweeps_15 rfl 1 rfl (pc' := 16) rfl ?_
        refine wk_iload_n F dX6_sweeps_16 rfl 3 rfl (pc' := 17) rfl ?_
        refine wk_same_p F (c6_piece l D cI cP hs u p1 (nI i) hp_p1 (vp_in_nI (n := i) (N := 40) (by omega) (Nat.le_of_ble_eq_true rfl))) (cwV 2 F.hts gX6_sweeps_X6_piece rfl rfl rfl hdX6_piece ⟨Nat.le_of_ble_eq_true rfl, Nat.le_of_ble_eq_true rfl⟩) 0 6 rfl rfl rfl rfl (Nat.le_of_ble_eq_true rfl) dX6_sweeps_17 ⟨Nat.zero_le _, Nat.zero_le _⟩ (pc' := 20) rfl ?_
        refine wk_istore (lv' := [(4, .int (f6_piece u p1 (nI i))), (0, .ref (hs 0)), (1, .int p1), (2, .int x2), (3, .int (nI i))]) F dX6_sweeps_20 (Nat.le_of_ble_eq_true rfl) rfl (pc' := 22) rfl ?_
        refine wk_iload F dX6_sweeps_22 0 rfl (pc' := 24) rfl ?_
        refine wk_if_lt (tgt := 49) F dX6_sweeps_24 (by decide) (pc' := 27) rfl (fun c2 => ?_) (fun c2 => ?_)
        · refine wk_iconst F dX6_sweeps_49 ic_0 (pc' := 50) rfl ?_
          refine wk_istore (lv' := [(5, .int (0 : Int32)), (4, .int (f6_piece u p1 (nI i))), (0, .ref (hs 0)), (1, .int p1), (2, .int x2), (3, .int (nI i))]) F dX6_sweeps_50 (Nat.le_of_ble_eq_true rfl) rfl (pc' := 52) rfl ?_
          refine wk_aload_n F dX6_sweeps_52 rfl 2 rfl (pc' := 53) rfl ?_
          refine wk_iload_n F dX6_sweeps_53 rfl 3 rfl (pc' := 54) rfl ?_
          refine wk_iconst F dX6_sweeps_54 ic_2 (pc' := 55) rfl ?_
          refine wk_iload F dX6_sweeps_55 0 rfl (pc' := 57) rfl ?_
          refine wk_imul F dX6_sweeps_57 (pc' := 58) rfl ?_
          refine wk_same_v F (c6_behaves l D cI cP hs u p1 ((2 : Int32) * (0 : Int32)) hp_p1) (cwV 2 F.hts gX6_sweeps_X6_behaves rfl rfl rfl hdX6_behaves ⟨Nat.le_of_ble_eq_true rfl, Nat.le_of_ble_eq_true rfl⟩) 0 6 rfl rfl rfl rfl (Nat.le_of_ble_eq_true rfl) dX6_sweeps_58 ⟨Nat.zero_le _, Nat.zero_le _⟩ (pc' := 61) rfl (fun u3 h4 => ?_)
          refine wk_iload_n F dX6_sweeps_61 rfl 4 rfl (pc' := 62) rfl ?_
          refine wk_iload F dX6_sweeps_62 0 rfl (pc' := 64) rfl ?_
          refine wk_iadd F dX6_sweeps_64 (pc' := 65) rfl ?_
          refine wk_istore_n (lv' := [(2, .int (x2 + (0 : Int32))), (5, .int (0 : Int32)), (4, .int (f6_piece u p1 (nI i))), (0, .ref (hs 0)), (1, .int p1), (3, .int (nI i))]) F dX6_sweeps_65 rfl (Nat.le_of_ble_eq_true rfl) rfl (pc' := 66) rfl ?_
          refine wk_iinc (k := 5) (v := nI (i + 1)) (lv' := [(3, .int (nI (i + 1))), (2, .int (x2 + (0 : Int32))), (5, .int (0 : Int32)), (4, .int (f6_piece u p1 (nI i))), (0, .ref (hs 0)), (1, .int p1)]) F dX6_sweeps_66 rfl (nI_inc i) (Nat.le_of_ble_eq_true rfl) rfl (pc' := 69) rfl ?_
          refine wk_goto (tgt := 4) F dX6_sweeps_69 (by decide) ?_
          refine wk_lv [4, 5, 1, 0] rfl ?_
          exact ih (i + 1) (x2 + (0 : Int32)) u3 (by omega) (okL_behaves hp_p1 h4 hv0) (okP_behaves hp_p1 h4 hv1) (fun y2_ u_ h_ => kx y2_ u_ (Eq.trans (by rw [f6_sweeps_L4] <;> exact (st_neg c1 (st_pos c2 (st_let h4 rfl)))) h_))
        · refine wk_aload_n F dX6_sweeps_27 rfl 1 rfl (pc' := 28) rfl ?_
          refine wk_get (C := RX6) (T := TX6) (N := 12) F 0 rfl rfl k_6 0 (Nat.le_of_ble_eq_true rfl) w_1 rfl dX6_sweeps_28 (pc' := 31) rfl ?_
          refine wk_bipush F dX6_sweeps_31 bp_7 (pc' := 33) rfl ?_
          refine wk_iload F dX6_sweeps_33 0 rfl (pc' := 35) rfl ?_
          refine wk_iadd F dX6_sweeps_35 (pc' := 36) rfl ?_
          refine wk_iald F 1 0 rfl rfl (vin_mono (ix_val c2 (piece_lt hv1 hp_p1 (vp_in_nI (n := i) (N := 40) (by omega) (Nat.le_of_ble_eq_true rfl)))) (Nat.le_of_ble_eq_true rfl)) dX6_sweeps_36 (pc' := 37) rfl ?_
          refine wk_if_ne (tgt := 49) F dX6_sweeps_37 (by decide) (pc' := 40) rfl (fun c5 => ?_) (fun c5 => ?_)
          · refine wk_iconst F dX6_sweeps_49 ic_0 (pc' := 50) rfl ?_
            refine wk_istore (lv' := [(5, .int (0 : Int32)), (4, .int (f6_piece u p1 (nI i))), (0, .ref (hs 0)), (1, .int p1), (2, .int x2), (3, .int (nI i))]) F dX6_sweeps_50 (Nat.le_of_ble_eq_true rfl) rfl (pc' := 52) rfl ?_
            refine wk_aload_n F dX6_sweeps_52 rfl 2 rfl (pc' := 53) rfl ?_
            refine wk_iload_n F dX6_sweeps_53 rfl 3 rfl (pc' := 54) rfl ?_
            refine wk_iconst F dX6_sweeps_54 ic_2 (pc' := 55) rfl ?_
            refine wk_iload F dX6_sweeps_55 0 rfl (pc' := 57) rfl ?_
            refine wk_imul F dX6_sweeps_57 (pc' := 58) rfl ?_
            refine wk_same_v F (c6_behaves l D cI cP hs u p1 ((2 : Int32) * (0 : Int32)) hp_p1) (cwV 2 F.hts gX6_sweeps_X6_behaves rfl rfl rfl hdX6_behaves ⟨Nat.le_of_ble_eq_true rfl, Nat.le_of_ble_eq_true rfl⟩) 0 6 rfl rfl rfl rfl (Nat.le_of_ble_eq_true rfl) dX6_sweeps_58 ⟨Nat.zero_le _, Nat.zero_le _⟩ (pc' := 61) rfl (fun u6 h7 => ?_)
            refine wk_iload_n F dX6_sweeps_61 rfl 4 rfl (pc' := 62) rfl ?_
            refine wk_iload F dX6_sweeps_62 0 rfl (pc' := 64) rfl ?_
            refine wk_iadd F dX6_sweeps_64 (pc' := 65) rfl ?_
            refine wk_istore_n (lv' := [(2, .int (x2 + (0 : Int32))), (5, .int (0 : Int32)), (4, .int (f6_piece u p1 (nI i))), (0, .ref (hs 0)), (1, .int p1), (3, .int (nI i))]) F dX6_sweeps_65 rfl (Nat.le_of_ble_eq_true rfl) rfl (pc' := 66) rfl ?_
            refine wk_iinc (k := 5) (v := nI (i + 1)) (lv' := [(3, .int (nI (i + 1))), (2, .int (x2 + (0 : Int32))), (5, .int (0 : Int32)), (4, .int (f6_piece u p1 (nI i))), (0, .ref (hs 0)), (1, .int p1)]) F dX6_sweeps_66 rfl (nI_inc i) (Nat.le_of_ble_eq_true rfl) rfl (pc' := 69) rfl ?_
            refine wk_goto (tgt := 4) F dX6_sweeps_69 (by decide) ?_
            refine wk_lv [4, 5, 1, 0] rfl ?_
            exact ih (i + 1) (x2 + (0 : Int32)) u6 (by omega) (okL_behaves hp_p1 h7 hv0) (okP_behaves hp_p1 h7 hv1) (fun y2_ u_ h_ => kx y2_ u_ (Eq.trans (by rw [f6_sweeps_L4] <;> exact (st_neg c1 (st_neg c2 (st_neg c5 (st_let h7 rfl))))) h_))
          · refine wk_aload_n F dX6_sweeps_40 rfl 1 rfl (pc' := 41) rfl ?_
            refine wk_iload_n F dX6_sweeps_41 rfl 2 rfl (pc' := 42) rfl ?_
            refine wk_iload_n F dX6_sweeps_42 rfl 4 rfl (pc' := 43) rfl ?_
            refine wk_same_i F (c6_trims l D cI cP hs u p1 (nI i) hp_p1 (vp_in_nI (n := i) (N := 40) (by omega) (Nat.le_of_ble_eq_true rfl)) hv0) (cwV 2 F.hts gX6_sweeps_X6_trims rfl rfl rfl hdX6_trims ⟨Nat.le_of_ble_eq_true rfl, Nat.le_of_ble_eq_true rfl⟩) 0 6 rfl rfl rfl rfl (Nat.le_of_ble_eq_true rfl) dX6_sweeps_43 ⟨Nat.zero_le _, Nat.zero_le _⟩ (pc' := 46) rfl (fun r9 u8 h10 => ?_)
            refine wk_goto (tgt := 50) F dX6_sweeps_46 (by decide) ?_
            refine wk_istore (lv' := [(5, .int r9), (4, .int (f6_piece u p1 (nI i))), (0, .ref (hs 0)), (1, .int p1), (2, .int x2), (3, .int (nI i))]) F dX6_sweeps_50 (Nat.le_of_ble_eq_true rfl) rfl (pc' := 52) rfl ?_
            refine wk_aload_n F dX6_sweeps_52 rfl 2 rfl (pc' := 53) rfl ?_
            refine wk_iload_n F dX6_sweeps_53 rfl 3 rfl (pc' := 54) rfl ?_
            refine wk_iconst F dX6_sweeps_54 ic_2 (pc' := 55) rfl ?_
            refine wk_iload F dX6_sweeps_55 0 rfl (pc' := 57) rfl ?_
            refine wk_imul F dX6_sweeps_57 (pc' := 58) rfl ?_
            refine wk_same_v F (c6_behaves l D cI cP hs u8 p1 ((2 : Int32) * r9) hp_p1) (cwV 2 F.hts gX6_sweeps_X6_behaves rfl rfl rfl hdX6_behaves ⟨Nat.le_of_ble_eq_true rfl, Nat.le_of_ble_eq_true rfl⟩) 0 6 rfl rfl rfl rfl (Nat.le_of_ble_eq_true rfl) dX6_sweeps_58 ⟨Nat.zero_le _, Nat.zero_le _⟩ (pc' := 61) rfl (fun u11 h12 => ?_)
            refine wk_iload_n F dX6_sweeps_61 rfl 4 rfl (pc' := 62) rfl ?_
            refine wk_iload F dX6_sweeps_62 0 rfl (pc' := 64) rfl ?_
            refine wk_iadd F dX6_sweeps_64 (pc' := 65) rfl ?_
            refine wk_istore_n (lv' := [(2, .int (x2 + r9)), (5, .int r9), (4, .int (f6_piece u p1 (nI i))), (0, .ref (hs 0)), (1, .int p1), (3, .int (nI i))]) F dX6_sweeps_65 rfl (Nat.le_of_ble_eq_true rfl) rfl (pc' := 66) rfl ?_
            refine wk_iinc (k := 5) (v := nI (i + 1)) (lv' := [(3, .int (nI (i + 1))), (2, .int (x2 + r9)), (5, .int r9), (4, .int (f6_piece u p1 (nI i))), (0, .ref (hs 0)), (1, .int p1)]) F dX6_sweeps_66 rfl (nI_inc i) (Nat.le_of_ble_eq_true rfl) rfl (pc' := 69) rfl ?_
            refine wk_goto (tgt := 4) F dX6_sweeps_69 (by decide) ?_
            refine wk_lv [4, 5, 1, 0] rfl ?_
            exact ih (i + 1) (x2 + r9) u11 (by omega) (okL_behaves hp_p1 h12 (okL_trims hp_p1 (vp_in_nI (n := i) (N := 40) (by omega) (Nat.le_of_ble_eq_true rfl)) h10 hv0)) (okP_behaves hp_p1 h12 (okP_trims hp_p1 (vp_in_nI (n := i) (N := 40) (by omega) (Nat.le_of_ble_eq_true rfl)) h10 hv1)) (fun y2_ u_ h_ => kx y2_ u_ (Eq.trans (by rw [f6_sweeps_L4] <;> exact (st_neg c1 (st_neg c2 (st_pos c5 (st_match h10 (st_let h12 rfl)))))) h_))
  refine wk_iconst F dX6_sweeps_0 ic_0 (pc' := 1) rfl ?_
  refine wk_istore_n (lv' := [(2, .int (0 : Int32)), (0, .ref (hs 0)), (1, .int p1)]) F dX6_sweeps_1 rfl (Nat.le_of_ble_eq_true rfl) rfl (pc' := 2) rfl ?_
  refine wk_iconst F dX6_sweeps_2 ic_0 (pc' := 3) rfl ?_
  refine wk_istore_n (lv' := [(3, .int (0 : Int32)), (2, .int (0 : Int32)), (0, .ref (hs 0)), (1, .int p1)]) F dX6_sweeps_3 rfl (Nat.le_of_ble_eq_true rfl) rfl (pc' := 4) rfl ?_
  refine wk_lv [2, 3, 1, 0] rfl ?_
  refine L4 40 0 (0 : Int32) σ (by omega) hs_okL hs_okP (fun y14 u15 h13 => ?_)
  refine wk_iload_n F dX6_sweeps_72 rfl 0 rfl (pc' := 73) rfl ?_
  exact hret _ _ _ _ dX6_sweeps_73 rfl (by rw [f6_sweeps] <;> exact (st_match h13 rfl))
theorem okLP_sweepsL {v : Int32} (hv : vp_in v 8) : ∀ (n i : Nat) (x : Int32) (u : PS), i + n = 40 → okL u → okP u → okL (f6_sweeps_L4 v n i x u).2 ∧ okP (f6_sweeps_L4 v n i x u).2 := by
  intro n
  induction n with
  | zero => intro i x u _ h1 h2; exact ⟨h1, h2⟩
  | succ n ih =>
    intro i x u hi h1 h2
    unfold f6_sweeps_L4 sq sq2
    have hq : vp_in (nI i) 40 := vp_in_nI (by omega) (by decide)
    split
    · exact ⟨h1, h2⟩
    · split
      · exact ih (i + 1) _ _ (by omega) (okL_behaves hv rfl h1) (okP_behaves hv rfl h2)
      · split
        · rcases e : f6_trims u v (nI i) with ⟨r, u8⟩
          dsimp only
          exact ih (i + 1) _ _ (by omega) (okL_behaves hv rfl (okL_trims hv hq e h1)) (okP_behaves hv rfl (okP_trims hv hq e h2))
        · exact ih (i + 1) _ _ (by omega) (okL_behaves hv rfl h1) (okP_behaves hv rfl h2)
theorem okL_sweeps {σ u : PS} {v r : Int32} (hv : vp_in v 8) (h : f6_sweeps σ v = (r, u)) (ho : okL σ) (hp : okP σ) : okL u := by
  have e : (f6_sweeps σ v).2 = u := by rw [h]
  subst e; exact (okLP_sweepsL hv 40 0 0 σ rfl ho hp).1
theorem okP_sweeps {σ u : PS} {v r : Int32} (hv : vp_in v 8) (h : f6_sweeps σ v = (r, u)) (ho : okL σ) (hp : okP σ) : okP u := by
  have e : (f6_sweeps σ v).2 = u := by rw [h]
  subst e; exact (okLP_sweepsL hv 40 0 0 σ rfl ho hp).2
def f6_sweep (σ : PS) (p1 : Int32) : Int32 × PS := (if (f6_isVolume σ p1) = 0 then ((-1000001 : Int32), σ) else (sq (f6_changes σ) (fun (u2 : PS) => (sq2 (f6_sweeps u2 p1) (fun (r5 : Int32) (u4 : PS) => (r5, u4))))))
set_option maxHeartbeats 4000000 in
set_option maxRecDepth 100000 in
theorem c6_sweep (l : Launch) (D : va_G) (cI cP : ClassId) (hs : Nat → Nat) (σ : PS) (p1 : Int32) (hs_okH : okH σ) (hs_okL : okL σ) (hs_okP : okP σ) : CI l yX6_sweep wsX6_sweep ({ frames := 6, cells := 0, slots := 0, locals := 140 } : Room) D (cty cI cP) (wMod cI hs σ) (wMod cI hs) [.ref (hs 0), .int p1] 0 0 (fun r u => f6_sweep σ p1 = (r, u)) := by
  refine CI.of (cc := cX6_sweep) (maxL := 2) (rt := .int) (own := RX6) (lv0 := [(0, .ref (hs 0)), (1, .int p1)]) pnX6 rfl rfl (Nat.le_of_ble_eq_true rfl) rfl (fun p e s m args below meth c A Q F hret => ?_)
  have w_1 := F.at (x := Cond.constant RX6 86 (-1000001)) 1 rfl
  refine wk_aload_n F dX6_sweep_0 rfl 0 rfl (pc' := 1) rfl ?_
  refine wk_iload_n F dX6_sweep_1 rfl 1 rfl (pc' := 2) rfl ?_
  refine wk_same_p F (c6_isVolume l D cI cP hs σ p1) (cwV 1 F.hts gX6_sweep_X6_isVolume rfl rfl rfl hdX6_isVolume ⟨Nat.le_of_ble_eq_true rfl, Nat.le_of_ble_eq_true rfl⟩) 0 6 rfl rfl rfl rfl (Nat.le_of_ble_eq_true rfl) dX6_sweep_2 ⟨Nat.zero_le _, Nat.zero_le _⟩ (pc' := 5) rfl ?_
  refine wk_if_ne (tgt := 11) F dX6_sweep_5 (by decide) (pc' := 8) rfl (fun c1 => ?_) (fun c1 => ?_)
  · refine wk_aload_n F dX6_sweep_11 rfl 0 rfl (pc' := 12) rfl ?_
    refine wk_same_v F (c6_changes l D cI cP hs σ hs_okH) (cwV 0 F.hts gX6_sweep_X6_changes rfl rfl rfl hdX6_changes ⟨Nat.le_of_ble_eq_true rfl, Nat.le_of_ble_eq_true rfl⟩) 0 6 rfl rfl rfl rfl (Nat.le_of_ble_eq_true rfl) dX6_sweep_12 ⟨Nat.zero_le _, Nat.zero_le _⟩ (pc' := 15) rfl (fun u2 h3 => ?_)
    refine wk_aload_n F dX6_sweep_15 rfl 0 rfl (pc' := 16) rfl ?_
    refine wk_iload_n F dX6_sweep_16 rfl 1 rfl (pc' := 17) rfl ?_
    refine wk_same_i F (c6_sweeps l D cI cP hs u2 p1 (isVolume_in c1) (okL_changes h3 hs_okL) (okP_changes h3 hs_okP)) (cwV 1 F.hts gX6_sweep_X6_sweeps rfl rfl rfl hdX6_sweeps ⟨Nat.le_of_ble_eq_true rfl, Nat.le_of_ble_eq_true rfl⟩) 0 6 rfl rfl rfl rfl (Nat.le_of_ble_eq_true rfl) dX6_sweep_17 ⟨Nat.zero_le _, Nat.zero_le _⟩ (pc' := 20) rfl (fun r5 u4 h6 => ?_)
    exact hret _ _ _ _ dX6_sweep_20 rfl (by rw [f6_sweep] <;> exact (st_neg c1 (st_let h3 (st_match h6 rfl))))
  · refine wk_ldc F dX6_sweep_8 w_1 (pc' := 10) rfl ?_
    exact hret _ _ _ _ dX6_sweep_10 rfl (by rw [f6_sweep] <;> exact (st_pos c1 rfl))
def f6_moves_L11 (p1 : Int32) (p2 : Int32) (j3 : Nat) : Nat → Nat → PS → PS
  | 0, i, u => u
  | n + 1, i, u => (if (f6_of u (nI j3) (0 : Int32)) = (1 : Int32) then (if (f6_piece u (nI j3) (nI i)) = p1 then (sq (f6_puts u (nI j3) (nI (7 + i)) p2) (fun (u5 : PS) => f6_moves_L11 p1 p2 j3 n (i + 1) u5)) else (sq (f6_puts u (nI j3) (nI (7 + i)) (f6_piece u (nI j3) (nI i))) (fun (u3 : PS) => f6_moves_L11 p1 p2 j3 n (i + 1) u3))) else u)
def f6_moves_L2 (p1 : Int32) (p2 : Int32) : Nat → Nat → PS → PS
  | 0, i, u => u
  | n + 1, i, u => (sq (f6_moves_L11 p1 p2 i 40 0 u) (fun (u8 : PS) => f6_moves_L2 p1 p2 n (i + 1) u8))
def f6_moves (σ : PS) (p1 : Int32) (p2 : Int32) : PS := (sq (f6_moves_L2 p1 p2 8 0 σ) (fun (u10 : PS) => u10))
set_option maxHeartbeats 4000000 in
set_option maxRecDepth 100000 in
theorem c6_moves (l : Launch) (D : va_G) (cI cP : ClassId) (hs : Nat → Nat) (σ : PS) (p1 : Int32) (p2 : Int32) : CV l yX6_moves wsX6_moves ({ frames := 2, cells := 0, slots := 0, locals := 44 } : Room) D (cty cI cP) (wMod cI hs σ) (wMod cI hs) [.ref (hs 0), .int p1, .int p2] 0 0 (fun u => f6_moves σ p1 p2 = u) := by
  refine CV.of (cc := cX6_moves) (maxL := 5) (own := RX6) (lv0 := [(0, .ref (hs 0)), (1, .int p1), (2, .int p2)]) pnX6 rfl rfl (Nat.le_of_ble_eq_true rfl) rfl (fun p e s m args below meth c A Q F hmn hret => ?_)
  have L11 : ∀ (j3 : Nat) (hj3 : j3 < 8) (n : Nat) (i : Nat) (u : PS), i + n = 40 → (∀ (uu : PS), f6_moves_L11 p1 p2 j3 n i u = uu → Wk p l e ({ frames := 2, cells := 0, slots := 0, locals := 44 } : Room) s m args below meth c 5 D A 0 0 Q (wMod cI hs uu) [(0, .ref (hs 0)), (1, .int p1), (2, .int p2), (3, .int (nI j3))] 66 []) → Wk p l e ({ frames := 2, cells := 0, slots := 0, locals := 44 } : Room) s m args below meth c 5 D A 0 0 Q (wMod cI hs u) [(0, .ref (hs 0)), (1, .int p1), (2, .int p2), (3, .int (nI j3)), (4, .int (nI i))] 11 [] := by
    intro j3 hj3 n
    induction n with
    | zero =>
      intro i u hi kx
      refine wk_iload F dX6_moves_11 4 rfl (pc' := 13) rfl ?_
      refine wk_bipush F dX6_moves_13 bp_40 (pc' := 15) rfl ?_
      refine wk_icmp_ge (tgt := 66) F dX6_moves_15 (by decide) (pc' := 18) rfl (fun _ => ?_) (fun c => absurd ((nI_leI (a := 40) (b := i) (by omega) (by omega)).mpr (by omega)) c)
      refine wk_lv [0, 1, 2, 3] rfl ?_
      exact kx u (by rw [f6_moves_L11] <;> exact rfl)
    | succ n ih =>
      intro i u hi kx
      refine wk_iload F dX6_moves_11 4 rfl (pc' := 13) rfl ?_
      refine wk_bipush F dX6_moves_13 bp_40 (pc' := 15) rfl ?_
      refine wk_icmp_ge (tgt := 66) F dX6_moves_15 (by decide) (pc' := 18) rfl (fun c => absurd ((nI_leI (a := 40) (b := i) (by omega) (by omega)).mp c) (by omega)) (fun _ => ?_)
      refine wk_aload_n F dX6_moves_18 rfl 0 rfl (pc' := 19) rfl ?_
      refine wk_iload_n F dX6_moves_19 rfl 3 rfl (pc' := 20) rfl ?_
      refine wk_iconst F dX6_moves_20 ic_0 (pc' := 21) rfl ?_
      refine wk_same_p F (c6_of l D cI cP hs u (nI j3) (0 : Int32) (vp_in_nI (n := j3) (N := 8) (by omega) (Nat.le_of_ble_eq_true rfl)) (vp_in_nI (n := 0) (N := 47) (Nat.le_of_ble_eq_true rfl) (Nat.le_of_ble_eq_true rfl))) (cwV 2 F.hts gX6_moves_X6_of rfl rfl rfl hdX6_of ⟨Nat.le_of_ble_eq_true rfl, Nat.le_of_ble_eq_true rfl⟩) 0 6 rfl rfl rfl rfl (Nat.le_of_ble_eq_true rfl) dX6_moves_21 ⟨Nat.zero_le _, Nat.zero_le _⟩ (pc' := 24) rfl ?_
      refine wk_iconst F dX6_moves_24 ic_1 (pc' := 25) rfl ?_
      refine wk_icmp_ne (tgt := 66) F dX6_moves_25 (by decide) (pc' := 28) rfl (fun c1 => ?_) (fun c1 => ?_)
      · refine wk_lv [0, 1, 2, 3] rfl ?_
        exact kx u (by rw [f6_moves_L11] <;> exact (st_neg c1 rfl))
      · refine wk_aload_n F dX6_moves_28 rfl 0 rfl (pc' := 29) rfl ?_
        refine wk_iload_n F dX6_moves_29 rfl 3 rfl (pc' := 30) rfl ?_
        refine wk_bipush F dX6_moves_30 bp_7 (pc' := 32) rfl ?_
        refine wk_iload F dX6_moves_32 4 rfl (pc' := 34) rfl ?_
        refine wk_iadd F dX6_moves_34 (pc' := 35) rfl ?_
        refine wk_top (nI_add 7 i) ?_
        refine wk_aload_n F dX6_moves_35 rfl 0 rfl (pc' := 36) rfl ?_
        refine wk_iload_n F dX6_moves_36 rfl 3 rfl (pc' := 37) rfl ?_
        refine wk_iload F dX6_moves_37 4 rfl (pc' := 39) rfl ?_
        refine wk_same_p F (c6_piece l D cI cP hs u (nI j3) (nI i) (vp_in_nI (n := j3) (N := 8) (by omega) (Nat.le_of_ble_eq_true rfl)) (vp_in_nI (n := i) (N := 40) (by omega) (Nat.le_of_ble_eq_true rfl))) (cwV 2 F.hts gX6_moves_X6_piece rfl rfl rfl hdX6_piece ⟨Nat.le_of_ble_eq_true rfl, Nat.le_of_ble_eq_true rfl⟩) 0 6 rfl rfl rfl rfl (Nat.le_of_ble_eq_true rfl) dX6_moves_39 ⟨Nat.zero_le _, Nat.zero_le _⟩ (pc' := 42) rfl ?_
        refine wk_iload_n F dX6_moves_42 rfl 1 rfl (pc' := 43) rfl ?_
        refine wk_icmp_ne (tgt := 50) F dX6_moves_43 (by decide) (pc' := 46) rfl (fun c2 => ?_) (fun c2 => ?_)
        · refine wk_aload_n F dX6_moves_50 rfl 0 rfl (pc' := 51) rfl ?_
          refine wk_iload_n F dX6_moves_51 rfl 3 rfl (pc' := 52) rfl ?_
          refine wk_iload F dX6_moves_52 4 rfl (pc' := 54) rfl ?_
          refine wk_same_p F (c6_piece l D cI cP hs u (nI j3) (nI i) (vp_in_nI (n := j3) (N := 8) (by omega) (Nat.le_of_ble_eq_true rfl)) (vp_in_nI (n := i) (N := 40) (by omega) (Nat.le_of_ble_eq_true rfl))) (cwV 2 F.hts gX6_moves_X6_piece rfl rfl rfl hdX6_piece ⟨Nat.le_of_ble_eq_true rfl, Nat.le_of_ble_eq_true rfl⟩) 0 6 rfl rfl rfl rfl (Nat.le_of_ble_eq_true rfl) dX6_moves_54 ⟨Nat.zero_le _, Nat.zero_le _⟩ (pc' := 57) rfl ?_
          refine wk_same_v F (c6_puts l D cI cP hs u (nI j3) (nI (7 + i)) (f6_piece u (nI j3) (nI i)) (vp_in_nI (n := j3) (N := 8) (by omega) (Nat.le_of_ble_eq_true rfl)) (vp_in_nI (n := 7 + i) (N := 47) (by omega) (Nat.le_of_ble_eq_true rfl))) (cwV 3 F.hts gX6_moves_X6_puts rfl rfl rfl hdX6_puts ⟨Nat.le_of_ble_eq_true rfl, Nat.le_of_ble_eq_true rfl⟩) 0 6 rfl rfl rfl rfl (Nat.le_of_ble_eq_true rfl) dX6_moves_57 ⟨Nat.zero_le _, Nat.zero_le _⟩ (pc' := 60) rfl (fun u3 h4 => ?_)
          refine wk_iinc (k := 4) (v := nI (i + 1)) (lv' := [(4, .int (nI (i + 1))), (0, .ref (hs 0)), (1, .int p1), (2, .int p2), (3, .int (nI j3))]) F dX6_moves_60 rfl (nI_inc i) (Nat.le_of_ble_eq_true rfl) rfl (pc' := 63) rfl ?_
          refine wk_goto (tgt := 11) F dX6_moves_63 (by decide) ?_
          refine wk_lv [1, 2, 3, 4, 0] rfl ?_
          exact ih (i + 1) u3 (by omega) (fun u_ h_ => kx u_ (Eq.trans (by rw [f6_moves_L11] <;> exact (st_pos c1 (st_neg c2 (st_let h4 rfl)))) h_))
        · refine wk_iload_n F dX6_moves_46 rfl 2 rfl (pc' := 47) rfl ?_
          refine wk_goto (tgt := 57) F dX6_moves_47 (by decide) ?_
          refine wk_same_v F (c6_puts l D cI cP hs u (nI j3) (nI (7 + i)) p2 (vp_in_nI (n := j3) (N := 8) (by omega) (Nat.le_of_ble_eq_true rfl)) (vp_in_nI (n := 7 + i) (N := 47) (by omega) (Nat.le_of_ble_eq_true rfl))) (cwV 3 F.hts gX6_moves_X6_puts rfl rfl rfl hdX6_puts ⟨Nat.le_of_ble_eq_true rfl, Nat.le_of_ble_eq_true rfl⟩) 0 6 rfl rfl rfl rfl (Nat.le_of_ble_eq_true rfl) dX6_moves_57 ⟨Nat.zero_le _, Nat.zero_le _⟩ (pc' := 60) rfl (fun u5 h6 => ?_)
          refine wk_iinc (k := 4) (v := nI (i + 1)) (lv' := [(4, .int (nI (i + 1))), (0, .ref (hs 0)), (1, .int p1), (2, .int p2), (3, .int (nI j3))]) F dX6_moves_60 rfl (nI_inc i) (Nat.le_of_ble_eq_true rfl) rfl (pc' := 63) rfl ?_
          refine wk_goto (tgt := 11) F dX6_moves_63 (by decide) ?_
          refine wk_lv [1, 2, 3, 4, 0] rfl ?_
          exact ih (i + 1) u5 (by omega) (fun u_ h_ => kx u_ (Eq.trans (by rw [f6_moves_L11] <;> exact (st_pos c1 (st_pos c2 (st_let h6 rfl)))) h_))
  have L2 : ∀ (n : Nat) (i : Nat) (u : PS), i + n = 8 → (∀ (uu : PS), f6_moves_L2 p1 p2 n i u = uu → Wk p l e ({ frames := 2, cells := 0, slots := 0, locals := 44 } : Room) s m args below meth c 5 D A 0 0 Q (wMod cI hs uu) [] 72 []) → Wk p l e ({ frames := 2, cells := 0, slots := 0, locals := 44 } : Room) s m args below meth c 5 D A 0 0 Q (wMod cI hs u) [(0, .ref (hs 0)), (1, .int p1), (2, .int p2), (3, .int (nI i))] 2 [] := by
    intro n
    induction n with
    | zero =>
      intro i u hi kx
      refine wk_iload_n F dX6_moves_2 rfl 3 rfl (pc' := 3) rfl ?_
      refine wk_bipush F dX6_moves_3 bp_8 (pc' := 5) rfl ?_
      refine wk_icmp_ge (tgt := 72) F dX6_moves_5 (by decide) (pc' := 8) rfl (fun _ => ?_) (fun c => absurd ((nI_leI (a := 8) (b := i) (by omega) (by omega)).mpr (by omega)) c)
      refine wk_lv [] rfl ?_
      exact kx u (by rw [f6_moves_L2] <;> exact rfl)
    | succ n ih =>
      intro i u hi kx
      refine wk_iload_n F dX6_moves_2 rfl 3 rfl (pc' := 3) rfl ?_
      refine wk_bipush F dX6_moves_3 bp_8 (pc' := 5) rfl ?_
      refine wk_icmp_ge (tgt := 72) F dX6_moves_5 (by decide) (pc' := 8) rfl (fun c => absurd ((nI_leI (a := 8) (b := i) (by omega) (by omega)).mp c) (by omega)) (fun _ => ?_)
      refine wk_iconst F dX6_moves_8 ic_0 (pc' := 9) rfl ?_
      refine wk_istore (lv' := [(4, .int (0 : Int32)), (0, .ref (hs 0)), (1, .int p1), (2, .int p2), (3, .int (nI i))]) F dX6_moves_9 (Nat.le_of_ble_eq_true rfl) rfl (pc' := 11) rfl ?_
      refine wk_lv [1, 2, 3, 4, 0] rfl ?_
      refine L11 i (by omega) 40 0 u (by omega) (fun u8 h7 => ?_)
      refine wk_iinc (k := 3) (v := nI (i + 1)) (lv' := [(3, .int (nI (i + 1))), (0, .ref (hs 0)), (1, .int p1), (2, .int p2)]) F dX6_moves_66 rfl (nI_inc i) (Nat.le_of_ble_eq_true rfl) rfl (pc' := 69) rfl ?_
      refine wk_goto (tgt := 2) F dX6_moves_69 (by decide) ?_
      refine wk_lv [1, 2, 3, 0] rfl ?_
      exact ih (i + 1) u8 (by omega) (fun u_ h_ => kx u_ (Eq.trans (by rw [f6_moves_L2] <;> exact (st_let h7 rfl)) h_))
  refine wk_iconst F dX6_moves_0 ic_0 (pc' := 1) rfl ?_
  refine wk_istore_n (lv' := [(3, .int (0 : Int32)), (0, .ref (hs 0)), (1, .int p1), (2, .int p2)]) F dX6_moves_1 rfl (Nat.le_of_ble_eq_true rfl) rfl (pc' := 2) rfl ?_
  refine wk_lv [1, 2, 3, 0] rfl ?_
  refine L2 8 0 σ (by omega) (fun u10 h9 => ?_)
  exact hret _ _ _ dX6_moves_72 (by rw [f6_moves] <;> exact (st_let h9 rfl))
theorem okL_movesL11 {a b : Int32} {j : Nat} (hj : j < 8) : ∀ (n i : Nat) (u : PS), i + n = 40 → okL u → okL (f6_moves_L11 a b j n i u) := by
  intro n
  induction n with
  | zero => intro i u _ h; exact h
  | succ n ih =>
    intro i u hi h
    unfold f6_moves_L11 sq
    have hv : vp_in (nI j) 8 := vp_in_nI hj (by decide)
    split
    · split <;> exact ih (i + 1) _ (by omega) (okL_puts (w := 7 + i) (by omega) (by omega) hv rfl h)
    · exact h
theorem okL_movesL2 {a b : Int32} : ∀ (n i : Nat) (u : PS), i + n = 8 → okL u → okL (f6_moves_L2 a b n i u) := by
  intro n
  induction n with
  | zero => intro i u _ h; exact h
  | succ n ih =>
    intro i u hi h
    exact ih (i + 1) _ (by omega) (okL_movesL11 (by omega) 40 0 u rfl h)
theorem okL_moves {σ u : PS} {a b : Int32} (h : f6_moves σ a b = u) (ho : okL σ) : okL u := by
  subst h; unfold f6_moves sq; exact okL_movesL2 8 0 σ rfl ho
def f6_merges_L17 (u : PS) (j2 : Nat) : Nat → Int32 → Int32
  | 0, x3 => x3
  | n + 1, x3 => (if (u 0 (7 + n)) = (u 0 (7 + j2)) then (if (f6_owners u (nI n)) ≤ 0 then f6_merges_L17 u j2 n x3 else f6_merges_L17 u j2 n (nI n)) else f6_merges_L17 u j2 n x3)
def f6_merges_L4 : Nat → Nat → Int32 → PS → Int32 × PS
  | 0, i, x1, u => (x1, u)
  | n + 1, i, x1, u => (sq (f6_merges_L17 u i i (nI i)) (fun (y4 : Int32) => (if (f6_owners u (nI i)) ≤ 0 then f6_merges_L4 n (i + 1) x1 u else (if (nI i) ≤ y4 then f6_merges_L4 n (i + 1) x1 u else (sq (f6_moves u (nI i) y4) (fun (u7 : PS) => f6_merges_L4 n (i + 1) (x1 + 1) u7))))))
def f6_merges (σ : PS) : Int32 × PS := (sq2 (f6_merges_L4 30 0 (0 : Int32) σ) (fun (y10 : Int32) (u11 : PS) => (sq (wr u11 0 5 ((u11 0 5) + y10)) (fun (u12 : PS) => (y10, u12)))))
set_option maxHeartbeats 4000000 in
set_option maxRecDepth 100000 in
theorem c6_merges (l : Launch) (D : va_G) (cI cP : ClassId) (hs : Nat → Nat) (σ : PS) (hs_okL : okL σ) : CI l yX6_merges wsX6_merges ({ frames := 4, cells := 0, slots := 0, locals := 91 } : Room) D (cty cI cP) (wMod cI hs σ) (wMod cI hs) [.ref (hs 0)] 0 0 (fun r u => f6_merges σ = (r, u)) := by
  refine CI.of (cc := cX6_merges) (maxL := 5) (rt := .int) (own := RX6) (lv0 := [(0, .ref (hs 0))]) pnX6 rfl rfl (Nat.le_of_ble_eq_true rfl) rfl (fun p e s m args below meth c A Q F hret => ?_)
  have w_1 := F.at (x := Cond.fieldLink RX6 7 "ThinVolumesModel" "s" "[I") 1 rfl
  have k_6 : ∀ w ∈ wsX60, w ∈ wsX6_merges := fun _ h => List.mem_cons_of_mem _ (List.mem_append_right _ (h))
  have L17 : ∀ (u : PS) (y1 : Int32) (j2 : Nat) (hj2 : j2 < 30) (n : Nat) (x3 : Int32), okL u → n ≤ 30 → (∀ (y3 : Int32), f6_merges_L17 u j2 n x3 = y3 → Wk p l e ({ frames := 4, cells := 0, slots := 0, locals := 91 } : Room) s m args below meth c 5 D A 0 0 Q (wMod cI hs u) [(0, .ref (hs 0)), (1, .int y1), (2, .int (nI j2)), (3, .int y3)] 66 []) → Wk p l e ({ frames := 4, cells := 0, slots := 0, locals := 91 } : Room) s m args below meth c 5 D A 0 0 Q (wMod cI hs u) [(0, .ref (hs 0)), (1, .int y1), (2, .int (nI j2)), (3, .int x3), (4, .int (nI n - (1 : Int32)))] 17 [] := by
    intro u y1 j2 hj2 n
    induction n with
    | zero =>
      intro x3 hv0 hv1 kx
      rw [show nI 0 - (1 : Int32) = (-1 : Int32) from by decide]
      refine wk_iload F dX6_merges_17 4 rfl (pc' := 19) rfl ?_
      refine wk_if_lt (tgt := 66) F dX6_merges_19 (by decide) (pc' := 22) rfl (fun _ => ?_) (fun c => absurd (by decide) c)
      refine wk_lv [0, 1, 2, 3] rfl ?_
      exact kx x3 (by rw [f6_merges_L17] <;> exact rfl)
    | succ n ih =>
      intro x3 hv0 hv1 kx
      rw [nI_pred n]
      refine wk_iload F dX6_merges_17 4 rfl (pc' := 19) rfl ?_
      refine wk_if_lt (tgt := 66) F dX6_merges_19 (by decide) (pc' := 22) rfl (fun c => absurd ((nI_ltI (a := n) (b := 0) (by omega) (by omega)).mp c) (by omega)) (fun _ => ?_)
      refine wk_aload_n F dX6_merges_22 rfl 0 rfl (pc' := 23) rfl ?_
      refine wk_get (C := RX6) (T := TX6) (N := 12) F 0 rfl rfl k_6 0 (Nat.le_of_ble_eq_true rfl) w_1 rfl dX6_merges_23 (pc' := 26) rfl ?_
      refine wk_bipush F dX6_merges_26 bp_7 (pc' := 28) rfl ?_
      refine wk_iload F dX6_merges_28 4 rfl (pc' := 30) rfl ?_
      refine wk_iadd F dX6_merges_30 (pc' := 31) rfl ?_
      refine wk_top (nI_add 7 n) ?_
      refine wk_iald_n (i := 7 + n) F 1 0 rfl rfl (by omega) (Nat.le_of_ble_eq_true rfl) dX6_merges_31 (pc' := 32) rfl ?_
      refine wk_aload_n F dX6_merges_32 rfl 0 rfl (pc' := 33) rfl ?_
      refine wk_get (C := RX6) (T := TX6) (N := 12) F 0 rfl rfl k_6 0 (Nat.le_of_ble_eq_true rfl) w_1 rfl dX6_merges_33 (pc' := 36) rfl ?_
      refine wk_bipush F dX6_merges_36 bp_7 (pc' := 38) rfl ?_
      refine wk_iload_n F dX6_merges_38 rfl 2 rfl (pc' := 39) rfl ?_
      refine wk_iadd F dX6_merges_39 (pc' := 40) rfl ?_
      refine wk_top (nI_add 7 j2) ?_
      refine wk_iald_n (i := 7 + j2) F 1 0 rfl rfl (by omega) (Nat.le_of_ble_eq_true rfl) dX6_merges_40 (pc' := 41) rfl ?_
      refine wk_icmp_ne (tgt := 58) F dX6_merges_41 (by decide) (pc' := 44) rfl (fun c1 => ?_) (fun c1 => ?_)
      · refine wk_iload_n F dX6_merges_58 rfl 3 rfl (pc' := 59) rfl ?_
        refine wk_istore_n (lv' := [(3, .int x3), (0, .ref (hs 0)), (1, .int y1), (2, .int (nI j2)), (4, .int (nI n))]) F dX6_merges_59 rfl (Nat.le_of_ble_eq_true rfl) rfl (pc' := 60) rfl ?_
        refine wk_iinc (k := 4) (v := nI n - (1 : Int32)) (lv' := [(4, .int (nI n - (1 : Int32))), (3, .int x3), (0, .ref (hs 0)), (1, .int y1), (2, .int (nI j2))]) F dX6_merges_60 rfl (nI_decm _) (Nat.le_of_ble_eq_true rfl) rfl (pc' := 63) rfl ?_
        refine wk_goto (tgt := 17) F dX6_merges_63 (by decide) ?_
        refine wk_lv [2, 3, 4, 1, 0] rfl ?_
        exact ih x3 hv0 (by omega) (fun y3_ h_ => kx y3_ (Eq.trans (by rw [f6_merges_L17] <;> exact (st_neg c1 rfl)) h_))
      · refine wk_aload_n F dX6_merges_44 rfl 0 rfl (pc' := 45) rfl ?_
        refine wk_iload F dX6_merges_45 4 rfl (pc' := 47) rfl ?_
        refine wk_same_p F (c6_owners l D cI cP hs u (nI n) hv0) (cwV 1 F.hts gX6_merges_X6_owners rfl rfl rfl hdX6_owners ⟨Nat.le_of_ble_eq_true rfl, Nat.le_of_ble_eq_true rfl⟩) 0 6 rfl rfl rfl rfl (Nat.le_of_ble_eq_true rfl) dX6_merges_47 ⟨Nat.zero_le _, Nat.zero_le _⟩ (pc' := 50) rfl ?_
        refine wk_if_le (tgt := 58) F dX6_merges_50 (by decide) (pc' := 53) rfl (fun c2 => ?_) (fun c2 => ?_)
        · refine wk_iload_n F dX6_merges_58 rfl 3 rfl (pc' := 59) rfl ?_
          refine wk_istore_n (lv' := [(3, .int x3), (0, .ref (hs 0)), (1, .int y1), (2, .int (nI j2)), (4, .int (nI n))]) F dX6_merges_59 rfl (Nat.le_of_ble_eq_true rfl) rfl (pc' := 60) rfl ?_
          refine wk_iinc (k := 4) (v := nI n - (1 : Int32)) (lv' := [(4, .int (nI n - (1 : Int32))), (3, .int x3), (0, .ref (hs 0)), (1, .int y1), (2, .int (nI j2))]) F dX6_merges_60 rfl (nI_decm _) (Nat.le_of_ble_eq_true rfl) rfl (pc' := 63) rfl ?_
          refine wk_goto (tgt := 17) F dX6_merges_63 (by decide) ?_
          refine wk_lv [2, 3, 4, 1, 0] rfl ?_
          exact ih x3 hv0 (by omega) (fun y3_ h_ => kx y3_ (Eq.trans (by rw [f6_merges_L17] <;> exact (st_pos c1 (st_pos c2 rfl))) h_))
        · refine wk_iload F dX6_merges_53 4 rfl (pc' := 55) rfl ?_
          refine wk_goto (tgt := 59) F dX6_merges_55 (by decide) ?_
          refine wk_istore_n (lv' := [(3, .int (nI n)), (0, .ref (hs 0)), (1, .int y1), (2, .int (nI j2)), (4, .int (nI n))]) F dX6_merges_59 rfl (Nat.le_of_ble_eq_true rfl) rfl (pc' := 60) rfl ?_
          refine wk_iinc (k := 4) (v := nI n - (1 : Int32)) (lv' := [(4, .int (nI n - (1 : Int32))), (3, .int (nI n)), (0, .ref (hs 0)), (1, .int y1), (2, .int (nI j2))]) F dX6_merges_60 rfl (nI_decm _) (Nat.le_of_ble_eq_true rfl) rfl (pc' := 63) rfl ?_
          refine wk_goto (tgt := 17) F dX6_merges_63 (by decide) ?_
          refine wk_lv [2, 3, 4, 1, 0] rfl ?_
          exact ih (nI n) hv0 (by omega) (fun y3_ h_ => kx y3_ (Eq.trans (by rw [f6_merges_L17] <;> exact (st_pos c1 (st_neg c2 rfl))) h_))
  have L4 : ∀ (n : Nat) (i : Nat) (x1 : Int32) (u : PS), i + n = 30 → okL u → (∀ (y1 : Int32) (uu : PS), f6_merges_L4 n i x1 u = (y1, uu) → Wk p l e ({ frames := 4, cells := 0, slots := 0, locals := 91 } : Room) s m args below meth c 5 D A 0 0 Q (wMod cI hs uu) [(0, .ref (hs 0)), (1, .int y1)] 94 []) → Wk p l e ({ frames := 4, cells := 0, slots := 0, locals := 91 } : Room) s m args below meth c 5 D A 0 0 Q (wMod cI hs u) [(0, .ref (hs 0)), (1, .int x1), (2, .int (nI i))] 4 [] := by
    intro n
    induction n with
    | zero =>
      intro i x1 u hi hv0 kx
      refine wk_iload_n F dX6_merges_4 rfl 2 rfl (pc' := 5) rfl ?_
      refine wk_bipush F dX6_merges_5 bp_30 (pc' := 7) rfl ?_
      refine wk_icmp_ge (tgt := 94) F dX6_merges_7 (by decide) (pc' := 10) rfl (fun _ => ?_) (fun c => absurd ((nI_leI (a := 30) (b := i) (by omega) (by omega)).mpr (by omega)) c)
      refine wk_lv [0, 1] rfl ?_
      exact kx x1 u (by rw [f6_merges_L4] <;> exact rfl)
    | succ n ih =>
      intro i x1 u hi hv0 kx
      refine wk_iload_n F dX6_merges_4 rfl 2 rfl (pc' := 5) rfl ?_
      refine wk_bipush F dX6_merges_5 bp_30 (pc' := 7) rfl ?_
      refine wk_icmp_ge (tgt := 94) F dX6_merges_7 (by decide) (pc' := 10) rfl (fun c => absurd ((nI_leI (a := 30) (b := i) (by omega) (by omega)).mp c) (by omega)) (fun _ => ?_)
      refine wk_iload_n F dX6_merges_10 rfl 2 rfl (pc' := 11) rfl ?_
      refine wk_istore_n (lv' := [(3, .int (nI i)), (0, .ref (hs 0)), (1, .int x1), (2, .int (nI i))]) F dX6_merges_11 rfl (Nat.le_of_ble_eq_true rfl) rfl (pc' := 12) rfl ?_
      refine wk_iload_n F dX6_merges_12 rfl 3 rfl (pc' := 13) rfl ?_
      refine wk_iconst F dX6_merges_13 ic_1 (pc' := 14) rfl ?_
      refine wk_isub F dX6_merges_14 (pc' := 15) rfl ?_
      refine wk_istore (lv' := [(4, .int ((nI i) - (1 : Int32))), (3, .int (nI i)), (0, .ref (hs 0)), (1, .int x1), (2, .int (nI i))]) F dX6_merges_15 (Nat.le_of_ble_eq_true rfl) rfl (pc' := 17) rfl ?_
      refine wk_lv [2, 3, 4, 1, 0] rfl ?_
      refine L17 u x1 i (by omega) i (nI i) hv0 (by omega) (fun y4 h3 => ?_)
      refine wk_aload_n F dX6_merges_66 rfl 0 rfl (pc' := 67) rfl ?_
      refine wk_iload_n F dX6_merges_67 rfl 2 rfl (pc' := 68) rfl ?_
      refine wk_same_p F (c6_owners l D cI cP hs u (nI i) hv0) (cwV 1 F.hts gX6_merges_X6_owners rfl rfl rfl hdX6_owners ⟨Nat.le_of_ble_eq_true rfl, Nat.le_of_ble_eq_true rfl⟩) 0 6 rfl rfl rfl rfl (Nat.le_of_ble_eq_true rfl) dX6_merges_68 ⟨Nat.zero_le _, Nat.zero_le _⟩ (pc' := 71) rfl ?_
      refine wk_if_le (tgt := 88) F dX6_merges_71 (by decide) (pc' := 74) rfl (fun c5 => ?_) (fun c5 => ?_)
      · refine wk_iinc (k := 2) (v := nI (i + 1)) (lv' := [(2, .int (nI (i + 1))), (0, .ref (hs 0)), (1, .int x1), (3, .int y4)]) F dX6_merges_88 rfl (nI_inc i) (Nat.le_of_ble_eq_true rfl) rfl (pc' := 91) rfl ?_
        refine wk_goto (tgt := 4) F dX6_merges_91 (by decide) ?_
        refine wk_lv [1, 2, 0] rfl ?_
        exact ih (i + 1) x1 u (by omega) hv0 (fun y1_ u_ h_ => kx y1_ u_ (Eq.trans (by rw [f6_merges_L4] <;> exact (st_let h3 (st_pos c5 rfl))) h_))
      · refine wk_iload_n F dX6_merges_74 rfl 3 rfl (pc' := 75) rfl ?_
        refine wk_iload_n F dX6_merges_75 rfl 2 rfl (pc' := 76) rfl ?_
        refine wk_icmp_ge (tgt := 88) F dX6_merges_76 (by decide) (pc' := 79) rfl (fun c6 => ?_) (fun c6 => ?_)
        · refine wk_iinc (k := 2) (v := nI (i + 1)) (lv' := [(2, .int (nI (i + 1))), (0, .ref (hs 0)), (1, .int x1), (3, .int y4)]) F dX6_merges_88 rfl (nI_inc i) (Nat.le_of_ble_eq_true rfl) rfl (pc' := 91) rfl ?_
          refine wk_goto (tgt := 4) F dX6_merges_91 (by decide) ?_
          refine wk_lv [1, 2, 0] rfl ?_
          exact ih (i + 1) x1 u (by omega) hv0 (fun y1_ u_ h_ => kx y1_ u_ (Eq.trans (by rw [f6_merges_L4] <;> exact (st_let h3 (st_neg c5 (st_pos c6 rfl)))) h_))
        · refine wk_aload_n F dX6_merges_79 rfl 0 rfl (pc' := 80) rfl ?_
          refine wk_iload_n F dX6_merges_80 rfl 2 rfl (pc' := 81) rfl ?_
          refine wk_iload_n F dX6_merges_81 rfl 3 rfl (pc' := 82) rfl ?_
          refine wk_same_v F (c6_moves l D cI cP hs u (nI i) y4) (cwV 2 F.hts gX6_merges_X6_moves rfl rfl rfl hdX6_moves ⟨Nat.le_of_ble_eq_true rfl, Nat.le_of_ble_eq_true rfl⟩) 0 6 rfl rfl rfl rfl (Nat.le_of_ble_eq_true rfl) dX6_merges_82 ⟨Nat.zero_le _, Nat.zero_le _⟩ (pc' := 85) rfl (fun u7 h8 => ?_)
          refine wk_iinc (k := 1) (v := x1 + 1) (lv' := [(1, .int (x1 + 1)), (0, .ref (hs 0)), (2, .int (nI i)), (3, .int y4)]) F dX6_merges_85 rfl rfl (Nat.le_of_ble_eq_true rfl) rfl (pc' := 88) rfl ?_
          refine wk_iinc (k := 2) (v := nI (i + 1)) (lv' := [(2, .int (nI (i + 1))), (1, .int (x1 + 1)), (0, .ref (hs 0)), (3, .int y4)]) F dX6_merges_88 rfl (nI_inc i) (Nat.le_of_ble_eq_true rfl) rfl (pc' := 91) rfl ?_
          refine wk_goto (tgt := 4) F dX6_merges_91 (by decide) ?_
          refine wk_lv [2, 1, 0] rfl ?_
          exact ih (i + 1) (x1 + 1) u7 (by omega) (okL_moves h8 hv0) (fun y1_ u_ h_ => kx y1_ u_ (Eq.trans (by rw [f6_merges_L4] <;> exact (st_let h3 (st_neg c5 (st_neg c6 (st_let h8 rfl))))) h_))
  refine wk_iconst F dX6_merges_0 ic_0 (pc' := 1) rfl ?_
  refine wk_istore_n (lv' := [(1, .int (0 : Int32)), (0, .ref (hs 0))]) F dX6_merges_1 rfl (Nat.le_of_ble_eq_true rfl) rfl (pc' := 2) rfl ?_
  refine wk_iconst F dX6_merges_2 ic_0 (pc' := 3) rfl ?_
  refine wk_istore_n (lv' := [(2, .int (0 : Int32)), (1, .int (0 : Int32)), (0, .ref (hs 0))]) F dX6_merges_3 rfl (Nat.le_of_ble_eq_true rfl) rfl (pc' := 4) rfl ?_
  refine wk_lv [2, 1, 0] rfl ?_
  refine L4 30 0 (0 : Int32) σ (by omega) hs_okL (fun y10 u11 h9 => ?_)
  refine wk_aload_n F dX6_merges_94 rfl 0 rfl (pc' := 95) rfl ?_
  refine wk_get (C := RX6) (T := TX6) (N := 12) F 0 rfl rfl k_6 0 (Nat.le_of_ble_eq_true rfl) w_1 rfl dX6_merges_95 (pc' := 98) rfl ?_
  refine wk_iconst F dX6_merges_98 ic_5 (pc' := 99) rfl ?_
  refine wk_dup2 F dX6_merges_99 rfl rfl (pc' := 100) rfl ?_
  refine wk_iald_n (i := 5) F 1 0 rfl rfl (by omega) (Nat.le_of_ble_eq_true rfl) dX6_merges_100 (pc' := 101) rfl ?_
  refine wk_iload_n F dX6_merges_101 rfl 1 rfl (pc' := 102) rfl ?_
  refine wk_iadd F dX6_merges_102 (pc' := 103) rfl ?_
  refine wk_iastu_n (wg := wMod cI hs) (f0 := wr u11 0 5 ((u11 0 5) + y10)) (i := 5) F 1 0 rfl rfl aM_0 (by omega) (Nat.le_of_ble_eq_true rfl) dX6_merges_103 (pc' := 104) rfl (fun u12 h13 => ?_)
  refine wk_iload_n F dX6_merges_104 rfl 1 rfl (pc' := 105) rfl ?_
  exact hret _ _ _ _ dX6_merges_105 rfl (by rw [f6_merges] <;> exact (st_match h9 (st_let h13 rfl)))
def f6_merge (σ : PS) : Int32 × PS := (sq (f6_changes σ) (fun (u1 : PS) => (sq2 (f6_merges u1) (fun (r4 : Int32) (u3 : PS) => (r4, u3)))))
set_option maxHeartbeats 4000000 in
set_option maxRecDepth 100000 in
theorem c6_merge (l : Launch) (D : va_G) (cI cP : ClassId) (hs : Nat → Nat) (σ : PS) (hs_okH : okH σ) (hs_okL : okL σ) : CI l yX6_merge wsX6_merge ({ frames := 5, cells := 0, slots := 0, locals := 115 } : Room) D (cty cI cP) (wMod cI hs σ) (wMod cI hs) [.ref (hs 0)] 0 0 (fun r u => f6_merge σ = (r, u)) := by
  refine CI.of (cc := cX6_merge) (maxL := 1) (rt := .int) (own := RX6) (lv0 := [(0, .ref (hs 0))]) pnX6 rfl rfl (Nat.le_of_ble_eq_true rfl) rfl (fun p e s m args below meth c A Q F hret => ?_)
  refine wk_aload_n F dX6_merge_0 rfl 0 rfl (pc' := 1) rfl ?_
  refine wk_same_v F (c6_changes l D cI cP hs σ hs_okH) (cwV 0 F.hts gX6_merge_X6_changes rfl rfl rfl hdX6_changes ⟨Nat.le_of_ble_eq_true rfl, Nat.le_of_ble_eq_true rfl⟩) 0 6 rfl rfl rfl rfl (Nat.le_of_ble_eq_true rfl) dX6_merge_1 ⟨Nat.zero_le _, Nat.zero_le _⟩ (pc' := 4) rfl (fun u1 h2 => ?_)
  refine wk_aload_n F dX6_merge_4 rfl 0 rfl (pc' := 5) rfl ?_
  refine wk_same_i F (c6_merges l D cI cP hs u1 (okL_changes h2 hs_okL)) (cwV 0 F.hts gX6_merge_X6_merges rfl rfl rfl hdX6_merges ⟨Nat.le_of_ble_eq_true rfl, Nat.le_of_ble_eq_true rfl⟩) 0 6 rfl rfl rfl rfl (Nat.le_of_ble_eq_true rfl) dX6_merge_5 ⟨Nat.zero_le _, Nat.zero_le _⟩ (pc' := 8) rfl (fun r4 u3 h5 => ?_)
  exact hret _ _ _ _ dX6_merge_8 rfl (by rw [f6_merge] <;> exact (st_let h2 (st_match h5 rfl)))
