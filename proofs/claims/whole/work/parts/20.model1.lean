theorem ix6 {v w : Int32} (hv : vp_in v 8) (hw : vp_in w 47) : vp_in (67 + 47 * v + w) 443 := by
  obtain ⟨a, ha, rfl⟩ := vp_in_of hv (by decide)
  obtain ⟨b, hb, rfl⟩ := vp_in_of hw (by decide)
  have h : (67 : Int32) + 47 * nI a + nI b = nI (67 + 47 * a + b) := by
    rw [← nI_add, ← nI_add, ← pk_mul]; rfl
  rw [h]
  exact vp_in_nI (by omega) (by decide)
theorem in47 {q : Int32} (hq : vp_in q 40) : vp_in (7 + q) 47 := by
  obtain ⟨b, hb, rfl⟩ := vp_in_of hq (by decide)
  have h : (7 : Int32) + nI b = nI (7 + b) := by rw [← nI_add]; rfl
  rw [h]
  exact vp_in_nI (by omega) (by decide)
theorem in37 {q : Int32} (hq : vp_in q 30) : vp_in (7 + q) 37 := by
  obtain ⟨b, hb, rfl⟩ := vp_in_of hq (by decide)
  have h : (7 : Int32) + nI b = nI (7 + b) := by rw [← nI_add]; rfl
  rw [h]
  exact vp_in_nI (by omega) (by decide)
theorem vin_mono {x : Int32} {a b : Nat} (h : vp_in x a) (hab : a ≤ b) : vp_in x b := by
  rw [vp_in_iff] at h ⊢
  omega
def f6_in (p1 : Int32) (p2 : Int32) (p3 : Int32) : Int32 := (if p1 < p2 then (0 : Int32) else (if p3 < p1 then (0 : Int32) else (1 : Int32)))
set_option maxHeartbeats 4000000 in
set_option maxRecDepth 100000 in
theorem c6_in (l : Launch) (D : va_G) (cI cP : ClassId) (p1 : Int32) (p2 : Int32) (p3 : Int32) : CN l yX6_in wsX6_in ({ frames := 0, cells := 0, slots := 0, locals := 0 } : Room) D (cty cI cP) [.int p1, .int p2, .int p3] (f6_in p1 p2 p3) := by
  refine CN.of (cc := cX6_in) (maxL := 3) (rt := .boolean) (own := RX6) (lv0 := [(0, .int p1), (1, .int p2), (2, .int p3)]) pnX6 rfl rfl (Nat.le_of_ble_eq_true rfl) rfl (fun p e s m args below meth c A Q F hret => ?_)
  refine wk_iload_n F dX6_in_0 rfl 0 rfl (pc' := 1) rfl ?_
  refine wk_iload_n F dX6_in_1 rfl 1 rfl (pc' := 2) rfl ?_
  refine wk_icmp_lt (tgt := 14) F dX6_in_2 (by decide) (pc' := 5) rfl (fun c1 => ?_) (fun c1 => ?_)
  · refine wk_iconst F dX6_in_14 ic_0 (pc' := 15) rfl ?_
    exact hret _ _ _ dX6_in_15 rfl (Eq.symm (by rw [f6_in] <;> exact (st_pos c1 rfl)))
  · refine wk_iload_n F dX6_in_5 rfl 0 rfl (pc' := 6) rfl ?_
    refine wk_iload_n F dX6_in_6 rfl 2 rfl (pc' := 7) rfl ?_
    refine wk_icmp_gt (tgt := 14) F dX6_in_7 (by decide) (pc' := 10) rfl (fun c2 => ?_) (fun c2 => ?_)
    · refine wk_iconst F dX6_in_14 ic_0 (pc' := 15) rfl ?_
      exact hret _ _ _ dX6_in_15 rfl (Eq.symm (by rw [f6_in] <;> exact (st_neg c1 (st_pos c2 rfl))))
    · refine wk_iconst F dX6_in_10 ic_1 (pc' := 11) rfl ?_
      refine wk_goto (tgt := 15) F dX6_in_11 (by decide) ?_
      exact hret _ _ _ dX6_in_15 rfl (Eq.symm (by rw [f6_in] <;> exact (st_neg c1 (st_neg c2 rfl))))
theorem in_of {x : Int32} {N : Nat} (h : ¬ f6_in x 0 (nI N) = 0) (hN : N + 1 < 2 ^ 31) : vp_in x (N + 1) := by
  unfold f6_in at h
  split at h
  · exact absurd rfl h
  · split at h
    · exact absurd rfl h
    · exact vin (by assumption) (nlt_nle (by assumption) hN) hN
def f6_of (σ : PS) (p1 : Int32) (p2 : Int32) : Int32 := σ 0 (((67 : Int32) + ((47 : Int32) * p1)) + p2).toNatClampNeg
set_option maxHeartbeats 4000000 in
set_option maxRecDepth 100000 in
theorem c6_of (l : Launch) (D : va_G) (cI cP : ClassId) (hs : Nat → Nat) (σ : PS) (p1 : Int32) (p2 : Int32) (hp_p1 : vp_in p1 8) (hp_p2 : vp_in p2 47) : CP l yX6_of wsX6_of ({ frames := 0, cells := 0, slots := 0, locals := 0 } : Room) D (cty cI cP) (wMod cI hs) σ [.ref (hs 0), .int p1, .int p2] (f6_of σ p1 p2) := by
  refine CP.of (cc := cX6_of) (maxL := 3) (rt := .int) (own := RX6) (lv0 := [(0, .ref (hs 0)), (1, .int p1), (2, .int p2)]) pnX6 rfl rfl (Nat.le_of_ble_eq_true rfl) rfl (fun p e s m args below meth c A Q F hret => ?_)
  have w_1 := F.at (x := Cond.fieldLink RX6 7 "ThinVolumesModel" "s" "[I") 1 rfl
  have k_6 : ∀ w ∈ wsX60, w ∈ wsX6_of := fun _ h => List.mem_cons_of_mem _ (List.mem_append_right _ (h))
  refine wk_aload_n F dX6_of_0 rfl 0 rfl (pc' := 1) rfl ?_
  refine wk_get (C := RX6) (T := TX6) (N := 12) F 0 rfl rfl k_6 0 (Nat.le_of_ble_eq_true rfl) w_1 rfl dX6_of_1 (pc' := 4) rfl ?_
  refine wk_bipush F dX6_of_4 bp_67 (pc' := 6) rfl ?_
  refine wk_bipush F dX6_of_6 bp_47 (pc' := 8) rfl ?_
  refine wk_iload_n F dX6_of_8 rfl 1 rfl (pc' := 9) rfl ?_
  refine wk_imul F dX6_of_9 (pc' := 10) rfl ?_
  refine wk_iadd F dX6_of_10 (pc' := 11) rfl ?_
  refine wk_iload_n F dX6_of_11 rfl 2 rfl (pc' := 12) rfl ?_
  refine wk_iadd F dX6_of_12 (pc' := 13) rfl ?_
  refine wk_iald F 1 0 rfl rfl (ix6 hp_p1 hp_p2) dX6_of_13 (pc' := 14) rfl ?_
  exact hret _ _ _ dX6_of_14 rfl (Eq.symm (by rw [f6_of] <;> exact rfl))
def f6_puts (σ : PS) (p1 : Int32) (p2 : Int32) (p3 : Int32) : PS := (sq (wr σ 0 (((67 : Int32) + ((47 : Int32) * p1)) + p2).toNatClampNeg p3) (fun (u1 : PS) => u1))
set_option maxHeartbeats 4000000 in
set_option maxRecDepth 100000 in
theorem c6_puts (l : Launch) (D : va_G) (cI cP : ClassId) (hs : Nat → Nat) (σ : PS) (p1 : Int32) (p2 : Int32) (p3 : Int32) (hp_p1 : vp_in p1 8) (hp_p2 : vp_in p2 47) : CV l yX6_puts wsX6_puts ({ frames := 0, cells := 0, slots := 0, locals := 0 } : Room) D (cty cI cP) (wMod cI hs σ) (wMod cI hs) [.ref (hs 0), .int p1, .int p2, .int p3] 0 0 (fun u => f6_puts σ p1 p2 p3 = u) := by
  refine CV.of (cc := cX6_puts) (maxL := 4) (own := RX6) (lv0 := [(0, .ref (hs 0)), (1, .int p1), (2, .int p2), (3, .int p3)]) pnX6 rfl rfl (Nat.le_of_ble_eq_true rfl) rfl (fun p e s m args below meth c A Q F hmn hret => ?_)
  have w_1 := F.at (x := Cond.fieldLink RX6 7 "ThinVolumesModel" "s" "[I") 1 rfl
  have k_6 : ∀ w ∈ wsX60, w ∈ wsX6_puts := fun _ h => List.mem_cons_of_mem _ (List.mem_append_right _ (h))
  refine wk_aload_n F dX6_puts_0 rfl 0 rfl (pc' := 1) rfl ?_
  refine wk_get (C := RX6) (T := TX6) (N := 12) F 0 rfl rfl k_6 0 (Nat.le_of_ble_eq_true rfl) w_1 rfl dX6_puts_1 (pc' := 4) rfl ?_
  refine wk_bipush F dX6_puts_4 bp_67 (pc' := 6) rfl ?_
  refine wk_bipush F dX6_puts_6 bp_47 (pc' := 8) rfl ?_
  refine wk_iload_n F dX6_puts_8 rfl 1 rfl (pc' := 9) rfl ?_
  refine wk_imul F dX6_puts_9 (pc' := 10) rfl ?_
  refine wk_iadd F dX6_puts_10 (pc' := 11) rfl ?_
  refine wk_iload_n F dX6_puts_11 rfl 2 rfl (pc' := 12) rfl ?_
  refine wk_iadd F dX6_puts_12 (pc' := 13) rfl ?_
  refine wk_iload_n F dX6_puts_13 rfl 3 rfl (pc' := 14) rfl ?_
  refine wk_iastu (wg := wMod cI hs) (f0 := wr σ 0 (((67 : Int32) + ((47 : Int32) * p1)) + p2).toNatClampNeg p3) F 1 0 rfl rfl aM_0 (ix6 hp_p1 hp_p2) dX6_puts_14 (pc' := 15) rfl (fun u1 h2 => ?_)
  exact hret _ _ _ dX6_puts_15 (by rw [f6_puts] <;> exact (st_let h2 rfl))
def f6_isVolume (σ : PS) (p1 : Int32) : Int32 := (if (f6_in p1 (0 : Int32) (7 : Int32)) = 0 then (0 : Int32) else (if (f6_of σ p1 (0 : Int32)) = (1 : Int32) then (1 : Int32) else (0 : Int32)))
set_option maxHeartbeats 4000000 in
set_option maxRecDepth 100000 in
theorem c6_isVolume (l : Launch) (D : va_G) (cI cP : ClassId) (hs : Nat → Nat) (σ : PS) (p1 : Int32) : CP l yX6_isVolume wsX6_isVolume ({ frames := 1, cells := 0, slots := 0, locals := 22 } : Room) D (cty cI cP) (wMod cI hs) σ [.ref (hs 0), .int p1] (f6_isVolume σ p1) := by
  refine CP.of (cc := cX6_isVolume) (maxL := 2) (rt := .boolean) (own := RX6) (lv0 := [(0, .ref (hs 0)), (1, .int p1)]) pnX6 rfl rfl (Nat.le_of_ble_eq_true rfl) rfl (fun p e s m args below meth c A Q F hret => ?_)
  refine wk_iload_n F dX6_isVolume_0 rfl 1 rfl (pc' := 1) rfl ?_
  refine wk_iconst F dX6_isVolume_1 ic_0 (pc' := 2) rfl ?_
  refine wk_bipush F dX6_isVolume_2 bp_7 (pc' := 4) rfl ?_
  refine wk_none_s F (c6_in l D cI cP p1 (0 : Int32) (7 : Int32)) (va_cwS 3 F.hts gX6_isVolume_X6_in rfl rfl rfl hdX6_in ⟨Nat.le_of_ble_eq_true rfl, Nat.le_of_ble_eq_true rfl⟩) rfl rfl (Nat.le_of_ble_eq_true rfl) dX6_isVolume_4 ⟨Nat.zero_le _, Nat.zero_le _⟩ (pc' := 7) rfl ?_
  refine wk_if_eq (tgt := 24) F dX6_isVolume_7 (by decide) (pc' := 10) rfl (fun c1 => ?_) (fun c1 => ?_)
  · refine wk_iconst F dX6_isVolume_24 ic_0 (pc' := 25) rfl ?_
    exact hret _ _ _ dX6_isVolume_25 rfl (Eq.symm (by rw [f6_isVolume] <;> exact (st_pos c1 rfl)))
  · refine wk_aload_n F dX6_isVolume_10 rfl 0 rfl (pc' := 11) rfl ?_
    refine wk_iload_n F dX6_isVolume_11 rfl 1 rfl (pc' := 12) rfl ?_
    refine wk_iconst F dX6_isVolume_12 ic_0 (pc' := 13) rfl ?_
    refine wk_same_p F (c6_of l D cI cP hs σ p1 (0 : Int32) (in_of c1 (Nat.le_of_ble_eq_true rfl)) (vp_in_nI (n := 0) (N := 47) (Nat.le_of_ble_eq_true rfl) (Nat.le_of_ble_eq_true rfl))) (cwV 2 F.hts gX6_isVolume_X6_of rfl rfl rfl hdX6_of ⟨Nat.le_of_ble_eq_true rfl, Nat.le_of_ble_eq_true rfl⟩) 0 6 rfl rfl rfl rfl (Nat.le_of_ble_eq_true rfl) dX6_isVolume_13 ⟨Nat.zero_le _, Nat.zero_le _⟩ (pc' := 16) rfl ?_
    refine wk_iconst F dX6_isVolume_16 ic_1 (pc' := 17) rfl ?_
    refine wk_icmp_ne (tgt := 24) F dX6_isVolume_17 (by decide) (pc' := 20) rfl (fun c2 => ?_) (fun c2 => ?_)
    · refine wk_iconst F dX6_isVolume_24 ic_0 (pc' := 25) rfl ?_
      exact hret _ _ _ dX6_isVolume_25 rfl (Eq.symm (by rw [f6_isVolume] <;> exact (st_neg c1 (st_neg c2 rfl))))
    · refine wk_iconst F dX6_isVolume_20 ic_1 (pc' := 21) rfl ?_
      refine wk_goto (tgt := 25) F dX6_isVolume_21 (by decide) ?_
      exact hret _ _ _ dX6_isVolume_25 rfl (Eq.symm (by rw [f6_isVolume] <;> exact (st_neg c1 (st_pos c2 rfl))))
theorem isVolume_in {σ : PS} {x : Int32} (h : ¬ f6_isVolume σ x = 0) : vp_in x 8 := by
  unfold f6_isVolume at h
  split at h
  · exact absurd rfl h
  · exact in_of (N := 7) (by assumption) (by decide)
/-- what the model's walks need of its state: no volume is longer than 40; no place has a piece beyond 29 -/
def okL (u : PS) : Prop := ∀ a : Nat, a < 8 → (u 0 (68 + 47 * a)).toInt ≤ 40
def okP (u : PS) : Prop := ∀ a k : Nat, a < 8 → k < 40 → (u 0 (74 + 47 * a + k)).toInt < 30
theorem ix_nI (a b : Nat) : (67 : Int32) + 47 * nI a + nI b = nI (67 + 47 * a + b) := by
  rw [← nI_add, ← nI_add, ← pk_mul]; rfl
theorem ofI (u : PS) {a b : Nat} (ha : a < 8) (hb : b < 47) : f6_of u (nI a) (nI b) = u 0 (67 + 47 * a + b) := by
  unfold f6_of
  rw [ix_nI, nI_clamp (by omega)]
theorem okL_of {u : PS} {v : Int32} (h : okL u) (hv : vp_in v 8) : (f6_of u v 1).toInt ≤ 40 := by
  obtain ⟨a, ha, rfl⟩ := vp_in_of hv (by decide)
  have e := ofI u ha (b := 1) (by omega)
  rw [show f6_of u (nI a) 1 = f6_of u (nI a) (nI 1) from rfl, e]
  have := h a ha
  rwa [show 67 + 47 * a + 1 = 68 + 47 * a by omega]
theorem okL_le {u : PS} {v : Int32} (h : okL u) (hv : vp_in v 8) {i : Nat} (h1 : 40 ≤ i) (h2 : i < 2 ^ 31) : f6_of u v 1 ≤ nI i := by
  rw [Int32.le_iff_toInt_le, nI_toInt h2]
  have := okL_of h hv
  omega
def f6_isPlace (σ : PS) (p1 : Int32) (p2 : Int32) : Int32 := (if (f6_isVolume σ p1) = 0 then (0 : Int32) else (if p2 < 0 then (0 : Int32) else (if (f6_of σ p1 (1 : Int32)) ≤ p2 then (0 : Int32) else (1 : Int32))))
set_option maxHeartbeats 4000000 in
set_option maxRecDepth 100000 in
theorem c6_isPlace (l : Launch) (D : va_G) (cI cP : ClassId) (hs : Nat → Nat) (σ : PS) (p1 : Int32) (p2 : Int32) : CP l yX6_isPlace wsX6_isPlace ({ frames := 2, cells := 0, slots := 0, locals := 43 } : Room) D (cty cI cP) (wMod cI hs) σ [.ref (hs 0), .int p1, .int p2] (f6_isPlace σ p1 p2) := by
  refine CP.of (cc := cX6_isPlace) (maxL := 3) (rt := .boolean) (own := RX6) (lv0 := [(0, .ref (hs 0)), (1, .int p1), (2, .int p2)]) pnX6 rfl rfl (Nat.le_of_ble_eq_true rfl) rfl (fun p e s m args below meth c A Q F hret => ?_)
  refine wk_aload_n F dX6_isPlace_0 rfl 0 rfl (pc' := 1) rfl ?_
  refine wk_iload_n F dX6_isPlace_1 rfl 1 rfl (pc' := 2) rfl ?_
  refine wk_same_p F (c6_isVolume l D cI cP hs σ p1) (cwV 1 F.hts gX6_isPlace_X6_isVolume rfl rfl rfl hdX6_isVolume ⟨Nat.le_of_ble_eq_true rfl, Nat.le_of_ble_eq_true rfl⟩) 0 6 rfl rfl rfl rfl (Nat.le_of_ble_eq_true rfl) dX6_isPlace_2 ⟨Nat.zero_le _, Nat.zero_le _⟩ (pc' := 5) rfl ?_
  refine wk_if_eq (tgt := 26) F dX6_isPlace_5 (by decide) (pc' := 8) rfl (fun c1 => ?_) (fun c1 => ?_)
  · refine wk_iconst F dX6_isPlace_26 ic_0 (pc' := 27) rfl ?_
    exact hret _ _ _ dX6_isPlace_27 rfl (Eq.symm (by rw [f6_isPlace] <;> exact (st_pos c1 rfl)))
  · refine wk_iload_n F dX6_isPlace_8 rfl 2 rfl (pc' := 9) rfl ?_
    refine wk_if_lt (tgt := 26) F dX6_isPlace_9 (by decide) (pc' := 12) rfl (fun c2 => ?_) (fun c2 => ?_)
    · refine wk_iconst F dX6_isPlace_26 ic_0 (pc' := 27) rfl ?_
      exact hret _ _ _ dX6_isPlace_27 rfl (Eq.symm (by rw [f6_isPlace] <;> exact (st_neg c1 (st_pos c2 rfl))))
    · refine wk_iload_n F dX6_isPlace_12 rfl 2 rfl (pc' := 13) rfl ?_
      refine wk_aload_n F dX6_isPlace_13 rfl 0 rfl (pc' := 14) rfl ?_
      refine wk_iload_n F dX6_isPlace_14 rfl 1 rfl (pc' := 15) rfl ?_
      refine wk_iconst F dX6_isPlace_15 ic_1 (pc' := 16) rfl ?_
      refine wk_same_p F (c6_of l D cI cP hs σ p1 (1 : Int32) (isVolume_in c1) (vp_in_nI (n := 1) (N := 47) (Nat.le_of_ble_eq_true rfl) (Nat.le_of_ble_eq_true rfl))) (cwV 2 F.hts gX6_isPlace_X6_of rfl rfl rfl hdX6_of ⟨Nat.le_of_ble_eq_true rfl, Nat.le_of_ble_eq_true rfl⟩) 0 6 rfl rfl rfl rfl (Nat.le_of_ble_eq_true rfl) dX6_isPlace_16 ⟨Nat.zero_le _, Nat.zero_le _⟩ (pc' := 19) rfl ?_
      refine wk_icmp_ge (tgt := 26) F dX6_isPlace_19 (by decide) (pc' := 22) rfl (fun c3 => ?_) (fun c3 => ?_)
      · refine wk_iconst F dX6_isPlace_26 ic_0 (pc' := 27) rfl ?_
        exact hret _ _ _ dX6_isPlace_27 rfl (Eq.symm (by rw [f6_isPlace] <;> exact (st_neg c1 (st_neg c2 (st_pos c3 rfl)))))
      · refine wk_iconst F dX6_isPlace_22 ic_1 (pc' := 23) rfl ?_
        refine wk_goto (tgt := 27) F dX6_isPlace_23 (by decide) ?_
        exact hret _ _ _ dX6_isPlace_27 rfl (Eq.symm (by rw [f6_isPlace] <;> exact (st_neg c1 (st_neg c2 (st_neg c3 rfl)))))
theorem isPlace_v {σ : PS} {x y : Int32} (h : ¬ f6_isPlace σ x y = 0) : vp_in x 8 := by
  unfold f6_isPlace at h
  split at h
  · exact absurd rfl h
  · exact isVolume_in (by assumption)
theorem vin40 {x y : Int32} (h0 : ¬ x < 0) (h1 : ¬ y ≤ x) (hy : y.toInt ≤ 40) : vp_in x 40 := by
  refine vin h0 (fun q => h1 ?_) (by decide)
  rw [Int32.le_iff_toInt_le] at q ⊢
  rw [nI_toInt (by decide)] at q
  omega
theorem isPlace_p {σ : PS} {x y : Int32} (hL : okL σ) (h : ¬ f6_isPlace σ x y = 0) : vp_in y 40 := by
  have hv := isPlace_v h
  unfold f6_isPlace at h
  split at h
  · exact absurd rfl h
  · split at h
    · exact absurd rfl h
    · split at h
      · exact absurd rfl h
      · exact vin40 (by assumption) (by assumption) (okL_of hL hv)
def f6_piece (σ : PS) (p1 : Int32) (p2 : Int32) : Int32 := f6_of σ p1 ((7 : Int32) + p2)
set_option maxHeartbeats 4000000 in
set_option maxRecDepth 100000 in
theorem c6_piece (l : Launch) (D : va_G) (cI cP : ClassId) (hs : Nat → Nat) (σ : PS) (p1 : Int32) (p2 : Int32) (hp_p1 : vp_in p1 8) (hp_p2 : vp_in p2 40) : CP l yX6_piece wsX6_piece ({ frames := 1, cells := 0, slots := 0, locals := 22 } : Room) D (cty cI cP) (wMod cI hs) σ [.ref (hs 0), .int p1, .int p2] (f6_piece σ p1 p2) := by
  refine CP.of (cc := cX6_piece) (maxL := 3) (rt := .int) (own := RX6) (lv0 := [(0, .ref (hs 0)), (1, .int p1), (2, .int p2)]) pnX6 rfl rfl (Nat.le_of_ble_eq_true rfl) rfl (fun p e s m args below meth c A Q F hret => ?_)
  refine wk_aload_n F dX6_piece_0 rfl 0 rfl (pc' := 1) rfl ?_
  refine wk_iload_n F dX6_piece_1 rfl 1 rfl (pc' := 2) rfl ?_
  refine wk_bipush F dX6_piece_2 bp_7 (pc' := 4) rfl ?_
  refine wk_iload_n F dX6_piece_4 rfl 2 rfl (pc' := 5) rfl ?_
  refine wk_iadd F dX6_piece_5 (pc' := 6) rfl ?_
  refine wk_same_p F (c6_of l D cI cP hs σ p1 ((7 : Int32) + p2) hp_p1 (in47 hp_p2)) (cwV 2 F.hts gX6_piece_X6_of rfl rfl rfl hdX6_of ⟨Nat.le_of_ble_eq_true rfl, Nat.le_of_ble_eq_true rfl⟩) 0 6 rfl rfl rfl rfl (Nat.le_of_ble_eq_true rfl) dX6_piece_6 ⟨Nat.zero_le _, Nat.zero_le _⟩ (pc' := 9) rfl ?_
  exact hret _ _ _ dX6_piece_9 rfl (Eq.symm (by rw [f6_piece] <;> exact rfl))
def f6_ownersIn_L5 (σ : PS) (p1 : Int32) (p2 : Int32) : Nat → Nat → Int32 → Int32
  | 0, i, x3 => x3
  | n + 1, i, x3 => (if (f6_of σ p1 (1 : Int32)) ≤ (nI i) then x3 else (if (f6_of σ p1 (0 : Int32)) = (1 : Int32) then (if (f6_piece σ p1 (nI i)) = p2 then f6_ownersIn_L5 σ p1 p2 n (i + 1) (x3 + (1 : Int32)) else f6_ownersIn_L5 σ p1 p2 n (i + 1) (x3 + (0 : Int32))) else x3))
def f6_ownersIn (σ : PS) (p1 : Int32) (p2 : Int32) : Int32 := (sq (f6_ownersIn_L5 σ p1 p2 40 0 (0 : Int32)) (fun (y5 : Int32) => y5))
set_option maxHeartbeats 4000000 in
set_option maxRecDepth 100000 in
theorem c6_ownersIn (l : Launch) (D : va_G) (cI cP : ClassId) (hs : Nat → Nat) (σ : PS) (p1 : Int32) (p2 : Int32) (hp_p1 : vp_in p1 8) (hs_okL : okL σ) : CP l yX6_ownersIn wsX6_ownersIn ({ frames := 2, cells := 0, slots := 0, locals := 44 } : Room) D (cty cI cP) (wMod cI hs) σ [.ref (hs 0), .int p1, .int p2] (f6_ownersIn σ p1 p2) := by
  refine CP.of (cc := cX6_ownersIn) (maxL := 5) (rt := .int) (own := RX6) (lv0 := [(0, .ref (hs 0)), (1, .int p1), (2, .int p2)]) pnX6 rfl rfl (Nat.le_of_ble_eq_true rfl) rfl (fun p e s m args below meth c A Q F hret => ?_)
  have L5 : ∀ (n : Nat) (i : Nat) (x3 : Int32), i + n = 40 → (∀ (y3 : Int32), f6_ownersIn_L5 σ p1 p2 n i x3 = y3 → Wk p l e ({ frames := 2, cells := 0, slots := 0, locals := 44 } : Room) s m args below meth c 5 D A 0 0 Q (wMod cI hs σ) [(3, .int y3)] 51 []) → Wk p l e ({ frames := 2, cells := 0, slots := 0, locals := 44 } : Room) s m args below meth c 5 D A 0 0 Q (wMod cI hs σ) [(0, .ref (hs 0)), (1, .int p1), (2, .int p2), (3, .int x3), (4, .int (nI i))] 5 [] := by
    intro n
    induction n with
    | zero =>
      intro i x3 hi kx
      refine wk_iload F dX6_ownersIn_5 4 rfl (pc' := 7) rfl ?_
      refine wk_aload_n F dX6_ownersIn_7 rfl 0 rfl (pc' := 8) rfl ?_
      refine wk_iload_n F dX6_ownersIn_8 rfl 1 rfl (pc' := 9) rfl ?_
      refine wk_iconst F dX6_ownersIn_9 ic_1 (pc' := 10) rfl ?_
      refine wk_same_p F (c6_of l D cI cP hs σ p1 (1 : Int32) hp_p1 (vp_in_nI (n := 1) (N := 47) (Nat.le_of_ble_eq_true rfl) (Nat.le_of_ble_eq_true rfl))) (cwV 2 F.hts gX6_ownersIn_X6_of rfl rfl rfl hdX6_of ⟨Nat.le_of_ble_eq_true rfl, Nat.le_of_ble_eq_true rfl⟩) 0 6 rfl rfl rfl rfl (Nat.le_of_ble_eq_true rfl) dX6_ownersIn_10 ⟨Nat.zero_le _, Nat.zero_le _⟩ (pc' := 13) rfl ?_
      refine wk_icmp_ge (tgt := 51) F dX6_ownersIn_13 (by decide) (pc' := 16) rfl (fun _ => ?_) (fun c => absurd (okL_le hs_okL hp_p1 (by omega) (by omega)) c)
      refine wk_lv [3] rfl ?_
      exact kx x3 (by rw [f6_ownersIn_L5] <;> exact rfl)
    | succ n ih =>
      intro i x3 hi kx
      refine wk_iload F dX6_ownersIn_5 4 rfl (pc' := 7) rfl ?_
      refine wk_aload_n F dX6_ownersIn_7 rfl 0 rfl (pc' := 8) rfl ?_
      refine wk_iload_n F dX6_ownersIn_8 rfl 1 rfl (pc' := 9) rfl ?_
      refine wk_iconst F dX6_ownersIn_9 ic_1 (pc' := 10) rfl ?_
      refine wk_same_p F (c6_of l D cI cP hs σ p1 (1 : Int32) hp_p1 (vp_in_nI (n := 1) (N := 47) (Nat.le_of_ble_eq_true rfl) (Nat.le_of_ble_eq_true rfl))) (cwV 2 F.hts gX6_ownersIn_X6_of rfl rfl rfl hdX6_of ⟨Nat.le_of_ble_eq_true rfl, Nat.le_of_ble_eq_true rfl⟩) 0 6 rfl rfl rfl rfl (Nat.le_of_ble_eq_true rfl) dX6_ownersIn_10 ⟨Nat.zero_le _, Nat.zero_le _⟩ (pc' := 13) rfl ?_
      refine wk_icmp_ge (tgt := 51) F dX6_ownersIn_13 (by decide) (pc' := 16) rfl (fun c1 => ?_) (fun c1 => ?_)
      · refine wk_lv [3] rfl ?_
        exact kx x3 (by rw [f6_ownersIn_L5] <;> exact (st_pos c1 rfl))
      · refine wk_aload_n F dX6_ownersIn_16 rfl 0 rfl (pc' := 17) rfl ?_
        refine wk_iload_n F dX6_ownersIn_17 rfl 1 rfl (pc' := 18) rfl ?_
        refine wk_iconst F dX6_ownersIn_18 ic_0 (pc' := 19) rfl ?_
        refine wk_same_p F (c6_of l D cI cP hs σ p1 (0 : Int32) hp_p1 (vp_in_nI (n := 0) (N := 47) (Nat.le_of_ble_eq_true rfl) (Nat.le_of_ble_eq_true rfl))) (cwV 2 F.hts gX6_ownersIn_X6_of rfl rfl rfl hdX6_of ⟨Nat.le_of_ble_eq_true rfl, Nat.le_of_ble_eq_true rfl⟩) 0 6 rfl rfl rfl rfl (Nat.le_of_ble_eq_true rfl) dX6_ownersIn_19 ⟨Nat.zero_le _, Nat.zero_le _⟩ (pc' := 22) rfl ?_
        refine wk_iconst F dX6_ownersIn_22 ic_1 (pc' := 23) rfl ?_
        refine wk_icmp_ne (tgt := 51) F dX6_ownersIn_23 (by decide) (pc' := 26) rfl (fun c2 => ?_) (fun c2 => ?_)
        · refine wk_lv [3] rfl ?_
          exact kx x3 (by rw [f6_ownersIn_L5] <;> exact (st_neg c1 (st_neg c2 rfl)))
        · refine wk_iload_n F dX6_ownersIn_26 rfl 3 rfl (pc' := 27) rfl ?_
          refine wk_aload_n F dX6_ownersIn_27 rfl 0 rfl (pc' := 28) rfl ?_
          refine wk_iload_n F dX6_ownersIn_28 rfl 1 rfl (pc' := 29) rfl ?_
          refine wk_iload F dX6_ownersIn_29 4 rfl (pc' := 31) rfl ?_
          refine wk_same_p F (c6_piece l D cI cP hs σ p1 (nI i) hp_p1 (vp_in_nI (n := i) (N := 40) (by omega) (Nat.le_of_ble_eq_true rfl))) (cwV 2 F.hts gX6_ownersIn_X6_piece rfl rfl rfl hdX6_piece ⟨Nat.le_of_ble_eq_true rfl, Nat.le_of_ble_eq_true rfl⟩) 0 6 rfl rfl rfl rfl (Nat.le_of_ble_eq_true rfl) dX6_ownersIn_31 ⟨Nat.zero_le _, Nat.zero_le _⟩ (pc' := 34) rfl ?_
          refine wk_iload_n F dX6_ownersIn_34 rfl 2 rfl (pc' := 35) rfl ?_
          refine wk_icmp_ne (tgt := 42) F dX6_ownersIn_35 (by decide) (pc' := 38) rfl (fun c3 => ?_) (fun c3 => ?_)
          · refine wk_iconst F dX6_ownersIn_42 ic_0 (pc' := 43) rfl ?_
            refine wk_iadd F dX6_ownersIn_43 (pc' := 44) rfl ?_
            refine wk_istore_n (lv' := [(3, .int (x3 + (0 : Int32))), (0, .ref (hs 0)), (1, .int p1), (2, .int p2), (4, .int (nI i))]) F dX6_ownersIn_44 rfl (Nat.le_of_ble_eq_true rfl) rfl (pc' := 45) rfl ?_
            refine wk_iinc (k := 4) (v := nI (i + 1)) (lv' := [(4, .int (nI (i + 1))), (3, .int (x3 + (0 : Int32))), (0, .ref (hs 0)), (1, .int p1), (2, .int p2)]) F dX6_ownersIn_45 rfl (nI_inc i) (Nat.le_of_ble_eq_true rfl) rfl (pc' := 48) rfl ?_
            refine wk_goto (tgt := 5) F dX6_ownersIn_48 (by decide) ?_
            refine wk_lv [2, 3, 4, 1, 0] rfl ?_
            exact ih (i + 1) (x3 + (0 : Int32)) (by omega) (fun y3_ h_ => kx y3_ (Eq.trans (by rw [f6_ownersIn_L5] <;> exact (st_neg c1 (st_pos c2 (st_neg c3 rfl)))) h_))
          · refine wk_iconst F dX6_ownersIn_38 ic_1 (pc' := 39) rfl ?_
            refine wk_goto (tgt := 43) F dX6_ownersIn_39 (by decide) ?_
            refine wk_iadd F dX6_ownersIn_43 (pc' := 44) rfl ?_
            refine wk_istore_n (lv' := [(3, .int (x3 + (1 : Int32))), (0, .ref (hs 0)), (1, .int p1), (2, .int p2), (4, .int (nI i))]) F dX6_ownersIn_44 rfl (Nat.le_of_ble_eq_true rfl) rfl (pc' := 45) rfl ?_
            refine wk_iinc (k := 4) (v := nI (i + 1)) (lv' := [(4, .int (nI (i + 1))), (3, .int (x3 + (1 : Int32))), (0, .ref (hs 0)), (1, .int p1), (2, .int p2)]) F dX6_ownersIn_45 rfl (nI_inc i) (Nat.le_of_ble_eq_true rfl) rfl (pc' := 48) rfl ?_
            refine wk_goto (tgt := 5) F dX6_ownersIn_48 (by decide) ?_
            refine wk_lv [2, 3, 4, 1, 0] rfl ?_
            exact ih (i + 1) (x3 + (1 : Int32)) (by omega) (fun y3_ h_ => kx y3_ (Eq.trans (by rw [f6_ownersIn_L5] <;> exact (st_neg c1 (st_pos c2 (st_pos c3 rfl)))) h_))
  refine wk_iconst F dX6_ownersIn_0 ic_0 (pc' := 1) rfl ?_
  refine wk_istore_n (lv' := [(3, .int (0 : Int32)), (0, .ref (hs 0)), (1, .int p1), (2, .int p2)]) F dX6_ownersIn_1 rfl (Nat.le_of_ble_eq_true rfl) rfl (pc' := 2) rfl ?_
  refine wk_iconst F dX6_ownersIn_2 ic_0 (pc' := 3) rfl ?_
  refine wk_istore (lv' := [(4, .int (0 : Int32)), (3, .int (0 : Int32)), (0, .ref (hs 0)), (1, .int p1), (2, .int p2)]) F dX6_ownersIn_3 (Nat.le_of_ble_eq_true rfl) rfl (pc' := 5) rfl ?_
  refine wk_lv [2, 3, 4, 1, 0] rfl ?_
  refine L5 40 0 (0 : Int32) (by omega) (fun y5 h4 => ?_)
  refine wk_iload_n F dX6_ownersIn_51 rfl 0 rfl (pc' := 52) rfl ?_
  exact hret _ _ _ dX6_ownersIn_52 rfl (Eq.symm (by rw [f6_ownersIn] <;> exact (st_let h4 rfl)))
def f6_owners_L4 (σ : PS) (p1 : Int32) : Nat → Nat → Int32 → Int32
  | 0, i, x2 => x2
  | n + 1, i, x2 => f6_owners_L4 σ p1 n (i + 1) (x2 + (f6_ownersIn σ (nI i) p1))
def f6_owners (σ : PS) (p1 : Int32) : Int32 := (sq (f6_owners_L4 σ p1 8 0 (0 : Int32)) (fun (y2 : Int32) => y2))
set_option maxHeartbeats 4000000 in
set_option maxRecDepth 100000 in
theorem c6_owners (l : Launch) (D : va_G) (cI cP : ClassId) (hs : Nat → Nat) (σ : PS) (p1 : Int32) (hs_okL : okL σ) : CP l yX6_owners wsX6_owners ({ frames := 3, cells := 0, slots := 0, locals := 68 } : Room) D (cty cI cP) (wMod cI hs) σ [.ref (hs 0), .int p1] (f6_owners σ p1) := by
  refine CP.of (cc := cX6_owners) (maxL := 4) (rt := .int) (own := RX6) (lv0 := [(0, .ref (hs 0)), (1, .int p1)]) pnX6 rfl rfl (Nat.le_of_ble_eq_true rfl) rfl (fun p e s m args below meth c A Q F hret => ?_)
  have L4 : ∀ (n : Nat) (i : Nat) (x2 : Int32), i + n = 8 → (∀ (y2 : Int32), f6_owners_L4 σ p1 n i x2 = y2 → Wk p l e ({ frames := 3, cells := 0, slots := 0, locals := 68 } : Room) s m args below meth c 4 D A 0 0 Q (wMod cI hs σ) [(2, .int y2)] 25 []) → Wk p l e ({ frames := 3, cells := 0, slots := 0, locals := 68 } : Room) s m args below meth c 4 D A 0 0 Q (wMod cI hs σ) [(0, .ref (hs 0)), (1, .int p1), (2, .int x2), (3, .int (nI i))] 4 [] := by
    intro n
    induction n with
    | zero =>
      intro i x2 hi kx
      refine wk_iload_n F dX6_owners_4 rfl 3 rfl (pc' := 5) rfl ?_
      refine wk_bipush F dX6_owners_5 bp_8 (pc' := 7) rfl ?_
      refine wk_icmp_ge (tgt := 25) F dX6_owners_7 (by decide) (pc' := 10) rfl (fun _ => ?_) (fun c => absurd ((nI_leI (a := 8) (b := i) (by omega) (by omega)).mpr (by omega)) c)
      refine wk_lv [2] rfl ?_
      exact kx x2 (by rw [f6_owners_L4] <;> exact rfl)
    | succ n ih =>
      intro i x2 hi kx
      refine wk_iload_n F dX6_owners_4 rfl 3 rfl (pc' := 5) rfl ?_
      refine wk_bipush F dX6_owners_5 bp_8 (pc' := 7) rfl ?_
      refine wk_icmp_ge (tgt := 25) F dX6_owners_7 (by decide) (pc' := 10) rfl (fun c => absurd ((nI_leI (a := 8) (b := i) (by omega) (by omega)).mp c) (by omega)) (fun _ => ?_)
      refine wk_iload_n F dX6_owners_10 rfl 2 rfl (pc' := 11) rfl ?_
      refine wk_aload_n F dX6_owners_11 rfl 0 rfl (pc' := 12) rfl ?_
      refine wk_iload_n F dX6_owners_12 rfl 3 rfl (pc' := 13) rfl ?_
      refine wk_iload_n F dX6_owners_13 rfl 1 rfl (pc' := 14) rfl ?_
      refine wk_same_p F (c6_ownersIn l D cI cP hs σ (nI i) p1 (vp_in_nI (n := i) (N := 8) (by omega) (Nat.le_of_ble_eq_true rfl)) hs_okL) (cwV 2 F.hts gX6_owners_X6_ownersIn rfl rfl rfl hdX6_ownersIn ⟨Nat.le_of_ble_eq_true rfl, Nat.le_of_ble_eq_true rfl⟩) 0 6 rfl rfl rfl rfl (Nat.le_of_ble_eq_true rfl) dX6_owners_14 ⟨Nat.zero_le _, Nat.zero_le _⟩ (pc' := 17) rfl ?_
      refine wk_iadd F dX6_owners_17 (pc' := 18) rfl ?_
      refine wk_istore_n (lv' := [(2, .int (x2 + (f6_ownersIn σ (nI i) p1))), (0, .ref (hs 0)), (1, .int p1), (3, .int (nI i))]) F dX6_owners_18 rfl (Nat.le_of_ble_eq_true rfl) rfl (pc' := 19) rfl ?_
      refine wk_iinc (k := 3) (v := nI (i + 1)) (lv' := [(3, .int (nI (i + 1))), (2, .int (x2 + (f6_ownersIn σ (nI i) p1))), (0, .ref (hs 0)), (1, .int p1)]) F dX6_owners_19 rfl (nI_inc i) (Nat.le_of_ble_eq_true rfl) rfl (pc' := 22) rfl ?_
      refine wk_goto (tgt := 4) F dX6_owners_22 (by decide) ?_
      refine wk_lv [2, 3, 1, 0] rfl ?_
      exact ih (i + 1) (x2 + (f6_ownersIn σ (nI i) p1)) (by omega) (fun y2_ h_ => kx y2_ (Eq.trans (by rw [f6_owners_L4] <;> exact rfl) h_))
  refine wk_iconst F dX6_owners_0 ic_0 (pc' := 1) rfl ?_
  refine wk_istore_n (lv' := [(2, .int (0 : Int32)), (0, .ref (hs 0)), (1, .int p1)]) F dX6_owners_1 rfl (Nat.le_of_ble_eq_true rfl) rfl (pc' := 2) rfl ?_
  refine wk_iconst F dX6_owners_2 ic_0 (pc' := 3) rfl ?_
  refine wk_istore_n (lv' := [(3, .int (0 : Int32)), (2, .int (0 : Int32)), (0, .ref (hs 0)), (1, .int p1)]) F dX6_owners_3 rfl (Nat.le_of_ble_eq_true rfl) rfl (pc' := 4) rfl ?_
  refine wk_lv [2, 3, 1, 0] rfl ?_
  refine L4 8 0 (0 : Int32) (by omega) (fun y2 h1 => ?_)
  refine wk_iload_n F dX6_owners_25 rfl 0 rfl (pc' := 26) rfl ?_
  exact hret _ _ _ dX6_owners_26 rfl (Eq.symm (by rw [f6_owners] <;> exact (st_let h1 rfl)))
def f6_free_L4 (σ : PS) : Nat → Nat → Int32 → Int32
  | 0, i, x1 => x1
  | n + 1, i, x1 => (if (f6_owners σ (nI i)) = 0 then f6_free_L4 σ n (i + 1) (x1 + (1 : Int32)) else f6_free_L4 σ n (i + 1) (x1 + (0 : Int32)))
def f6_free (σ : PS) : Int32 := (sq (f6_free_L4 σ 30 0 (0 : Int32)) (fun (y3 : Int32) => y3))
set_option maxHeartbeats 4000000 in
set_option maxRecDepth 100000 in
theorem c6_free (l : Launch) (D : va_G) (cI cP : ClassId) (hs : Nat → Nat) (σ : PS) (hs_okL : okL σ) : CP l yX6_free wsX6_free ({ frames := 4, cells := 0, slots := 0, locals := 91 } : Room) D (cty cI cP) (wMod cI hs) σ [.ref (hs 0)] (f6_free σ) := by
  refine CP.of (cc := cX6_free) (maxL := 3) (rt := .int) (own := RX6) (lv0 := [(0, .ref (hs 0))]) pnX6 rfl rfl (Nat.le_of_ble_eq_true rfl) rfl (fun p e s m args below meth c A Q F hret => ?_)
  have L4 : ∀ (n : Nat) (i : Nat) (x1 : Int32), i + n = 30 → (∀ (y1 : Int32), f6_free_L4 σ n i x1 = y1 → Wk p l e ({ frames := 4, cells := 0, slots := 0, locals := 91 } : Room) s m args below meth c 3 D A 0 0 Q (wMod cI hs σ) [(1, .int y1)] 32 []) → Wk p l e ({ frames := 4, cells := 0, slots := 0, locals := 91 } : Room) s m args below meth c 3 D A 0 0 Q (wMod cI hs σ) [(0, .ref (hs 0)), (1, .int x1), (2, .int (nI i))] 4 [] := by
    intro n
    induction n with
    | zero =>
      intro i x1 hi kx
      refine wk_iload_n F dX6_free_4 rfl 2 rfl (pc' := 5) rfl ?_
      refine wk_bipush F dX6_free_5 bp_30 (pc' := 7) rfl ?_
      refine wk_icmp_ge (tgt := 32) F dX6_free_7 (by decide) (pc' := 10) rfl (fun _ => ?_) (fun c => absurd ((nI_leI (a := 30) (b := i) (by omega) (by omega)).mpr (by omega)) c)
      refine wk_lv [1] rfl ?_
      exact kx x1 (by rw [f6_free_L4] <;> exact rfl)
    | succ n ih =>
      intro i x1 hi kx
      refine wk_iload_n F dX6_free_4 rfl 2 rfl (pc' := 5) rfl ?_
      refine wk_bipush F dX6_free_5 bp_30 (pc' := 7) rfl ?_
      refine wk_icmp_ge (tgt := 32) F dX6_free_7 (by decide) (pc' := 10) rfl (fun c => absurd ((nI_leI (a := 30) (b := i) (by omega) (by omega)).mp c) (by omega)) (fun _ => ?_)
      refine wk_iload_n F dX6_free_10 rfl 1 rfl (pc' := 11) rfl ?_
      refine wk_aload_n F dX6_free_11 rfl 0 rfl (pc' := 12) rfl ?_
      refine wk_iload_n F dX6_free_12 rfl 2 rfl (pc' := 13) rfl ?_
      refine wk_same_p F (c6_owners l D cI cP hs σ (nI i) hs_okL) (cwV 1 F.hts gX6_free_X6_owners rfl rfl rfl hdX6_owners ⟨Nat.le_of_ble_eq_true rfl, Nat.le_of_ble_eq_true rfl⟩) 0 6 rfl rfl rfl rfl (Nat.le_of_ble_eq_true rfl) dX6_free_13 ⟨Nat.zero_le _, Nat.zero_le _⟩ (pc' := 16) rfl ?_
      refine wk_if_ne (tgt := 23) F dX6_free_16 (by decide) (pc' := 19) rfl (fun c1 => ?_) (fun c1 => ?_)
      · refine wk_iconst F dX6_free_23 ic_0 (pc' := 24) rfl ?_
        refine wk_iadd F dX6_free_24 (pc' := 25) rfl ?_
        refine wk_istore_n (lv' := [(1, .int (x1 + (0 : Int32))), (0, .ref (hs 0)), (2, .int (nI i))]) F dX6_free_25 rfl (Nat.le_of_ble_eq_true rfl) rfl (pc' := 26) rfl ?_
        refine wk_iinc (k := 2) (v := nI (i + 1)) (lv' := [(2, .int (nI (i + 1))), (1, .int (x1 + (0 : Int32))), (0, .ref (hs 0))]) F dX6_free_26 rfl (nI_inc i) (Nat.le_of_ble_eq_true rfl) rfl (pc' := 29) rfl ?_
        refine wk_goto (tgt := 4) F dX6_free_29 (by decide) ?_
        refine wk_lv [2, 1, 0] rfl ?_
        exact ih (i + 1) (x1 + (0 : Int32)) (by omega) (fun y1_ h_ => kx y1_ (Eq.trans (by rw [f6_free_L4] <;> exact (st_neg c1 rfl)) h_))
      · refine wk_iconst F dX6_free_19 ic_1 (pc' := 20) rfl ?_
        refine wk_goto (tgt := 24) F dX6_free_20 (by decide) ?_
        refine wk_iadd F dX6_free_24 (pc' := 25) rfl ?_
        refine wk_istore_n (lv' := [(1, .int (x1 + (1 : Int32))), (0, .ref (hs 0)), (2, .int (nI i))]) F dX6_free_25 rfl (Nat.le_of_ble_eq_true rfl) rfl (pc' := 26) rfl ?_
        refine wk_iinc (k := 2) (v := nI (i + 1)) (lv' := [(2, .int (nI (i + 1))), (1, .int (x1 + (1 : Int32))), (0, .ref (hs 0))]) F dX6_free_26 rfl (nI_inc i) (Nat.le_of_ble_eq_true rfl) rfl (pc' := 29) rfl ?_
        refine wk_goto (tgt := 4) F dX6_free_29 (by decide) ?_
        refine wk_lv [2, 1, 0] rfl ?_
        exact ih (i + 1) (x1 + (1 : Int32)) (by omega) (fun y1_ h_ => kx y1_ (Eq.trans (by rw [f6_free_L4] <;> exact (st_pos c1 rfl)) h_))
  refine wk_iconst F dX6_free_0 ic_0 (pc' := 1) rfl ?_
  refine wk_istore_n (lv' := [(1, .int (0 : Int32)), (0, .ref (hs 0))]) F dX6_free_1 rfl (Nat.le_of_ble_eq_true rfl) rfl (pc' := 2) rfl ?_
  refine wk_iconst F dX6_free_2 ic_0 (pc' := 3) rfl ?_
  refine wk_istore_n (lv' := [(2, .int (0 : Int32)), (1, .int (0 : Int32)), (0, .ref (hs 0))]) F dX6_free_3 rfl (Nat.le_of_ble_eq_true rfl) rfl (pc' := 4) rfl ?_
  refine wk_lv [2, 1, 0] rfl ?_
  refine L4 30 0 (0 : Int32) (by omega) (fun y3 h2 => ?_)
  refine wk_iload_n F dX6_free_32 rfl 0 rfl (pc' := 33) rfl ?_
  exact hret _ _ _ dX6_free_33 rfl (Eq.symm (by rw [f6_free] <;> exact (st_let h2 rfl)))
def f6_promises_L4 (σ : PS) : Nat → Nat → Int32 → Int32
  | 0, i, x1 => x1
  | n + 1, i, x1 => (if (f6_of σ (nI i) (0 : Int32)) = (1 : Int32) then f6_promises_L4 σ n (i + 1) (x1 + (f6_of σ (nI i) (3 : Int32))) else f6_promises_L4 σ n (i + 1) (x1 + (0 : Int32)))
def f6_promises (σ : PS) : Int32 := (sq (f6_promises_L4 σ 8 0 (0 : Int32)) (fun (y3 : Int32) => y3))
set_option maxHeartbeats 4000000 in
set_option maxRecDepth 100000 in
theorem c6_promises (l : Launch) (D : va_G) (cI cP : ClassId) (hs : Nat → Nat) (σ : PS) : CP l yX6_promises wsX6_promises ({ frames := 1, cells := 0, slots := 0, locals := 22 } : Room) D (cty cI cP) (wMod cI hs) σ [.ref (hs 0)] (f6_promises σ) := by
  refine CP.of (cc := cX6_promises) (maxL := 3) (rt := .int) (own := RX6) (lv0 := [(0, .ref (hs 0))]) pnX6 rfl rfl (Nat.le_of_ble_eq_true rfl) rfl (fun p e s m args below meth c A Q F hret => ?_)
  have L4 : ∀ (n : Nat) (i : Nat) (x1 : Int32), i + n = 8 → (∀ (y1 : Int32), f6_promises_L4 σ n i x1 = y1 → Wk p l e ({ frames := 1, cells := 0, slots := 0, locals := 22 } : Room) s m args below meth c 3 D A 0 0 Q (wMod cI hs σ) [(1, .int y1)] 39 []) → Wk p l e ({ frames := 1, cells := 0, slots := 0, locals := 22 } : Room) s m args below meth c 3 D A 0 0 Q (wMod cI hs σ) [(0, .ref (hs 0)), (1, .int x1), (2, .int (nI i))] 4 [] := by
    intro n
    induction n with
    | zero =>
      intro i x1 hi kx
      refine wk_iload_n F dX6_promises_4 rfl 2 rfl (pc' := 5) rfl ?_
      refine wk_bipush F dX6_promises_5 bp_8 (pc' := 7) rfl ?_
      refine wk_icmp_ge (tgt := 39) F dX6_promises_7 (by decide) (pc' := 10) rfl (fun _ => ?_) (fun c => absurd ((nI_leI (a := 8) (b := i) (by omega) (by omega)).mpr (by omega)) c)
      refine wk_lv [1] rfl ?_
      exact kx x1 (by rw [f6_promises_L4] <;> exact rfl)
    | succ n ih =>
      intro i x1 hi kx
      refine wk_iload_n F dX6_promises_4 rfl 2 rfl (pc' := 5) rfl ?_
      refine wk_bipush F dX6_promises_5 bp_8 (pc' := 7) rfl ?_
      refine wk_icmp_ge (tgt := 39) F dX6_promises_7 (by decide) (pc' := 10) rfl (fun c => absurd ((nI_leI (a := 8) (b := i) (by omega) (by omega)).mp c) (by omega)) (fun _ => ?_)
      refine wk_iload_n F dX6_promises_10 rfl 1 rfl (pc' := 11) rfl ?_
      refine wk_aload_n F dX6_promises_11 rfl 0 rfl (pc' := 12) rfl ?_
      refine wk_iload_n F dX6_promises_12 rfl 2 rfl (pc' := 13) rfl ?_
      refine wk_iconst F dX6_promises_13 ic_0 (pc' := 14) rfl ?_
      refine wk_same_p F (c6_of l D cI cP hs σ (nI i) (0 : Int32) (vp_in_nI (n := i) (N := 8) (by omega) (Nat.le_of_ble_eq_true rfl)) (vp_in_nI (n := 0) (N := 47) (Nat.le_of_ble_eq_true rfl) (Nat.le_of_ble_eq_true rfl))) (cwV 2 F.hts gX6_promises_X6_of rfl rfl rfl hdX6_of ⟨Nat.le_of_ble_eq_true rfl, Nat.le_of_ble_eq_true rfl⟩) 0 6 rfl rfl rfl rfl (Nat.le_of_ble_eq_true rfl) dX6_promises_14 ⟨Nat.zero_le _, Nat.zero_le _⟩ (pc' := 17) rfl ?_
      refine wk_iconst F dX6_promises_17 ic_1 (pc' := 18) rfl ?_
      refine wk_icmp_ne (tgt := 30) F dX6_promises_18 (by decide) (pc' := 21) rfl (fun c1 => ?_) (fun c1 => ?_)
      · refine wk_iconst F dX6_promises_30 ic_0 (pc' := 31) rfl ?_
        refine wk_iadd F dX6_promises_31 (pc' := 32) rfl ?_
        refine wk_istore_n (lv' := [(1, .int (x1 + (0 : Int32))), (0, .ref (hs 0)), (2, .int (nI i))]) F dX6_promises_32 rfl (Nat.le_of_ble_eq_true rfl) rfl (pc' := 33) rfl ?_
        refine wk_iinc (k := 2) (v := nI (i + 1)) (lv' := [(2, .int (nI (i + 1))), (1, .int (x1 + (0 : Int32))), (0, .ref (hs 0))]) F dX6_promises_33 rfl (nI_inc i) (Nat.le_of_ble_eq_true rfl) rfl (pc' := 36) rfl ?_
        refine wk_goto (tgt := 4) F dX6_promises_36 (by decide) ?_
        refine wk_lv [2, 1, 0] rfl ?_
        exact ih (i + 1) (x1 + (0 : Int32)) (by omega) (fun y1_ h_ => kx y1_ (Eq.trans (by rw [f6_promises_L4] <;> exact (st_neg c1 rfl)) h_))
      · refine wk_aload_n F dX6_promises_21 rfl 0 rfl (pc' := 22) rfl ?_
        refine wk_iload_n F dX6_promises_22 rfl 2 rfl (pc' := 23) rfl ?_
        refine wk_iconst F dX6_promises_23 ic_3 (pc' := 24) rfl ?_
        refine wk_same_p F (c6_of l D cI cP hs σ (nI i) (3 : Int32) (vp_in_nI (n := i) (N := 8) (by omega) (Nat.le_of_ble_eq_true rfl)) (vp_in_nI (n := 3) (N := 47) (Nat.le_of_ble_eq_true rfl) (Nat.le_of_ble_eq_true rfl))) (cwV 2 F.hts gX6_promises_X6_of rfl rfl rfl hdX6_of ⟨Nat.le_of_ble_eq_true rfl, Nat.le_of_ble_eq_true rfl⟩) 0 6 rfl rfl rfl rfl (Nat.le_of_ble_eq_true rfl) dX6_promises_24 ⟨Nat.zero_le _, Nat.zero_le _⟩ (pc' := 27) rfl ?_
        refine wk_goto (tgt := 31) F dX6_promises_27 (by decide) ?_
        refine wk_iadd F dX6_promises_31 (pc' := 32) rfl ?_
        refine wk_istore_n (lv' := [(1, .int (x1 + (f6_of σ (nI i) (3 : Int32)))), (0, .ref (hs 0)), (2, .int (nI i))]) F dX6_promises_32 rfl (Nat.le_of_ble_eq_true rfl) rfl (pc' := 33) rfl ?_
        refine wk_iinc (k := 2) (v := nI (i + 1)) (lv' := [(2, .int (nI (i + 1))), (1, .int (x1 + (f6_of σ (nI i) (3 : Int32)))), (0, .ref (hs 0))]) F dX6_promises_33 rfl (nI_inc i) (Nat.le_of_ble_eq_true rfl) rfl (pc' := 36) rfl ?_
        refine wk_goto (tgt := 4) F dX6_promises_36 (by decide) ?_
        refine wk_lv [2, 1, 0] rfl ?_
        exact ih (i + 1) (x1 + (f6_of σ (nI i) (3 : Int32))) (by omega) (fun y1_ h_ => kx y1_ (Eq.trans (by rw [f6_promises_L4] <;> exact (st_pos c1 rfl)) h_))
  refine wk_iconst F dX6_promises_0 ic_0 (pc' := 1) rfl ?_
  refine wk_istore_n (lv' := [(1, .int (0 : Int32)), (0, .ref (hs 0))]) F dX6_promises_1 rfl (Nat.le_of_ble_eq_true rfl) rfl (pc' := 2) rfl ?_
  refine wk_iconst F dX6_promises_2 ic_0 (pc' := 3) rfl ?_
  refine wk_istore_n (lv' := [(2, .int (0 : Int32)), (1, .int (0 : Int32)), (0, .ref (hs 0))]) F dX6_promises_3 rfl (Nat.le_of_ble_eq_true rfl) rfl (pc' := 4) rfl ?_
  refine wk_lv [2, 1, 0] rfl ?_
  refine L4 8 0 (0 : Int32) (by omega) (fun y3 h2 => ?_)
  refine wk_iload_n F dX6_promises_39 rfl 0 rfl (pc' := 40) rfl ?_
  exact hret _ _ _ dX6_promises_40 rfl (Eq.symm (by rw [f6_promises] <;> exact (st_let h2 rfl)))
def f6_levelBy (σ : PS) (p1 : Int32) : Int32 := (if (σ 0 1) < p1 then (if (σ 0 0) < p1 then (0 : Int32) else (1 : Int32)) else (2 : Int32))
set_option maxHeartbeats 4000000 in
set_option maxRecDepth 100000 in
theorem c6_levelBy (l : Launch) (D : va_G) (cI cP : ClassId) (hs : Nat → Nat) (σ : PS) (p1 : Int32) : CP l yX6_levelBy wsX6_levelBy ({ frames := 0, cells := 0, slots := 0, locals := 0 } : Room) D (cty cI cP) (wMod cI hs) σ [.ref (hs 0), .int p1] (f6_levelBy σ p1) := by
  refine CP.of (cc := cX6_levelBy) (maxL := 2) (rt := .int) (own := RX6) (lv0 := [(0, .ref (hs 0)), (1, .int p1)]) pnX6 rfl rfl (Nat.le_of_ble_eq_true rfl) rfl (fun p e s m args below meth c A Q F hret => ?_)
  have w_1 := F.at (x := Cond.fieldLink RX6 7 "ThinVolumesModel" "s" "[I") 1 rfl
  have k_6 : ∀ w ∈ wsX60, w ∈ wsX6_levelBy := fun _ h => List.mem_cons_of_mem _ (List.mem_append_right _ (h))
  refine wk_iload_n F dX6_levelBy_0 rfl 1 rfl (pc' := 1) rfl ?_
  refine wk_aload_n F dX6_levelBy_1 rfl 0 rfl (pc' := 2) rfl ?_
  refine wk_get (C := RX6) (T := TX6) (N := 12) F 0 rfl rfl k_6 0 (Nat.le_of_ble_eq_true rfl) w_1 rfl dX6_levelBy_2 (pc' := 5) rfl ?_
  refine wk_iconst F dX6_levelBy_5 ic_1 (pc' := 6) rfl ?_
  refine wk_iald_n (i := 1) F 1 0 rfl rfl (by omega) (Nat.le_of_ble_eq_true rfl) dX6_levelBy_6 (pc' := 7) rfl ?_
  refine wk_icmp_gt (tgt := 14) F dX6_levelBy_7 (by decide) (pc' := 10) rfl (fun c1 => ?_) (fun c1 => ?_)
  · refine wk_iload_n F dX6_levelBy_14 rfl 1 rfl (pc' := 15) rfl ?_
    refine wk_aload_n F dX6_levelBy_15 rfl 0 rfl (pc' := 16) rfl ?_
    refine wk_get (C := RX6) (T := TX6) (N := 12) F 0 rfl rfl k_6 0 (Nat.le_of_ble_eq_true rfl) w_1 rfl dX6_levelBy_16 (pc' := 19) rfl ?_
    refine wk_iconst F dX6_levelBy_19 ic_0 (pc' := 20) rfl ?_
    refine wk_iald_n (i := 0) F 1 0 rfl rfl (by omega) (Nat.le_of_ble_eq_true rfl) dX6_levelBy_20 (pc' := 21) rfl ?_
    refine wk_icmp_gt (tgt := 28) F dX6_levelBy_21 (by decide) (pc' := 24) rfl (fun c2 => ?_) (fun c2 => ?_)
    · refine wk_iconst F dX6_levelBy_28 ic_0 (pc' := 29) rfl ?_
      exact hret _ _ _ dX6_levelBy_29 rfl (Eq.symm (by rw [f6_levelBy] <;> exact (st_pos c1 (st_pos c2 rfl))))
    · refine wk_iconst F dX6_levelBy_24 ic_1 (pc' := 25) rfl ?_
      refine wk_goto (tgt := 29) F dX6_levelBy_25 (by decide) ?_
      exact hret _ _ _ dX6_levelBy_29 rfl (Eq.symm (by rw [f6_levelBy] <;> exact (st_pos c1 (st_neg c2 rfl))))
  · refine wk_iconst F dX6_levelBy_10 ic_2 (pc' := 11) rfl ?_
    refine wk_goto (tgt := 29) F dX6_levelBy_11 (by decide) ?_
    exact hret _ _ _ dX6_levelBy_29 rfl (Eq.symm (by rw [f6_levelBy] <;> exact (st_neg c1 rfl)))
def f6_available (σ : PS) : Int32 := (f6_free σ) - (f6_promises σ)
set_option maxHeartbeats 4000000 in
set_option maxRecDepth 100000 in
theorem c6_available (l : Launch) (D : va_G) (cI cP : ClassId) (hs : Nat → Nat) (σ : PS) (hs_okL : okL σ) : CP l yX6_available wsX6_available ({ frames := 5, cells := 0, slots := 0, locals := 113 } : Room) D (cty cI cP) (wMod cI hs) σ [.ref (hs 0)] (f6_available σ) := by
  refine CP.of (cc := cX6_available) (maxL := 1) (rt := .int) (own := RX6) (lv0 := [(0, .ref (hs 0))]) pnX6 rfl rfl (Nat.le_of_ble_eq_true rfl) rfl (fun p e s m args below meth c A Q F hret => ?_)
  refine wk_aload_n F dX6_available_0 rfl 0 rfl (pc' := 1) rfl ?_
  refine wk_same_p F (c6_free l D cI cP hs σ hs_okL) (cwV 0 F.hts gX6_available_X6_free rfl rfl rfl hdX6_free ⟨Nat.le_of_ble_eq_true rfl, Nat.le_of_ble_eq_true rfl⟩) 0 6 rfl rfl rfl rfl (Nat.le_of_ble_eq_true rfl) dX6_available_1 ⟨Nat.zero_le _, Nat.zero_le _⟩ (pc' := 4) rfl ?_
  refine wk_aload_n F dX6_available_4 rfl 0 rfl (pc' := 5) rfl ?_
  refine wk_same_p F (c6_promises l D cI cP hs σ) (cwV 0 F.hts gX6_available_X6_promises rfl rfl rfl hdX6_promises ⟨Nat.le_of_ble_eq_true rfl, Nat.le_of_ble_eq_true rfl⟩) 0 6 rfl rfl rfl rfl (Nat.le_of_ble_eq_true rfl) dX6_available_5 ⟨Nat.zero_le _, Nat.zero_le _⟩ (pc' := 8) rfl ?_
  refine wk_isub F dX6_available_8 (pc' := 9) rfl ?_
  exact hret _ _ _ dX6_available_9 rfl (Eq.symm (by rw [f6_available] <;> exact rfl))
def f6_best_L5 (σ : PS) : Nat → Nat → Int32 → Int32
  | 0, i, x1 => x1
  | n + 1, i, x1 => (if (f6_of σ (nI i) (0 : Int32)) = (1 : Int32) then (if x1 < 0 then f6_best_L5 σ n (i + 1) (nI i) else (if (f6_of σ (nI i) (2 : Int32)) ≤ (f6_of σ x1 (2 : Int32)) then f6_best_L5 σ n (i + 1) x1 else f6_best_L5 σ n (i + 1) (nI i))) else f6_best_L5 σ n (i + 1) x1)
def f6_best (σ : PS) : Int32 := (sq (f6_best_L5 σ 8 0 (-1000004 : Int32)) (fun (y5 : Int32) => y5))
set_option maxHeartbeats 4000000 in
set_option maxRecDepth 100000 in
theorem c6_best (l : Launch) (D : va_G) (cI cP : ClassId) (hs : Nat → Nat) (σ : PS) : CP l yX6_best wsX6_best ({ frames := 1, cells := 0, slots := 0, locals := 22 } : Room) D (cty cI cP) (wMod cI hs) σ [.ref (hs 0)] (f6_best σ) := by
  refine CP.of (cc := cX6_best) (maxL := 3) (rt := .int) (own := RX6) (lv0 := [(0, .ref (hs 0))]) pnX6 rfl rfl (Nat.le_of_ble_eq_true rfl) rfl (fun p e s m args below meth c A Q F hret => ?_)
  have w_1 := F.at (x := Cond.constant RX6 65 (-1000004)) 1 rfl
  have L5 : ∀ (n : Nat) (i : Nat) (x1 : Int32), i + n = 8 → (x1 < 0 ∨ vp_in x1 8) → (∀ (y1 : Int32), f6_best_L5 σ n i x1 = y1 → Wk p l e ({ frames := 1, cells := 0, slots := 0, locals := 22 } : Room) s m args below meth c 3 D A 0 0 Q (wMod cI hs σ) [(1, .int y1)] 52 []) → Wk p l e ({ frames := 1, cells := 0, slots := 0, locals := 22 } : Room) s m args below meth c 3 D A 0 0 Q (wMod cI hs σ) [(0, .ref (hs 0)), (1, .int x1), (2, .int (nI i))] 5 [] := by
    intro n
    induction n with
    | zero =>
      intro i x1 hi hv0 kx
      refine wk_iload_n F dX6_best_5 rfl 2 rfl (pc' := 6) rfl ?_
      refine wk_bipush F dX6_best_6 bp_8 (pc' := 8) rfl ?_
      refine wk_icmp_ge (tgt := 52) F dX6_best_8 (by decide) (pc' := 11) rfl (fun _ => ?_) (fun c => absurd ((nI_leI (a := 8) (b := i) (by omega) (by omega)).mpr (by omega)) c)
      refine wk_lv [1] rfl ?_
      exact kx x1 (by rw [f6_best_L5] <;> exact rfl)
    | succ n ih =>
      intro i x1 hi hv0 kx
      refine wk_iload_n F dX6_best_5 rfl 2 rfl (pc' := 6) rfl ?_
      refine wk_bipush F dX6_best_6 bp_8 (pc' := 8) rfl ?_
      refine wk_icmp_ge (tgt := 52) F dX6_best_8 (by decide) (pc' := 11) rfl (fun c => absurd ((nI_leI (a := 8) (b := i) (by omega) (by omega)).mp c) (by omega)) (fun _ => ?_)
      refine wk_aload_n F dX6_best_11 rfl 0 rfl (pc' := 12) rfl ?_
      refine wk_iload_n F dX6_best_12 rfl 2 rfl (pc' := 13) rfl ?_
      refine wk_iconst F dX6_best_13 ic_0 (pc' := 14) rfl ?_
      refine wk_same_p F (c6_of l D cI cP hs σ (nI i) (0 : Int32) (vp_in_nI (n := i) (N := 8) (by omega) (Nat.le_of_ble_eq_true rfl)) (vp_in_nI (n := 0) (N := 47) (Nat.le_of_ble_eq_true rfl) (Nat.le_of_ble_eq_true rfl))) (cwV 2 F.hts gX6_best_X6_of rfl rfl rfl hdX6_of ⟨Nat.le_of_ble_eq_true rfl, Nat.le_of_ble_eq_true rfl⟩) 0 6 rfl rfl rfl rfl (Nat.le_of_ble_eq_true rfl) dX6_best_14 ⟨Nat.zero_le _, Nat.zero_le _⟩ (pc' := 17) rfl ?_
      refine wk_iconst F dX6_best_17 ic_1 (pc' := 18) rfl ?_
      refine wk_icmp_ne (tgt := 44) F dX6_best_18 (by decide) (pc' := 21) rfl (fun c1 => ?_) (fun c1 => ?_)
      · refine wk_iload_n F dX6_best_44 rfl 1 rfl (pc' := 45) rfl ?_
        refine wk_istore_n (lv' := [(1, .int x1), (0, .ref (hs 0)), (2, .int (nI i))]) F dX6_best_45 rfl (Nat.le_of_ble_eq_true rfl) rfl (pc' := 46) rfl ?_
        refine wk_iinc (k := 2) (v := nI (i + 1)) (lv' := [(2, .int (nI (i + 1))), (1, .int x1), (0, .ref (hs 0))]) F dX6_best_46 rfl (nI_inc i) (Nat.le_of_ble_eq_true rfl) rfl (pc' := 49) rfl ?_
        refine wk_goto (tgt := 5) F dX6_best_49 (by decide) ?_
        refine wk_lv [2, 1, 0] rfl ?_
        exact ih (i + 1) x1 (by omega) hv0 (fun y1_ h_ => kx y1_ (Eq.trans (by rw [f6_best_L5] <;> exact (st_neg c1 rfl)) h_))
      · refine wk_iload_n F dX6_best_21 rfl 1 rfl (pc' := 22) rfl ?_
        refine wk_if_lt (tgt := 40) F dX6_best_22 (by decide) (pc' := 25) rfl (fun c2 => ?_) (fun c2 => ?_)
        · refine wk_iload_n F dX6_best_40 rfl 2 rfl (pc' := 41) rfl ?_
          refine wk_goto (tgt := 45) F dX6_best_41 (by decide) ?_
          refine wk_istore_n (lv' := [(1, .int (nI i)), (0, .ref (hs 0)), (2, .int (nI i))]) F dX6_best_45 rfl (Nat.le_of_ble_eq_true rfl) rfl (pc' := 46) rfl ?_
          refine wk_iinc (k := 2) (v := nI (i + 1)) (lv' := [(2, .int (nI (i + 1))), (1, .int (nI i)), (0, .ref (hs 0))]) F dX6_best_46 rfl (nI_inc i) (Nat.le_of_ble_eq_true rfl) rfl (pc' := 49) rfl ?_
          refine wk_goto (tgt := 5) F dX6_best_49 (by decide) ?_
          refine wk_lv [2, 1, 0] rfl ?_
          exact ih (i + 1) (nI i) (by omega) (Or.inr (vp_in_nI (n := i) (N := 8) (by omega) (by decide))) (fun y1_ h_ => kx y1_ (Eq.trans (by rw [f6_best_L5] <;> exact (st_pos c1 (st_pos c2 rfl))) h_))
        · refine wk_aload_n F dX6_best_25 rfl 0 rfl (pc' := 26) rfl ?_
          refine wk_iload_n F dX6_best_26 rfl 2 rfl (pc' := 27) rfl ?_
          refine wk_iconst F dX6_best_27 ic_2 (pc' := 28) rfl ?_
          refine wk_same_p F (c6_of l D cI cP hs σ (nI i) (2 : Int32) (vp_in_nI (n := i) (N := 8) (by omega) (Nat.le_of_ble_eq_true rfl)) (vp_in_nI (n := 2) (N := 47) (Nat.le_of_ble_eq_true rfl) (Nat.le_of_ble_eq_true rfl))) (cwV 2 F.hts gX6_best_X6_of rfl rfl rfl hdX6_of ⟨Nat.le_of_ble_eq_true rfl, Nat.le_of_ble_eq_true rfl⟩) 0 6 rfl rfl rfl rfl (Nat.le_of_ble_eq_true rfl) dX6_best_28 ⟨Nat.zero_le _, Nat.zero_le _⟩ (pc' := 31) rfl ?_
          refine wk_aload_n F dX6_best_31 rfl 0 rfl (pc' := 32) rfl ?_
          refine wk_iload_n F dX6_best_32 rfl 1 rfl (pc' := 33) rfl ?_
          refine wk_iconst F dX6_best_33 ic_2 (pc' := 34) rfl ?_
          refine wk_same_p F (c6_of l D cI cP hs σ x1 (2 : Int32) (hv0.resolve_left c2) (vp_in_nI (n := 2) (N := 47) (Nat.le_of_ble_eq_true rfl) (Nat.le_of_ble_eq_true rfl))) (cwV 2 F.hts gX6_best_X6_of rfl rfl rfl hdX6_of ⟨Nat.le_of_ble_eq_true rfl, Nat.le_of_ble_eq_true rfl⟩) 0 6 rfl rfl rfl rfl (Nat.le_of_ble_eq_true rfl) dX6_best_34 ⟨Nat.zero_le _, Nat.zero_le _⟩ (pc' := 37) rfl ?_
          refine wk_icmp_le (tgt := 44) F dX6_best_37 (by decide) (pc' := 40) rfl (fun c3 => ?_) (fun c3 => ?_)
          · refine wk_iload_n F dX6_best_44 rfl 1 rfl (pc' := 45) rfl ?_
            refine wk_istore_n (lv' := [(1, .int x1), (0, .ref (hs 0)), (2, .int (nI i))]) F dX6_best_45 rfl (Nat.le_of_ble_eq_true rfl) rfl (pc' := 46) rfl ?_
            refine wk_iinc (k := 2) (v := nI (i + 1)) (lv' := [(2, .int (nI (i + 1))), (1, .int x1), (0, .ref (hs 0))]) F dX6_best_46 rfl (nI_inc i) (Nat.le_of_ble_eq_true rfl) rfl (pc' := 49) rfl ?_
            refine wk_goto (tgt := 5) F dX6_best_49 (by decide) ?_
            refine wk_lv [2, 1, 0] rfl ?_
            exact ih (i + 1) x1 (by omega) hv0 (fun y1_ h_ => kx y1_ (Eq.trans (by rw [f6_best_L5] <;> exact (st_pos c1 (st_neg c2 (st_pos c3 rfl)))) h_))
          · refine wk_iload_n F dX6_best_40 rfl 2 rfl (pc' := 41) rfl ?_
            refine wk_goto (tgt := 45) F dX6_best_41 (by decide) ?_
            refine wk_istore_n (lv' := [(1, .int (nI i)), (0, .ref (hs 0)), (2, .int (nI i))]) F dX6_best_45 rfl (Nat.le_of_ble_eq_true rfl) rfl (pc' := 46) rfl ?_
            refine wk_iinc (k := 2) (v := nI (i + 1)) (lv' := [(2, .int (nI (i + 1))), (1, .int (nI i)), (0, .ref (hs 0))]) F dX6_best_46 rfl (nI_inc i) (Nat.le_of_ble_eq_true rfl) rfl (pc' := 49) rfl ?_
            refine wk_goto (tgt := 5) F dX6_best_49 (by decide) ?_
            refine wk_lv [2, 1, 0] rfl ?_
            exact ih (i + 1) (nI i) (by omega) (Or.inr (vp_in_nI (n := i) (N := 8) (by omega) (by decide))) (fun y1_ h_ => kx y1_ (Eq.trans (by rw [f6_best_L5] <;> exact (st_pos c1 (st_neg c2 (st_neg c3 rfl)))) h_))
  refine wk_ldc F dX6_best_0 w_1 (pc' := 2) rfl ?_
  refine wk_istore_n (lv' := [(1, .int (-1000004 : Int32)), (0, .ref (hs 0))]) F dX6_best_2 rfl (Nat.le_of_ble_eq_true rfl) rfl (pc' := 3) rfl ?_
  refine wk_iconst F dX6_best_3 ic_0 (pc' := 4) rfl ?_
  refine wk_istore_n (lv' := [(2, .int (0 : Int32)), (1, .int (-1000004 : Int32)), (0, .ref (hs 0))]) F dX6_best_4 rfl (Nat.le_of_ble_eq_true rfl) rfl (pc' := 5) rfl ?_
  refine wk_lv [2, 1, 0] rfl ?_
  refine L5 8 0 (-1000004 : Int32) (by omega) (Or.inl (by decide)) (fun y5 h4 => ?_)
  refine wk_iload_n F dX6_best_52 rfl 0 rfl (pc' := 53) rfl ?_
  exact hret _ _ _ dX6_best_53 rfl (Eq.symm (by rw [f6_best] <;> exact (st_let h4 rfl)))
def f6_free8_L2 (σ : PS) : Nat → Nat → Int32
  | 0, i => nI i
  | n + 1, i => (if (f6_of σ (nI i) (0 : Int32)) = (1 : Int32) then f6_free8_L2 σ n (i + 1) else nI i)
def f6_free8 (σ : PS) : Int32 := (sq (f6_free8_L2 σ 8 0) (fun (y3 : Int32) => y3))
set_option maxHeartbeats 4000000 in
set_option maxRecDepth 100000 in
theorem c6_free8 (l : Launch) (D : va_G) (cI cP : ClassId) (hs : Nat → Nat) (σ : PS) : CP l yX6_free8 wsX6_free8 ({ frames := 1, cells := 0, slots := 0, locals := 22 } : Room) D (cty cI cP) (wMod cI hs) σ [.ref (hs 0)] (f6_free8 σ) := by
  refine CP.of (cc := cX6_free8) (maxL := 2) (rt := .int) (own := RX6) (lv0 := [(0, .ref (hs 0))]) pnX6 rfl rfl (Nat.le_of_ble_eq_true rfl) rfl (fun p e s m args below meth c A Q F hret => ?_)
  have L2 : ∀ (n : Nat) (i : Nat), i + n = 8 → (∀ (y1 : Int32), f6_free8_L2 σ n i = y1 → Wk p l e ({ frames := 1, cells := 0, slots := 0, locals := 22 } : Room) s m args below meth c 2 D A 0 0 Q (wMod cI hs σ) [(1, .int y1)] 24 []) → Wk p l e ({ frames := 1, cells := 0, slots := 0, locals := 22 } : Room) s m args below meth c 2 D A 0 0 Q (wMod cI hs σ) [(0, .ref (hs 0)), (1, .int (nI i))] 2 [] := by
    intro n
    induction n with
    | zero =>
      intro i hi kx
      refine wk_iload_n F dX6_free8_2 rfl 1 rfl (pc' := 3) rfl ?_
      refine wk_bipush F dX6_free8_3 bp_8 (pc' := 5) rfl ?_
      refine wk_icmp_ge (tgt := 24) F dX6_free8_5 (by decide) (pc' := 8) rfl (fun _ => ?_) (fun c => absurd ((nI_leI (a := 8) (b := i) (by omega) (by omega)).mpr (by omega)) c)
      refine wk_lv [1] rfl ?_
      exact kx (nI i) (by rw [f6_free8_L2] <;> exact rfl)
    | succ n ih =>
      intro i hi kx
      refine wk_iload_n F dX6_free8_2 rfl 1 rfl (pc' := 3) rfl ?_
      refine wk_bipush F dX6_free8_3 bp_8 (pc' := 5) rfl ?_
      refine wk_icmp_ge (tgt := 24) F dX6_free8_5 (by decide) (pc' := 8) rfl (fun c => absurd ((nI_leI (a := 8) (b := i) (by omega) (by omega)).mp c) (by omega)) (fun _ => ?_)
      refine wk_aload_n F dX6_free8_8 rfl 0 rfl (pc' := 9) rfl ?_
      refine wk_iload_n F dX6_free8_9 rfl 1 rfl (pc' := 10) rfl ?_
      refine wk_iconst F dX6_free8_10 ic_0 (pc' := 11) rfl ?_
      refine wk_same_p F (c6_of l D cI cP hs σ (nI i) (0 : Int32) (vp_in_nI (n := i) (N := 8) (by omega) (Nat.le_of_ble_eq_true rfl)) (vp_in_nI (n := 0) (N := 47) (Nat.le_of_ble_eq_true rfl) (Nat.le_of_ble_eq_true rfl))) (cwV 2 F.hts gX6_free8_X6_of rfl rfl rfl hdX6_of ⟨Nat.le_of_ble_eq_true rfl, Nat.le_of_ble_eq_true rfl⟩) 0 6 rfl rfl rfl rfl (Nat.le_of_ble_eq_true rfl) dX6_free8_11 ⟨Nat.zero_le _, Nat.zero_le _⟩ (pc' := 14) rfl ?_
      refine wk_iconst F dX6_free8_14 ic_1 (pc' := 15) rfl ?_
      refine wk_icmp_ne (tgt := 24) F dX6_free8_15 (by decide) (pc' := 18) rfl (fun c1 => ?_) (fun c1 => ?_)
      · refine wk_lv [1] rfl ?_
        exact kx (nI i) (by rw [f6_free8_L2] <;> exact (st_neg c1 rfl))
      · refine wk_iinc (k := 1) (v := nI (i + 1)) (lv' := [(1, .int (nI (i + 1))), (0, .ref (hs 0))]) F dX6_free8_18 rfl (nI_inc i) (Nat.le_of_ble_eq_true rfl) rfl (pc' := 21) rfl ?_
        refine wk_goto (tgt := 2) F dX6_free8_21 (by decide) ?_
        refine wk_lv [1, 0] rfl ?_
        exact ih (i + 1) (by omega) (fun y1_ h_ => kx y1_ (Eq.trans (by rw [f6_free8_L2] <;> exact (st_pos c1 rfl)) h_))
  refine wk_iconst F dX6_free8_0 ic_0 (pc' := 1) rfl ?_
  refine wk_istore_n (lv' := [(1, .int (0 : Int32)), (0, .ref (hs 0))]) F dX6_free8_1 rfl (Nat.le_of_ble_eq_true rfl) rfl (pc' := 2) rfl ?_
  refine wk_lv [1, 0] rfl ?_
  refine L2 8 0 (by omega) (fun y3 h2 => ?_)
  refine wk_iload_n F dX6_free8_24 rfl 0 rfl (pc' := 25) rfl ?_
  exact hret _ _ _ dX6_free8_25 rfl (Eq.symm (by rw [f6_free8] <;> exact (st_let h2 rfl)))
def f6_lowestFree_L2 (σ : PS) : Nat → Nat → Int32
  | 0, i => nI i
  | n + 1, i => (if (f6_owners σ (nI i)) ≤ 0 then nI i else f6_lowestFree_L2 σ n (i + 1))
def f6_lowestFree (σ : PS) : Int32 := (sq (f6_lowestFree_L2 σ 30 0) (fun (y3 : Int32) => y3))
set_option maxHeartbeats 4000000 in
set_option maxRecDepth 100000 in
theorem c6_lowestFree (l : Launch) (D : va_G) (cI cP : ClassId) (hs : Nat → Nat) (σ : PS) (hs_okL : okL σ) : CP l yX6_lowestFree wsX6_lowestFree ({ frames := 4, cells := 0, slots := 0, locals := 91 } : Room) D (cty cI cP) (wMod cI hs) σ [.ref (hs 0)] (f6_lowestFree σ) := by
  refine CP.of (cc := cX6_lowestFree) (maxL := 2) (rt := .int) (own := RX6) (lv0 := [(0, .ref (hs 0))]) pnX6 rfl rfl (Nat.le_of_ble_eq_true rfl) rfl (fun p e s m args below meth c A Q F hret => ?_)
  have L2 : ∀ (n : Nat) (i : Nat), i + n = 30 → (∀ (y1 : Int32), f6_lowestFree_L2 σ n i = y1 → Wk p l e ({ frames := 4, cells := 0, slots := 0, locals := 91 } : Room) s m args below meth c 2 D A 0 0 Q (wMod cI hs σ) [(1, .int y1)] 22 []) → Wk p l e ({ frames := 4, cells := 0, slots := 0, locals := 91 } : Room) s m args below meth c 2 D A 0 0 Q (wMod cI hs σ) [(0, .ref (hs 0)), (1, .int (nI i))] 2 [] := by
    intro n
    induction n with
    | zero =>
      intro i hi kx
      refine wk_iload_n F dX6_lowestFree_2 rfl 1 rfl (pc' := 3) rfl ?_
      refine wk_bipush F dX6_lowestFree_3 bp_30 (pc' := 5) rfl ?_
      refine wk_icmp_ge (tgt := 22) F dX6_lowestFree_5 (by decide) (pc' := 8) rfl (fun _ => ?_) (fun c => absurd ((nI_leI (a := 30) (b := i) (by omega) (by omega)).mpr (by omega)) c)
      refine wk_lv [1] rfl ?_
      exact kx (nI i) (by rw [f6_lowestFree_L2] <;> exact rfl)
    | succ n ih =>
      intro i hi kx
      refine wk_iload_n F dX6_lowestFree_2 rfl 1 rfl (pc' := 3) rfl ?_
      refine wk_bipush F dX6_lowestFree_3 bp_30 (pc' := 5) rfl ?_
      refine wk_icmp_ge (tgt := 22) F dX6_lowestFree_5 (by decide) (pc' := 8) rfl (fun c => absurd ((nI_leI (a := 30) (b := i) (by omega) (by omega)).mp c) (by omega)) (fun _ => ?_)
      refine wk_aload_n F dX6_lowestFree_8 rfl 0 rfl (pc' := 9) rfl ?_
      refine wk_iload_n F dX6_lowestFree_9 rfl 1 rfl (pc' := 10) rfl ?_
      refine wk_same_p F (c6_owners l D cI cP hs σ (nI i) hs_okL) (cwV 1 F.hts gX6_lowestFree_X6_owners rfl rfl rfl hdX6_owners ⟨Nat.le_of_ble_eq_true rfl, Nat.le_of_ble_eq_true rfl⟩) 0 6 rfl rfl rfl rfl (Nat.le_of_ble_eq_true rfl) dX6_lowestFree_10 ⟨Nat.zero_le _, Nat.zero_le _⟩ (pc' := 13) rfl ?_
      refine wk_if_le (tgt := 22) F dX6_lowestFree_13 (by decide) (pc' := 16) rfl (fun c1 => ?_) (fun c1 => ?_)
      · refine wk_lv [1] rfl ?_
        exact kx (nI i) (by rw [f6_lowestFree_L2] <;> exact (st_pos c1 rfl))
      · refine wk_iinc (k := 1) (v := nI (i + 1)) (lv' := [(1, .int (nI (i + 1))), (0, .ref (hs 0))]) F dX6_lowestFree_16 rfl (nI_inc i) (Nat.le_of_ble_eq_true rfl) rfl (pc' := 19) rfl ?_
        refine wk_goto (tgt := 2) F dX6_lowestFree_19 (by decide) ?_
        refine wk_lv [1, 0] rfl ?_
        exact ih (i + 1) (by omega) (fun y1_ h_ => kx y1_ (Eq.trans (by rw [f6_lowestFree_L2] <;> exact (st_neg c1 rfl)) h_))
  refine wk_iconst F dX6_lowestFree_0 ic_0 (pc' := 1) rfl ?_
  refine wk_istore_n (lv' := [(1, .int (0 : Int32)), (0, .ref (hs 0))]) F dX6_lowestFree_1 rfl (Nat.le_of_ble_eq_true rfl) rfl (pc' := 2) rfl ?_
  refine wk_lv [1, 0] rfl ?_
  refine L2 30 0 (by omega) (fun y3 h2 => ?_)
  refine wk_iload_n F dX6_lowestFree_22 rfl 0 rfl (pc' := 23) rfl ?_
  exact hret _ _ _ dX6_lowestFree_23 rfl (Eq.symm (by rw [f6_lowestFree] <;> exact (st_let h2 rfl)))
def f6_rank_L4 (σ : PS) (p1 : Int32) : Nat → Nat → Int32 → Int32
  | 0, i, x2 => x2
  | n + 1, i, x2 => (if (f6_of σ p1 (2 : Int32)) < (f6_of σ (nI i) (2 : Int32)) then (if (f6_of σ (nI i) (0 : Int32)) = (1 : Int32) then f6_rank_L4 σ p1 n (i + 1) (x2 + (1 : Int32)) else f6_rank_L4 σ p1 n (i + 1) (x2 + (0 : Int32))) else (if p1 ≤ (nI i) then (if (f6_of σ (nI i) (0 : Int32)) = (1 : Int32) then f6_rank_L4 σ p1 n (i + 1) (x2 + (0 : Int32)) else f6_rank_L4 σ p1 n (i + 1) (x2 + (0 : Int32))) else (if (f6_of σ (nI i) (2 : Int32)) = (f6_of σ p1 (2 : Int32)) then (if (f6_of σ (nI i) (0 : Int32)) = (1 : Int32) then f6_rank_L4 σ p1 n (i + 1) (x2 + (1 : Int32)) else f6_rank_L4 σ p1 n (i + 1) (x2 + (0 : Int32))) else (if (f6_of σ (nI i) (0 : Int32)) = (1 : Int32) then f6_rank_L4 σ p1 n (i + 1) (x2 + (0 : Int32)) else f6_rank_L4 σ p1 n (i + 1) (x2 + (0 : Int32))))))
def f6_rank (σ : PS) (p1 : Int32) : Int32 := (sq (f6_rank_L4 σ p1 8 0 (0 : Int32)) (fun (y9 : Int32) => y9))
set_option maxHeartbeats 4000000 in
set_option maxRecDepth 100000 in
theorem c6_rank (l : Launch) (D : va_G) (cI cP : ClassId) (hs : Nat → Nat) (σ : PS) (p1 : Int32) (hp_p1 : vp_in p1 8) : CP l yX6_rank wsX6_rank ({ frames := 1, cells := 0, slots := 0, locals := 22 } : Room) D (cty cI cP) (wMod cI hs) σ [.ref (hs 0), .int p1] (f6_rank σ p1) := by
  refine CP.of (cc := cX6_rank) (maxL := 5) (rt := .int) (own := RX6) (lv0 := [(0, .ref (hs 0)), (1, .int p1)]) pnX6 rfl rfl (Nat.le_of_ble_eq_true rfl) rfl (fun p e s m args below meth c A Q F hret => ?_)
  have L4 : ∀ (n : Nat) (i : Nat) (x2 : Int32), i + n = 8 → (∀ (y2 : Int32), f6_rank_L4 σ p1 n i x2 = y2 → Wk p l e ({ frames := 1, cells := 0, slots := 0, locals := 22 } : Room) s m args below meth c 5 D A 0 0 Q (wMod cI hs σ) [(2, .int y2)] 81 []) → Wk p l e ({ frames := 1, cells := 0, slots := 0, locals := 22 } : Room) s m args below meth c 5 D A 0 0 Q (wMod cI hs σ) [(0, .ref (hs 0)), (1, .int p1), (2, .int x2), (3, .int (nI i))] 4 [] := by
    intro n
    induction n with
    | zero =>
      intro i x2 hi kx
      refine wk_iload_n F dX6_rank_4 rfl 3 rfl (pc' := 5) rfl ?_
      refine wk_bipush F dX6_rank_5 bp_8 (pc' := 7) rfl ?_
      refine wk_icmp_ge (tgt := 81) F dX6_rank_7 (by decide) (pc' := 10) rfl (fun _ => ?_) (fun c => absurd ((nI_leI (a := 8) (b := i) (by omega) (by omega)).mpr (by omega)) c)
      refine wk_lv [2] rfl ?_
      exact kx x2 (by rw [f6_rank_L4] <;> exact rfl)
    | succ n ih =>
      intro i x2 hi kx
      refine wk_iload_n F dX6_rank_4 rfl 3 rfl (pc' := 5) rfl ?_
      refine wk_bipush F dX6_rank_5 bp_8 (pc' := 7) rfl ?_
      refine wk_icmp_ge (tgt := 81) F dX6_rank_7 (by decide) (pc' := 10) rfl (fun c => absurd ((nI_leI (a := 8) (b := i) (by omega) (by omega)).mp c) (by omega)) (fun _ => ?_)
      refine wk_aload_n F dX6_rank_10 rfl 0 rfl (pc' := 11) rfl ?_
      refine wk_iload_n F dX6_rank_11 rfl 3 rfl (pc' := 12) rfl ?_
      refine wk_iconst F dX6_rank_12 ic_2 (pc' := 13) rfl ?_
      refine wk_same_p F (c6_of l D cI cP hs σ (nI i) (2 : Int32) (vp_in_nI (n := i) (N := 8) (by omega) (Nat.le_of_ble_eq_true rfl)) (vp_in_nI (n := 2) (N := 47) (Nat.le_of_ble_eq_true rfl) (Nat.le_of_ble_eq_true rfl))) (cwV 2 F.hts gX6_rank_X6_of rfl rfl rfl hdX6_of ⟨Nat.le_of_ble_eq_true rfl, Nat.le_of_ble_eq_true rfl⟩) 0 6 rfl rfl rfl rfl (Nat.le_of_ble_eq_true rfl) dX6_rank_13 ⟨Nat.zero_le _, Nat.zero_le _⟩ (pc' := 16) rfl ?_
      refine wk_aload_n F dX6_rank_16 rfl 0 rfl (pc' := 17) rfl ?_
      refine wk_iload_n F dX6_rank_17 rfl 1 rfl (pc' := 18) rfl ?_
      refine wk_iconst F dX6_rank_18 ic_2 (pc' := 19) rfl ?_
      refine wk_same_p F (c6_of l D cI cP hs σ p1 (2 : Int32) hp_p1 (vp_in_nI (n := 2) (N := 47) (Nat.le_of_ble_eq_true rfl) (Nat.le_of_ble_eq_true rfl))) (cwV 2 F.hts gX6_rank_X6_of rfl rfl rfl hdX6_of ⟨Nat.le_of_ble_eq_true rfl, Nat.le_of_ble_eq_true rfl⟩) 0 6 rfl rfl rfl rfl (Nat.le_of_ble_eq_true rfl) dX6_rank_19 ⟨Nat.zero_le _, Nat.zero_le _⟩ (pc' := 22) rfl ?_
      refine wk_icmp_gt (tgt := 45) F dX6_rank_22 (by decide) (pc' := 25) rfl (fun c1 => ?_) (fun c1 => ?_)
      · refine wk_iconst F dX6_rank_45 ic_1 (pc' := 46) rfl ?_
        refine wk_goto (tgt := 50) F dX6_rank_46 (by decide) ?_
        refine wk_istore (lv' := [(4, .int (1 : Int32)), (0, .ref (hs 0)), (1, .int p1), (2, .int x2), (3, .int (nI i))]) F dX6_rank_50 (Nat.le_of_ble_eq_true rfl) rfl (pc' := 52) rfl ?_
        refine wk_iload_n F dX6_rank_52 rfl 3 rfl (pc' := 53) rfl ?_
        refine wk_aload_n F dX6_rank_53 rfl 1 rfl (pc' := 54) rfl ?_
        refine wk_iload_n F dX6_rank_54 rfl 4 rfl (pc' := 55) rfl ?_
        refine wk_iconst F dX6_rank_55 ic_0 (pc' := 56) rfl ?_
        refine wk_same_p F (c6_of l D cI cP hs σ (nI i) (0 : Int32) (vp_in_nI (n := i) (N := 8) (by omega) (Nat.le_of_ble_eq_true rfl)) (vp_in_nI (n := 0) (N := 47) (Nat.le_of_ble_eq_true rfl) (Nat.le_of_ble_eq_true rfl))) (cwV 2 F.hts gX6_rank_X6_of rfl rfl rfl hdX6_of ⟨Nat.le_of_ble_eq_true rfl, Nat.le_of_ble_eq_true rfl⟩) 0 6 rfl rfl rfl rfl (Nat.le_of_ble_eq_true rfl) dX6_rank_56 ⟨Nat.zero_le _, Nat.zero_le _⟩ (pc' := 59) rfl ?_
        refine wk_iconst F dX6_rank_59 ic_1 (pc' := 60) rfl ?_
        refine wk_icmp_ne (tgt := 72) F dX6_rank_60 (by decide) (pc' := 63) rfl (fun c2 => ?_) (fun c2 => ?_)
        · refine wk_iconst F dX6_rank_72 ic_0 (pc' := 73) rfl ?_
          refine wk_iadd F dX6_rank_73 (pc' := 74) rfl ?_
          refine wk_istore_n (lv' := [(2, .int (x2 + (0 : Int32))), (4, .int (1 : Int32)), (0, .ref (hs 0)), (1, .int p1), (3, .int (nI i))]) F dX6_rank_74 rfl (Nat.le_of_ble_eq_true rfl) rfl (pc' := 75) rfl ?_
          refine wk_iinc (k := 4) (v := nI (i + 1)) (lv' := [(3, .int (nI (i + 1))), (2, .int (x2 + (0 : Int32))), (4, .int (1 : Int32)), (0, .ref (hs 0)), (1, .int p1)]) F dX6_rank_75 rfl (nI_inc i) (Nat.le_of_ble_eq_true rfl) rfl (pc' := 78) rfl ?_
          refine wk_goto (tgt := 4) F dX6_rank_78 (by decide) ?_
          refine wk_lv [3, 4, 1, 0] rfl ?_
          exact ih (i + 1) (x2 + (0 : Int32)) (by omega) (fun y2_ h_ => kx y2_ (Eq.trans (by rw [f6_rank_L4] <;> exact (st_pos c1 (st_neg c2 rfl))) h_))
        · refine wk_iload F dX6_rank_63 0 rfl (pc' := 65) rfl ?_
          refine wk_if_eq (tgt := 72) F dX6_rank_65 (by decide) (pc' := 68) rfl (fun c => absurd c (by decide)) (fun _ => ?_)
          refine wk_iconst F dX6_rank_68 ic_1 (pc' := 69) rfl ?_
          refine wk_goto (tgt := 73) F dX6_rank_69 (by decide) ?_
          refine wk_iadd F dX6_rank_73 (pc' := 74) rfl ?_
          refine wk_istore_n (lv' := [(2, .int (x2 + (1 : Int32))), (4, .int (1 : Int32)), (0, .ref (hs 0)), (1, .int p1), (3, .int (nI i))]) F dX6_rank_74 rfl (Nat.le_of_ble_eq_true rfl) rfl (pc' := 75) rfl ?_
          refine wk_iinc (k := 4) (v := nI (i + 1)) (lv' := [(3, .int (nI (i + 1))), (2, .int (x2 + (1 : Int32))), (4, .int (1 : Int32)), (0, .ref (hs 0)), (1, .int p1)]) F dX6_rank_75 rfl (nI_inc i) (Nat.le_of_ble_eq_true rfl) rfl (pc' := 78) rfl ?_
          refine wk_goto (tgt := 4) F dX6_rank_78 (by decide) ?_
          refine wk_lv [3, 4, 1, 0] rfl ?_
          exact ih (i + 1) (x2 + (1 : Int32)) (by omega) (fun y2_ h_ => kx y2_ (Eq.trans (by rw [f6_rank_L4] <;> exact (st_pos c1 (st_pos c2 rfl))) h_))
      · refine wk_iload_n F dX6_rank_25 rfl 3 rfl (pc' := 26) rfl ?_
        refine wk_iload_n F dX6_rank_26 rfl 1 rfl (pc' := 27) rfl ?_
        refine wk_icmp_ge (tgt := 49) F dX6_rank_27 (by decide) (pc' := 30) rfl (fun c3 => ?_) (fun c3 => ?_)
        · refine wk_iconst F dX6_rank_49 ic_0 (pc' := 50) rfl ?_
          refine wk_istore (lv' := [(4, .int (0 : Int32)), (0, .ref (hs 0)), (1, .int p1), (2, .int x2), (3, .int (nI i))]) F dX6_rank_50 (Nat.le_of_ble_eq_true rfl) rfl (pc' := 52) rfl ?_
          refine wk_iload_n F dX6_rank_52 rfl 3 rfl (pc' := 53) rfl ?_
          refine wk_aload_n F dX6_rank_53 rfl 1 rfl (pc' := 54) rfl ?_
          refine wk_iload_n F dX6_rank_54 rfl 4 rfl (pc' := 55) rfl ?_
          refine wk_iconst F dX6_rank_55 ic_0 (pc' := 56) rfl ?_
          refine wk_same_p F (c6_of l D cI cP hs σ (nI i) (0 : Int32) (vp_in_nI (n := i) (N := 8) (by omega) (Nat.le_of_ble_eq_true rfl)) (vp_in_nI (n := 0) (N := 47) (Nat.le_of_ble_eq_true rfl) (Nat.le_of_ble_eq_true rfl))) (cwV 2 F.hts gX6_rank_X6_of rfl rfl rfl hdX6_of ⟨Nat.le_of_ble_eq_true rfl, Nat.le_of_ble_eq_true rfl⟩) 0 6 rfl rfl rfl rfl (Nat.le_of_ble_eq_true rfl) dX6_rank_56 ⟨Nat.zero_le _, Nat.zero_le _⟩ (pc' := 59) rfl ?_
          refine wk_iconst F dX6_rank_59 ic_1 (pc' := 60) rfl ?_
          refine wk_icmp_ne (tgt := 72) F dX6_rank_60 (by decide) (pc' := 63) rfl (fun c4 => ?_) (fun c4 => ?_)
          · refine wk_iconst F dX6_rank_72 ic_0 (pc' := 73) rfl ?_
            refine wk_iadd F dX6_rank_73 (pc' := 74) rfl ?_
            refine wk_istore_n (lv' := [(2, .int (x2 + (0 : Int32))), (4, .int (0 : Int32)), (0, .ref (hs 0)), (1, .int p1), (3, .int (nI i))]) F dX6_rank_74 rfl (Nat.le_of_ble_eq_true rfl) rfl (pc' := 75) rfl ?_
            refine wk_iinc (k := 4) (v := nI (i + 1)) (lv' := [(3, .int (nI (i + 1))), (2, .int (x2 + (0 : Int32))), (4, .int (0 : Int32)), (0, .ref (hs 0)), (1, .int p1)]) F dX6_rank_75 rfl (nI_inc i) (Nat.le_of_ble_eq_true rfl) rfl (pc' := 78) rfl ?_
            refine wk_goto (tgt := 4) F dX6_rank_78 (by decide) ?_
            refine wk_lv [3, 4, 1, 0] rfl ?_
            exact ih (i + 1) (x2 + (0 : Int32)) (by omega) (fun y2_ h_ => kx y2_ (Eq.trans (by rw [f6_rank_L4] <;> exact (st_neg c1 (st_pos c3 (st_neg c4 rfl)))) h_))
          · refine wk_iload F dX6_rank_63 0 rfl (pc' := 65) rfl ?_
            refine wk_if_eq (tgt := 72) F dX6_rank_65 (by decide) (pc' := 68) rfl (fun _ => ?_) (fun c => absurd (by decide) c)
            refine wk_iconst F dX6_rank_72 ic_0 (pc' := 73) rfl ?_
            refine wk_iadd F dX6_rank_73 (pc' := 74) rfl ?_
            refine wk_istore_n (lv' := [(2, .int (x2 + (0 : Int32))), (4, .int (0 : Int32)), (0, .ref (hs 0)), (1, .int p1), (3, .int (nI i))]) F dX6_rank_74 rfl (Nat.le_of_ble_eq_true rfl) rfl (pc' := 75) rfl ?_
            refine wk_iinc (k := 4) (v := nI (i + 1)) (lv' := [(3, .int (nI (i + 1))), (2, .int (x2 + (0 : Int32))), (4, .int (0 : Int32)), (0, .ref (hs 0)), (1, .int p1)]) F dX6_rank_75 rfl (nI_inc i) (Nat.le_of_ble_eq_true rfl) rfl (pc' := 78) rfl ?_
            refine wk_goto (tgt := 4) F dX6_rank_78 (by decide) ?_
            refine wk_lv [3, 4, 1, 0] rfl ?_
            exact ih (i + 1) (x2 + (0 : Int32)) (by omega) (fun y2_ h_ => kx y2_ (Eq.trans (by rw [f6_rank_L4] <;> exact (st_neg c1 (st_pos c3 (st_pos c4 rfl)))) h_))
        · refine wk_aload_n F dX6_rank_30 rfl 0 rfl (pc' := 31) rfl ?_
          refine wk_iload_n F dX6_rank_31 rfl 3 rfl (pc' := 32) rfl ?_
          refine wk_iconst F dX6_rank_32 ic_2 (pc' := 33) rfl ?_
          refine wk_same_p F (c6_of l D cI cP hs σ (nI i) (2 : Int32) (vp_in_nI (n := i) (N := 8) (by omega) (Nat.le_of_ble_eq_true rfl)) (vp_in_nI (n := 2) (N := 47) (Nat.le_of_ble_eq_true rfl) (Nat.le_of_ble_eq_true rfl))) (cwV 2 F.hts gX6_rank_X6_of rfl rfl rfl hdX6_of ⟨Nat.le_of_ble_eq_true rfl, Nat.le_of_ble_eq_true rfl⟩) 0 6 rfl rfl rfl rfl (Nat.le_of_ble_eq_true rfl) dX6_rank_33 ⟨Nat.zero_le _, Nat.zero_le _⟩ (pc' := 36) rfl ?_
          refine wk_aload_n F dX6_rank_36 rfl 0 rfl (pc' := 37) rfl ?_
          refine wk_iload_n F dX6_rank_37 rfl 1 rfl (pc' := 38) rfl ?_
          refine wk_iconst F dX6_rank_38 ic_2 (pc' := 39) rfl ?_
          refine wk_same_p F (c6_of l D cI cP hs σ p1 (2 : Int32) hp_p1 (vp_in_nI (n := 2) (N := 47) (Nat.le_of_ble_eq_true rfl) (Nat.le_of_ble_eq_true rfl))) (cwV 2 F.hts gX6_rank_X6_of rfl rfl rfl hdX6_of ⟨Nat.le_of_ble_eq_true rfl, Nat.le_of_ble_eq_true rfl⟩) 0 6 rfl rfl rfl rfl (Nat.le_of_ble_eq_true rfl) dX6_rank_39 ⟨Nat.zero_le _, Nat.zero_le _⟩ (pc' := 42) rfl ?_
          refine wk_icmp_ne (tgt := 49) F dX6_rank_42 (by decide) (pc' := 45) rfl (fun c5 => ?_) (fun c5 => ?_)
          · refine wk_iconst F dX6_rank_49 ic_0 (pc' := 50) rfl ?_
            refine wk_istore (lv' := [(4, .int (0 : Int32)), (0, .ref (hs 0)), (1, .int p1), (2, .int x2), (3, .int (nI i))]) F dX6_rank_50 (Nat.le_of_ble_eq_true rfl) rfl (pc' := 52) rfl ?_
            refine wk_iload_n F dX6_rank_52 rfl 3 rfl (pc' := 53) rfl ?_
            refine wk_aload_n F dX6_rank_53 rfl 1 rfl (pc' := 54) rfl ?_
            refine wk_iload_n F dX6_rank_54 rfl 4 rfl (pc' := 55) rfl ?_
            refine wk_iconst F dX6_rank_55 ic_0 (pc' := 56) rfl ?_
            refine wk_same_p F (c6_of l D cI cP hs σ (nI i) (0 : Int32) (vp_in_nI (n := i) (N := 8) (by omega) (Nat.le_of_ble_eq_true rfl)) (vp_in_nI (n := 0) (N := 47) (Nat.le_of_ble_eq_true rfl) (Nat.le_of_ble_eq_true rfl))) (cwV 2 F.hts gX6_rank_X6_of rfl rfl rfl hdX6_of ⟨Nat.le_of_ble_eq_true rfl, Nat.le_of_ble_eq_true rfl⟩) 0 6 rfl rfl rfl rfl (Nat.le_of_ble_eq_true rfl) dX6_rank_56 ⟨Nat.zero_le _, Nat.zero_le _⟩ (pc' := 59) rfl ?_
            refine wk_iconst F dX6_rank_59 ic_1 (pc' := 60) rfl ?_
            refine wk_icmp_ne (tgt := 72) F dX6_rank_60 (by decide) (pc' := 63) rfl (fun c6 => ?_) (fun c6 => ?_)
            · refine wk_iconst F dX6_rank_72 ic_0 (pc' := 73) rfl ?_
              refine wk_iadd F dX6_rank_73 (pc' := 74) rfl ?_
              refine wk_istore_n (lv' := [(2, .int (x2 + (0 : Int32))), (4, .int (0 : Int32)), (0, .ref (hs 0)), (1, .int p1), (3, .int (nI i))]) F dX6_rank_74 rfl (Nat.le_of_ble_eq_true rfl) rfl (pc' := 75) rfl ?_
              refine wk_iinc (k := 4) (v := nI (i + 1)) (lv' := [(3, .int (nI (i + 1))), (2, .int (x2 + (0 : Int32))), (4, .int (0 : Int32)), (0, .ref (hs 0)), (1, .int p1)]) F dX6_rank_75 rfl (nI_inc i) (Nat.le_of_ble_eq_true rfl) rfl (pc' := 78) rfl ?_
              refine wk_goto (tgt := 4) F dX6_rank_78 (by decide) ?_
              refine wk_lv [3, 4, 1, 0] rfl ?_
              exact ih (i + 1) (x2 + (0 : Int32)) (by omega) (fun y2_ h_ => kx y2_ (Eq.trans (by rw [f6_rank_L4] <;> exact (st_neg c1 (st_neg c3 (st_neg c5 (st_neg c6 rfl))))) h_))
            · refine wk_iload F dX6_rank_63 0 rfl (pc' := 65) rfl ?_
              refine wk_if_eq (tgt := 72) F dX6_rank_65 (by decide) (pc' := 68) rfl (fun _ => ?_) (fun c => absurd (by decide) c)
              refine wk_iconst F dX6_rank_72 ic_0 (pc' := 73) rfl ?_
              refine wk_iadd F dX6_rank_73 (pc' := 74) rfl ?_
              refine wk_istore_n (lv' := [(2, .int (x2 + (0 : Int32))), (4, .int (0 : Int32)), (0, .ref (hs 0)), (1, .int p1), (3, .int (nI i))]) F dX6_rank_74 rfl (Nat.le_of_ble_eq_true rfl) rfl (pc' := 75) rfl ?_
              refine wk_iinc (k := 4) (v := nI (i + 1)) (lv' := [(3, .int (nI (i + 1))), (2, .int (x2 + (0 : Int32))), (4, .int (0 : Int32)), (0, .ref (hs 0)), (1, .int p1)]) F dX6_rank_75 rfl (nI_inc i) (Nat.le_of_ble_eq_true rfl) rfl (pc' := 78) rfl ?_
              refine wk_goto (tgt := 4) F dX6_rank_78 (by decide) ?_
              refine wk_lv [3, 4, 1, 0] rfl ?_
              exact ih (i + 1) (x2 + (0 : Int32)) (by omega) (fun y2_ h_ => kx y2_ (Eq.trans (by rw [f6_rank_L4] <;> exact (st_neg c1 (st_neg c3 (st_neg c5 (st_pos c6 rfl))))) h_))
          · refine wk_iconst F dX6_rank_45 ic_1 (pc' := 46) rfl ?_
            refine wk_goto (tgt := 50) F dX6_rank_46 (by decide) ?_
            refine wk_istore (lv' := [(4, .int (1 : Int32)), (0, .ref (hs 0)), (1, .int p1), (2, .int x2), (3, .int (nI i))]) F dX6_rank_50 (Nat.le_of_ble_eq_true rfl) rfl (pc' := 52) rfl ?_
            refine wk_iload_n F dX6_rank_52 rfl 3 rfl (pc' := 53) rfl ?_
            refine wk_aload_n F dX6_rank_53 rfl 1 rfl (pc' := 54) rfl ?_
            refine wk_iload_n F dX6_rank_54 rfl 4 rfl (pc' := 55) rfl ?_
            refine wk_iconst F dX6_rank_55 ic_0 (pc' := 56) rfl ?_
            refine wk_same_p F (c6_of l D cI cP hs σ (nI i) (0 : Int32) (vp_in_nI (n := i) (N := 8) (by omega) (Nat.le_of_ble_eq_true rfl)) (vp_in_nI (n := 0) (N := 47) (Nat.le_of_ble_eq_true rfl) (Nat.le_of_ble_eq_true rfl))) (cwV 2 F.hts gX6_rank_X6_of rfl rfl rfl hdX6_of ⟨Nat.le_of_ble_eq_true rfl, Nat.le_of_ble_eq_true rfl⟩) 0 6 rfl rfl rfl rfl (Nat.le_of_ble_eq_true rfl) dX6_rank_56 ⟨Nat.zero_le _, Nat.zero_le _⟩ (pc' := 59) rfl ?_
            refine wk_iconst F dX6_rank_59 ic_1 (pc' := 60) rfl ?_
            refine wk_icmp_ne (tgt := 72) F dX6_rank_60 (by decide) (pc' := 63) rfl (fun c7 => ?_) (fun c7 => ?_)
            · refine wk_iconst F dX6_rank_72 ic_0 (pc' := 73) rfl ?_
              refine wk_iadd F dX6_rank_73 (pc' := 74) rfl ?_
              refine wk_istore_n (lv' := [(2, .int (x2 + (0 : Int32))), (4, .int (1 : Int32)), (0, .ref (hs 0)), (1, .int p1), (3, .int (nI i))]) F dX6_rank_74 rfl (Nat.le_of_ble_eq_true rfl) rfl (pc' := 75) rfl ?_
              refine wk_iinc (k := 4) (v := nI (i + 1)) (lv' := [(3, .int (nI (i + 1))), (2, .int (x2 + (0 : Int32))), (4, .int (1 : Int32)), (0, .ref (hs 0)), (1, .int p1)]) F dX6_rank_75 rfl (nI_inc i) (Nat.le_of_ble_eq_true rfl) rfl (pc' := 78) rfl ?_
              refine wk_goto (tgt := 4) F dX6_rank_78 (by decide) ?_
              refine wk_lv [3, 4, 1, 0] rfl ?_
              exact ih (i + 1) (x2 + (0 : Int32)) (by omega) (fun y2_ h_ => kx y2_ (Eq.trans (by rw [f6_rank_L4] <;> exact (st_neg c1 (st_neg c3 (st_pos c5 (st_neg c7 rfl))))) h_))
            · refine wk_iload F dX6_rank_63 0 rfl (pc' := 65) rfl ?_
              refine wk_if_eq (tgt := 72) F dX6_rank_65 (by decide) (pc' := 68) rfl (fun c => absurd c (by decide)) (fun _ => ?_)
              refine wk_iconst F dX6_rank_68 ic_1 (pc' := 69) rfl ?_
              refine wk_goto (tgt := 73) F dX6_rank_69 (by decide) ?_
              refine wk_iadd F dX6_rank_73 (pc' := 74) rfl ?_
              refine wk_istore_n (lv' := [(2, .int (x2 + (1 : Int32))), (4, .int (1 : Int32)), (0, .ref (hs 0)), (1, .int p1), (3, .int (nI i))]) F dX6_rank_74 rfl (Nat.le_of_ble_eq_true rfl) rfl (pc' := 75) rfl ?_
              refine wk_iinc (k := 4) (v := nI (i + 1)) (lv' := [(3, .int (nI (i + 1))), (2, .int (x2 + (1 : Int32))), (4, .int (1 : Int32)), (0, .ref (hs 0)), (1, .int p1)]) F dX6_rank_75 rfl (nI_inc i) (Nat.le_of_ble_eq_true rfl) rfl (pc' := 78) rfl ?_
              refine wk_goto (tgt := 4) F dX6_rank_78 (by decide) ?_
              refine wk_lv [3, 4, 1, 0] rfl ?_
              exact ih (i + 1) (x2 + (1 : Int32)) (by omega) (fun y2_ h_ => kx y2_ (Eq.trans (by rw [f6_rank_L4] <;> exact (st_neg c1 (st_neg c3 (st_pos c5 (st_pos c7 rfl))))) h_))
  refine wk_iconst F dX6_rank_0 ic_0 (pc' := 1) rfl ?_
  refine wk_istore_n (lv' := [(2, .int (0 : Int32)), (0, .ref (hs 0)), (1, .int p1)]) F dX6_rank_1 rfl (Nat.le_of_ble_eq_true rfl) rfl (pc' := 2) rfl ?_
  refine wk_iconst F dX6_rank_2 ic_0 (pc' := 3) rfl ?_
  refine wk_istore_n (lv' := [(3, .int (0 : Int32)), (2, .int (0 : Int32)), (0, .ref (hs 0)), (1, .int p1)]) F dX6_rank_3 rfl (Nat.le_of_ble_eq_true rfl) rfl (pc' := 4) rfl ?_
  refine wk_lv [2, 3, 1, 0] rfl ?_
  refine L4 8 0 (0 : Int32) (by omega) (fun y9 h8 => ?_)
  refine wk_iload_n F dX6_rank_81 rfl 0 rfl (pc' := 82) rfl ?_
  exact hret _ _ _ dX6_rank_82 rfl (Eq.symm (by rw [f6_rank] <;> exact (st_let h8 rfl)))
def f6_clones_L4 (σ : PS) (p1 : Int32) : Nat → Nat → Int32 → Int32
  | 0, i, x2 => x2
  | n + 1, i, x2 => (if (f6_of σ (nI i) (0 : Int32)) = (1 : Int32) then (if (f6_of σ (nI i) (4 : Int32)) = p1 then f6_clones_L4 σ p1 n (i + 1) (x2 ||| ((1 : Int32) <<< ((nI i) &&& 31))) else f6_clones_L4 σ p1 n (i + 1) (x2 ||| (0 : Int32))) else f6_clones_L4 σ p1 n (i + 1) (x2 ||| (0 : Int32)))
def f6_clones (σ : PS) (p1 : Int32) : Int32 := (sq (f6_clones_L4 σ p1 8 0 (0 : Int32)) (fun (y4 : Int32) => y4))
set_option maxHeartbeats 4000000 in
set_option maxRecDepth 100000 in
theorem c6_clones (l : Launch) (D : va_G) (cI cP : ClassId) (hs : Nat → Nat) (σ : PS) (p1 : Int32) : CP l yX6_clones wsX6_clones ({ frames := 1, cells := 0, slots := 0, locals := 22 } : Room) D (cty cI cP) (wMod cI hs) σ [.ref (hs 0), .int p1] (f6_clones σ p1) := by
  refine CP.of (cc := cX6_clones) (maxL := 4) (rt := .int) (own := RX6) (lv0 := [(0, .ref (hs 0)), (1, .int p1)]) pnX6 rfl rfl (Nat.le_of_ble_eq_true rfl) rfl (fun p e s m args below meth c A Q F hret => ?_)
  have L4 : ∀ (n : Nat) (i : Nat) (x2 : Int32), i + n = 8 → (∀ (y2 : Int32), f6_clones_L4 σ p1 n i x2 = y2 → Wk p l e ({ frames := 1, cells := 0, slots := 0, locals := 22 } : Room) s m args below meth c 4 D A 0 0 Q (wMod cI hs σ) [(2, .int y2)] 46 []) → Wk p l e ({ frames := 1, cells := 0, slots := 0, locals := 22 } : Room) s m args below meth c 4 D A 0 0 Q (wMod cI hs σ) [(0, .ref (hs 0)), (1, .int p1), (2, .int x2), (3, .int (nI i))] 4 [] := by
    intro n
    induction n with
    | zero =>
      intro i x2 hi kx
      refine wk_iload_n F dX6_clones_4 rfl 3 rfl (pc' := 5) rfl ?_
      refine wk_bipush F dX6_clones_5 bp_8 (pc' := 7) rfl ?_
      refine wk_icmp_ge (tgt := 46) F dX6_clones_7 (by decide) (pc' := 10) rfl (fun _ => ?_) (fun c => absurd ((nI_leI (a := 8) (b := i) (by omega) (by omega)).mpr (by omega)) c)
      refine wk_lv [2] rfl ?_
      exact kx x2 (by rw [f6_clones_L4] <;> exact rfl)
    | succ n ih =>
      intro i x2 hi kx
      refine wk_iload_n F dX6_clones_4 rfl 3 rfl (pc' := 5) rfl ?_
      refine wk_bipush F dX6_clones_5 bp_8 (pc' := 7) rfl ?_
      refine wk_icmp_ge (tgt := 46) F dX6_clones_7 (by decide) (pc' := 10) rfl (fun c => absurd ((nI_leI (a := 8) (b := i) (by omega) (by omega)).mp c) (by omega)) (fun _ => ?_)
      refine wk_iload_n F dX6_clones_10 rfl 2 rfl (pc' := 11) rfl ?_
      refine wk_aload_n F dX6_clones_11 rfl 0 rfl (pc' := 12) rfl ?_
      refine wk_iload_n F dX6_clones_12 rfl 3 rfl (pc' := 13) rfl ?_
      refine wk_iconst F dX6_clones_13 ic_0 (pc' := 14) rfl ?_
      refine wk_same_p F (c6_of l D cI cP hs σ (nI i) (0 : Int32) (vp_in_nI (n := i) (N := 8) (by omega) (Nat.le_of_ble_eq_true rfl)) (vp_in_nI (n := 0) (N := 47) (Nat.le_of_ble_eq_true rfl) (Nat.le_of_ble_eq_true rfl))) (cwV 2 F.hts gX6_clones_X6_of rfl rfl rfl hdX6_of ⟨Nat.le_of_ble_eq_true rfl, Nat.le_of_ble_eq_true rfl⟩) 0 6 rfl rfl rfl rfl (Nat.le_of_ble_eq_true rfl) dX6_clones_14 ⟨Nat.zero_le _, Nat.zero_le _⟩ (pc' := 17) rfl ?_
      refine wk_iconst F dX6_clones_17 ic_1 (pc' := 18) rfl ?_
      refine wk_icmp_ne (tgt := 37) F dX6_clones_18 (by decide) (pc' := 21) rfl (fun c1 => ?_) (fun c1 => ?_)
      · refine wk_iconst F dX6_clones_37 ic_0 (pc' := 38) rfl ?_
        refine wk_ior F dX6_clones_38 (pc' := 39) rfl ?_
        refine wk_istore_n (lv' := [(2, .int (x2 ||| (0 : Int32))), (0, .ref (hs 0)), (1, .int p1), (3, .int (nI i))]) F dX6_clones_39 rfl (Nat.le_of_ble_eq_true rfl) rfl (pc' := 40) rfl ?_
        refine wk_iinc (k := 3) (v := nI (i + 1)) (lv' := [(3, .int (nI (i + 1))), (2, .int (x2 ||| (0 : Int32))), (0, .ref (hs 0)), (1, .int p1)]) F dX6_clones_40 rfl (nI_inc i) (Nat.le_of_ble_eq_true rfl) rfl (pc' := 43) rfl ?_
        refine wk_goto (tgt := 4) F dX6_clones_43 (by decide) ?_
        refine wk_lv [2, 3, 1, 0] rfl ?_
        exact ih (i + 1) (x2 ||| (0 : Int32)) (by omega) (fun y2_ h_ => kx y2_ (Eq.trans (by rw [f6_clones_L4] <;> exact (st_neg c1 rfl)) h_))
      · refine wk_aload_n F dX6_clones_21 rfl 0 rfl (pc' := 22) rfl ?_
        refine wk_iload_n F dX6_clones_22 rfl 3 rfl (pc' := 23) rfl ?_
        refine wk_iconst F dX6_clones_23 ic_4 (pc' := 24) rfl ?_
        refine wk_same_p F (c6_of l D cI cP hs σ (nI i) (4 : Int32) (vp_in_nI (n := i) (N := 8) (by omega) (Nat.le_of_ble_eq_true rfl)) (vp_in_nI (n := 4) (N := 47) (Nat.le_of_ble_eq_true rfl) (Nat.le_of_ble_eq_true rfl))) (cwV 2 F.hts gX6_clones_X6_of rfl rfl rfl hdX6_of ⟨Nat.le_of_ble_eq_true rfl, Nat.le_of_ble_eq_true rfl⟩) 0 6 rfl rfl rfl rfl (Nat.le_of_ble_eq_true rfl) dX6_clones_24 ⟨Nat.zero_le _, Nat.zero_le _⟩ (pc' := 27) rfl ?_
        refine wk_iload_n F dX6_clones_27 rfl 1 rfl (pc' := 28) rfl ?_
        refine wk_icmp_ne (tgt := 37) F dX6_clones_28 (by decide) (pc' := 31) rfl (fun c2 => ?_) (fun c2 => ?_)
        · refine wk_iconst F dX6_clones_37 ic_0 (pc' := 38) rfl ?_
          refine wk_ior F dX6_clones_38 (pc' := 39) rfl ?_
          refine wk_istore_n (lv' := [(2, .int (x2 ||| (0 : Int32))), (0, .ref (hs 0)), (1, .int p1), (3, .int (nI i))]) F dX6_clones_39 rfl (Nat.le_of_ble_eq_true rfl) rfl (pc' := 40) rfl ?_
          refine wk_iinc (k := 3) (v := nI (i + 1)) (lv' := [(3, .int (nI (i + 1))), (2, .int (x2 ||| (0 : Int32))), (0, .ref (hs 0)), (1, .int p1)]) F dX6_clones_40 rfl (nI_inc i) (Nat.le_of_ble_eq_true rfl) rfl (pc' := 43) rfl ?_
          refine wk_goto (tgt := 4) F dX6_clones_43 (by decide) ?_
          refine wk_lv [2, 3, 1, 0] rfl ?_
          exact ih (i + 1) (x2 ||| (0 : Int32)) (by omega) (fun y2_ h_ => kx y2_ (Eq.trans (by rw [f6_clones_L4] <;> exact (st_pos c1 (st_neg c2 rfl))) h_))
        · refine wk_iconst F dX6_clones_31 ic_1 (pc' := 32) rfl ?_
          refine wk_iload_n F dX6_clones_32 rfl 3 rfl (pc' := 33) rfl ?_
          refine wk_ishl F dX6_clones_33 (pc' := 34) rfl ?_
          refine wk_goto (tgt := 38) F dX6_clones_34 (by decide) ?_
          refine wk_ior F dX6_clones_38 (pc' := 39) rfl ?_
          refine wk_istore_n (lv' := [(2, .int (x2 ||| ((1 : Int32) <<< ((nI i) &&& 31)))), (0, .ref (hs 0)), (1, .int p1), (3, .int (nI i))]) F dX6_clones_39 rfl (Nat.le_of_ble_eq_true rfl) rfl (pc' := 40) rfl ?_
          refine wk_iinc (k := 3) (v := nI (i + 1)) (lv' := [(3, .int (nI (i + 1))), (2, .int (x2 ||| ((1 : Int32) <<< ((nI i) &&& 31)))), (0, .ref (hs 0)), (1, .int p1)]) F dX6_clones_40 rfl (nI_inc i) (Nat.le_of_ble_eq_true rfl) rfl (pc' := 43) rfl ?_
          refine wk_goto (tgt := 4) F dX6_clones_43 (by decide) ?_
          refine wk_lv [2, 3, 1, 0] rfl ?_
          exact ih (i + 1) (x2 ||| ((1 : Int32) <<< ((nI i) &&& 31))) (by omega) (fun y2_ h_ => kx y2_ (Eq.trans (by rw [f6_clones_L4] <;> exact (st_pos c1 (st_pos c2 rfl))) h_))
  refine wk_iconst F dX6_clones_0 ic_0 (pc' := 1) rfl ?_
  refine wk_istore_n (lv' := [(2, .int (0 : Int32)), (0, .ref (hs 0)), (1, .int p1)]) F dX6_clones_1 rfl (Nat.le_of_ble_eq_true rfl) rfl (pc' := 2) rfl ?_
  refine wk_iconst F dX6_clones_2 ic_0 (pc' := 3) rfl ?_
  refine wk_istore_n (lv' := [(3, .int (0 : Int32)), (2, .int (0 : Int32)), (0, .ref (hs 0)), (1, .int p1)]) F dX6_clones_3 rfl (Nat.le_of_ble_eq_true rfl) rfl (pc' := 4) rfl ?_
  refine wk_lv [2, 3, 1, 0] rfl ?_
  refine L4 8 0 (0 : Int32) (by omega) (fun y4 h3 => ?_)
  refine wk_iload_n F dX6_clones_46 rfl 0 rfl (pc' := 47) rfl ?_
  exact hret _ _ _ dX6_clones_47 rfl (Eq.symm (by rw [f6_clones] <;> exact (st_let h3 rfl)))
def f6_volumesOf_L4 (σ : PS) (p1 : Int32) : Nat → Nat → Int32 → Int32
  | 0, i, x2 => x2
  | n + 1, i, x2 => (if (f6_ownersIn σ (nI i) p1) ≤ 0 then f6_volumesOf_L4 σ p1 n (i + 1) (x2 ||| (0 : Int32)) else f6_volumesOf_L4 σ p1 n (i + 1) (x2 ||| ((1 : Int32) <<< ((nI i) &&& 31))))
def f6_volumesOf (σ : PS) (p1 : Int32) : Int32 := (sq (f6_volumesOf_L4 σ p1 8 0 (0 : Int32)) (fun (y3 : Int32) => y3))
set_option maxHeartbeats 4000000 in
set_option maxRecDepth 100000 in
theorem c6_volumesOf (l : Launch) (D : va_G) (cI cP : ClassId) (hs : Nat → Nat) (σ : PS) (p1 : Int32) (hs_okL : okL σ) : CP l yX6_volumesOf wsX6_volumesOf ({ frames := 3, cells := 0, slots := 0, locals := 68 } : Room) D (cty cI cP) (wMod cI hs) σ [.ref (hs 0), .int p1] (f6_volumesOf σ p1) := by
  refine CP.of (cc := cX6_volumesOf) (maxL := 4) (rt := .int) (own := RX6) (lv0 := [(0, .ref (hs 0)), (1, .int p1)]) pnX6 rfl rfl (Nat.le_of_ble_eq_true rfl) rfl (fun p e s m args below meth c A Q F hret => ?_)
  have L4 : ∀ (n : Nat) (i : Nat) (x2 : Int32), i + n = 8 → (∀ (y2 : Int32), f6_volumesOf_L4 σ p1 n i x2 = y2 → Wk p l e ({ frames := 3, cells := 0, slots := 0, locals := 68 } : Room) s m args below meth c 4 D A 0 0 Q (wMod cI hs σ) [(2, .int y2)] 35 []) → Wk p l e ({ frames := 3, cells := 0, slots := 0, locals := 68 } : Room) s m args below meth c 4 D A 0 0 Q (wMod cI hs σ) [(0, .ref (hs 0)), (1, .int p1), (2, .int x2), (3, .int (nI i))] 4 [] := by
    intro n
    induction n with
    | zero =>
      intro i x2 hi kx
      refine wk_iload_n F dX6_volumesOf_4 rfl 3 rfl (pc' := 5) rfl ?_
      refine wk_bipush F dX6_volumesOf_5 bp_8 (pc' := 7) rfl ?_
      refine wk_icmp_ge (tgt := 35) F dX6_volumesOf_7 (by decide) (pc' := 10) rfl (fun _ => ?_) (fun c => absurd ((nI_leI (a := 8) (b := i) (by omega) (by omega)).mpr (by omega)) c)
      refine wk_lv [2] rfl ?_
      exact kx x2 (by rw [f6_volumesOf_L4] <;> exact rfl)
    | succ n ih =>
      intro i x2 hi kx
      refine wk_iload_n F dX6_volumesOf_4 rfl 3 rfl (pc' := 5) rfl ?_
      refine wk_bipush F dX6_volumesOf_5 bp_8 (pc' := 7) rfl ?_
      refine wk_icmp_ge (tgt := 35) F dX6_volumesOf_7 (by decide) (pc' := 10) rfl (fun c => absurd ((nI_leI (a := 8) (b := i) (by omega) (by omega)).mp c) (by omega)) (fun _ => ?_)
      refine wk_iload_n F dX6_volumesOf_10 rfl 2 rfl (pc' := 11) rfl ?_
      refine wk_aload_n F dX6_volumesOf_11 rfl 0 rfl (pc' := 12) rfl ?_
      refine wk_iload_n F dX6_volumesOf_12 rfl 3 rfl (pc' := 13) rfl ?_
      refine wk_iload_n F dX6_volumesOf_13 rfl 1 rfl (pc' := 14) rfl ?_
      refine wk_same_p F (c6_ownersIn l D cI cP hs σ (nI i) p1 (vp_in_nI (n := i) (N := 8) (by omega) (Nat.le_of_ble_eq_true rfl)) hs_okL) (cwV 2 F.hts gX6_volumesOf_X6_ownersIn rfl rfl rfl hdX6_ownersIn ⟨Nat.le_of_ble_eq_true rfl, Nat.le_of_ble_eq_true rfl⟩) 0 6 rfl rfl rfl rfl (Nat.le_of_ble_eq_true rfl) dX6_volumesOf_14 ⟨Nat.zero_le _, Nat.zero_le _⟩ (pc' := 17) rfl ?_
      refine wk_if_le (tgt := 26) F dX6_volumesOf_17 (by decide) (pc' := 20) rfl (fun c1 => ?_) (fun c1 => ?_)
      · refine wk_iconst F dX6_volumesOf_26 ic_0 (pc' := 27) rfl ?_
        refine wk_ior F dX6_volumesOf_27 (pc' := 28) rfl ?_
        refine wk_istore_n (lv' := [(2, .int (x2 ||| (0 : Int32))), (0, .ref (hs 0)), (1, .int p1), (3, .int (nI i))]) F dX6_volumesOf_28 rfl (Nat.le_of_ble_eq_true rfl) rfl (pc' := 29) rfl ?_
        refine wk_iinc (k := 3) (v := nI (i + 1)) (lv' := [(3, .int (nI (i + 1))), (2, .int (x2 ||| (0 : Int32))), (0, .ref (hs 0)), (1, .int p1)]) F dX6_volumesOf_29 rfl (nI_inc i) (Nat.le_of_ble_eq_true rfl) rfl (pc' := 32) rfl ?_
        refine wk_goto (tgt := 4) F dX6_volumesOf_32 (by decide) ?_
        refine wk_lv [2, 3, 1, 0] rfl ?_
        exact ih (i + 1) (x2 ||| (0 : Int32)) (by omega) (fun y2_ h_ => kx y2_ (Eq.trans (by rw [f6_volumesOf_L4] <;> exact (st_pos c1 rfl)) h_))
      · refine wk_iconst F dX6_volumesOf_20 ic_1 (pc' := 21) rfl ?_
        refine wk_iload_n F dX6_volumesOf_21 rfl 3 rfl (pc' := 22) rfl ?_
        refine wk_ishl F dX6_volumesOf_22 (pc' := 23) rfl ?_
        refine wk_goto (tgt := 27) F dX6_volumesOf_23 (by decide) ?_
        refine wk_ior F dX6_volumesOf_27 (pc' := 28) rfl ?_
        refine wk_istore_n (lv' := [(2, .int (x2 ||| ((1 : Int32) <<< ((nI i) &&& 31)))), (0, .ref (hs 0)), (1, .int p1), (3, .int (nI i))]) F dX6_volumesOf_28 rfl (Nat.le_of_ble_eq_true rfl) rfl (pc' := 29) rfl ?_
        refine wk_iinc (k := 3) (v := nI (i + 1)) (lv' := [(3, .int (nI (i + 1))), (2, .int (x2 ||| ((1 : Int32) <<< ((nI i) &&& 31)))), (0, .ref (hs 0)), (1, .int p1)]) F dX6_volumesOf_29 rfl (nI_inc i) (Nat.le_of_ble_eq_true rfl) rfl (pc' := 32) rfl ?_
        refine wk_goto (tgt := 4) F dX6_volumesOf_32 (by decide) ?_
        refine wk_lv [2, 3, 1, 0] rfl ?_
        exact ih (i + 1) (x2 ||| ((1 : Int32) <<< ((nI i) &&& 31))) (by omega) (fun y2_ h_ => kx y2_ (Eq.trans (by rw [f6_volumesOf_L4] <;> exact (st_neg c1 rfl)) h_))
  refine wk_iconst F dX6_volumesOf_0 ic_0 (pc' := 1) rfl ?_
  refine wk_istore_n (lv' := [(2, .int (0 : Int32)), (0, .ref (hs 0)), (1, .int p1)]) F dX6_volumesOf_1 rfl (Nat.le_of_ble_eq_true rfl) rfl (pc' := 2) rfl ?_
  refine wk_iconst F dX6_volumesOf_2 ic_0 (pc' := 3) rfl ?_
  refine wk_istore_n (lv' := [(3, .int (0 : Int32)), (2, .int (0 : Int32)), (0, .ref (hs 0)), (1, .int p1)]) F dX6_volumesOf_3 rfl (Nat.le_of_ble_eq_true rfl) rfl (pc' := 4) rfl ?_
  refine wk_lv [2, 3, 1, 0] rfl ?_
  refine L4 8 0 (0 : Int32) (by omega) (fun y3 h2 => ?_)
  refine wk_iload_n F dX6_volumesOf_35 rfl 0 rfl (pc' := 36) rfl ?_
  exact hret _ _ _ dX6_volumesOf_36 rfl (Eq.symm (by rw [f6_volumesOf] <;> exact (st_let h2 rfl)))
def f6_ownedBy_L4 (σ : PS) (p1 : Int32) : Nat → Nat → Int32 → Int32
  | 0, i, x2 => x2
  | n + 1, i, x2 => (if (f6_volumesOf σ (nI i)) = 0 then f6_ownedBy_L4 σ p1 n (i + 1) (x2 + (0 : Int32)) else (if ((f6_volumesOf σ (nI i)) &&& (p1 ^^^ (-1 : Int32))) = 0 then f6_ownedBy_L4 σ p1 n (i + 1) (x2 + (1 : Int32)) else f6_ownedBy_L4 σ p1 n (i + 1) (x2 + (0 : Int32))))
def f6_ownedBy (σ : PS) (p1 : Int32) : Int32 := (sq (f6_ownedBy_L4 σ p1 30 0 (0 : Int32)) (fun (y4 : Int32) => y4))
set_option maxHeartbeats 4000000 in
set_option maxRecDepth 100000 in
theorem c6_ownedBy (l : Launch) (D : va_G) (cI cP : ClassId) (hs : Nat → Nat) (σ : PS) (p1 : Int32) (hs_okL : okL σ) : CP l yX6_ownedBy wsX6_ownedBy ({ frames := 4, cells := 0, slots := 0, locals := 91 } : Room) D (cty cI cP) (wMod cI hs) σ [.ref (hs 0), .int p1] (f6_ownedBy σ p1) := by
  refine CP.of (cc := cX6_ownedBy) (maxL := 5) (rt := .int) (own := RX6) (lv0 := [(0, .ref (hs 0)), (1, .int p1)]) pnX6 rfl rfl (Nat.le_of_ble_eq_true rfl) rfl (fun p e s m args below meth c A Q F hret => ?_)
  have L4 : ∀ (n : Nat) (i : Nat) (x2 : Int32), i + n = 30 → (∀ (y2 : Int32), f6_ownedBy_L4 σ p1 n i x2 = y2 → Wk p l e ({ frames := 4, cells := 0, slots := 0, locals := 91 } : Room) s m args below meth c 5 D A 0 0 Q (wMod cI hs σ) [(2, .int y2)] 45 []) → Wk p l e ({ frames := 4, cells := 0, slots := 0, locals := 91 } : Room) s m args below meth c 5 D A 0 0 Q (wMod cI hs σ) [(0, .ref (hs 0)), (1, .int p1), (2, .int x2), (3, .int (nI i))] 4 [] := by
    intro n
    induction n with
    | zero =>
      intro i x2 hi kx
      refine wk_iload_n F dX6_ownedBy_4 rfl 3 rfl (pc' := 5) rfl ?_
      refine wk_bipush F dX6_ownedBy_5 bp_30 (pc' := 7) rfl ?_
      refine wk_icmp_ge (tgt := 45) F dX6_ownedBy_7 (by decide) (pc' := 10) rfl (fun _ => ?_) (fun c => absurd ((nI_leI (a := 30) (b := i) (by omega) (by omega)).mpr (by omega)) c)
      refine wk_lv [2] rfl ?_
      exact kx x2 (by rw [f6_ownedBy_L4] <;> exact rfl)
    | succ n ih =>
      intro i x2 hi kx
      refine wk_iload_n F dX6_ownedBy_4 rfl 3 rfl (pc' := 5) rfl ?_
      refine wk_bipush F dX6_ownedBy_5 bp_30 (pc' := 7) rfl ?_
      refine wk_icmp_ge (tgt := 45) F dX6_ownedBy_7 (by decide) (pc' := 10) rfl (fun c => absurd ((nI_leI (a := 30) (b := i) (by omega) (by omega)).mp c) (by omega)) (fun _ => ?_)
      refine wk_aload_n F dX6_ownedBy_10 rfl 0 rfl (pc' := 11) rfl ?_
      refine wk_iload_n F dX6_ownedBy_11 rfl 3 rfl (pc' := 12) rfl ?_
      refine wk_same_p F (c6_volumesOf l D cI cP hs σ (nI i) hs_okL) (cwV 1 F.hts gX6_ownedBy_X6_volumesOf rfl rfl rfl hdX6_volumesOf ⟨Nat.le_of_ble_eq_true rfl, Nat.le_of_ble_eq_true rfl⟩) 0 6 rfl rfl rfl rfl (Nat.le_of_ble_eq_true rfl) dX6_ownedBy_12 ⟨Nat.zero_le _, Nat.zero_le _⟩ (pc' := 15) rfl ?_
      refine wk_istore (lv' := [(4, .int (f6_volumesOf σ (nI i))), (0, .ref (hs 0)), (1, .int p1), (2, .int x2), (3, .int (nI i))]) F dX6_ownedBy_15 (Nat.le_of_ble_eq_true rfl) rfl (pc' := 17) rfl ?_
      refine wk_iload_n F dX6_ownedBy_17 rfl 3 rfl (pc' := 18) rfl ?_
      refine wk_iload F dX6_ownedBy_18 0 rfl (pc' := 20) rfl ?_
      refine wk_if_eq (tgt := 36) F dX6_ownedBy_20 (by decide) (pc' := 23) rfl (fun c1 => ?_) (fun c1 => ?_)
      · refine wk_iconst F dX6_ownedBy_36 ic_0 (pc' := 37) rfl ?_
        refine wk_iadd F dX6_ownedBy_37 (pc' := 38) rfl ?_
        refine wk_istore_n (lv' := [(2, .int (x2 + (0 : Int32))), (4, .int (f6_volumesOf σ (nI i))), (0, .ref (hs 0)), (1, .int p1), (3, .int (nI i))]) F dX6_ownedBy_38 rfl (Nat.le_of_ble_eq_true rfl) rfl (pc' := 39) rfl ?_
        refine wk_iinc (k := 4) (v := nI (i + 1)) (lv' := [(3, .int (nI (i + 1))), (2, .int (x2 + (0 : Int32))), (4, .int (f6_volumesOf σ (nI i))), (0, .ref (hs 0)), (1, .int p1)]) F dX6_ownedBy_39 rfl (nI_inc i) (Nat.le_of_ble_eq_true rfl) rfl (pc' := 42) rfl ?_
        refine wk_goto (tgt := 4) F dX6_ownedBy_42 (by decide) ?_
        refine wk_lv [3, 4, 1, 0] rfl ?_
        exact ih (i + 1) (x2 + (0 : Int32)) (by omega) (fun y2_ h_ => kx y2_ (Eq.trans (by rw [f6_ownedBy_L4] <;> exact (st_pos c1 rfl)) h_))
      · refine wk_iload F dX6_ownedBy_23 0 rfl (pc' := 25) rfl ?_
        refine wk_iload_n F dX6_ownedBy_25 rfl 2 rfl (pc' := 26) rfl ?_
        refine wk_iconst F dX6_ownedBy_26 ic_m1 (pc' := 27) rfl ?_
        refine wk_ixor F dX6_ownedBy_27 (pc' := 28) rfl ?_
        refine wk_iand F dX6_ownedBy_28 (pc' := 29) rfl ?_
        refine wk_if_ne (tgt := 36) F dX6_ownedBy_29 (by decide) (pc' := 32) rfl (fun c2 => ?_) (fun c2 => ?_)
        · refine wk_iconst F dX6_ownedBy_36 ic_0 (pc' := 37) rfl ?_
          refine wk_iadd F dX6_ownedBy_37 (pc' := 38) rfl ?_
          refine wk_istore_n (lv' := [(2, .int (x2 + (0 : Int32))), (4, .int (f6_volumesOf σ (nI i))), (0, .ref (hs 0)), (1, .int p1), (3, .int (nI i))]) F dX6_ownedBy_38 rfl (Nat.le_of_ble_eq_true rfl) rfl (pc' := 39) rfl ?_
          refine wk_iinc (k := 4) (v := nI (i + 1)) (lv' := [(3, .int (nI (i + 1))), (2, .int (x2 + (0 : Int32))), (4, .int (f6_volumesOf σ (nI i))), (0, .ref (hs 0)), (1, .int p1)]) F dX6_ownedBy_39 rfl (nI_inc i) (Nat.le_of_ble_eq_true rfl) rfl (pc' := 42) rfl ?_
          refine wk_goto (tgt := 4) F dX6_ownedBy_42 (by decide) ?_
          refine wk_lv [3, 4, 1, 0] rfl ?_
          exact ih (i + 1) (x2 + (0 : Int32)) (by omega) (fun y2_ h_ => kx y2_ (Eq.trans (by rw [f6_ownedBy_L4] <;> exact (st_neg c1 (st_neg c2 rfl))) h_))
        · refine wk_iconst F dX6_ownedBy_32 ic_1 (pc' := 33) rfl ?_
          refine wk_goto (tgt := 37) F dX6_ownedBy_33 (by decide) ?_
          refine wk_iadd F dX6_ownedBy_37 (pc' := 38) rfl ?_
          refine wk_istore_n (lv' := [(2, .int (x2 + (1 : Int32))), (4, .int (f6_volumesOf σ (nI i))), (0, .ref (hs 0)), (1, .int p1), (3, .int (nI i))]) F dX6_ownedBy_38 rfl (Nat.le_of_ble_eq_true rfl) rfl (pc' := 39) rfl ?_
          refine wk_iinc (k := 4) (v := nI (i + 1)) (lv' := [(3, .int (nI (i + 1))), (2, .int (x2 + (1 : Int32))), (4, .int (f6_volumesOf σ (nI i))), (0, .ref (hs 0)), (1, .int p1)]) F dX6_ownedBy_39 rfl (nI_inc i) (Nat.le_of_ble_eq_true rfl) rfl (pc' := 42) rfl ?_
          refine wk_goto (tgt := 4) F dX6_ownedBy_42 (by decide) ?_
          refine wk_lv [3, 4, 1, 0] rfl ?_
          exact ih (i + 1) (x2 + (1 : Int32)) (by omega) (fun y2_ h_ => kx y2_ (Eq.trans (by rw [f6_ownedBy_L4] <;> exact (st_neg c1 (st_pos c2 rfl))) h_))
  refine wk_iconst F dX6_ownedBy_0 ic_0 (pc' := 1) rfl ?_
  refine wk_istore_n (lv' := [(2, .int (0 : Int32)), (0, .ref (hs 0)), (1, .int p1)]) F dX6_ownedBy_1 rfl (Nat.le_of_ble_eq_true rfl) rfl (pc' := 2) rfl ?_
  refine wk_iconst F dX6_ownedBy_2 ic_0 (pc' := 3) rfl ?_
  refine wk_istore_n (lv' := [(3, .int (0 : Int32)), (2, .int (0 : Int32)), (0, .ref (hs 0)), (1, .int p1)]) F dX6_ownedBy_3 rfl (Nat.le_of_ble_eq_true rfl) rfl (pc' := 4) rfl ?_
  refine wk_lv [2, 3, 1, 0] rfl ?_
  refine L4 30 0 (0 : Int32) (by omega) (fun y4 h3 => ?_)
  refine wk_iload_n F dX6_ownedBy_45 rfl 0 rfl (pc' := 46) rfl ?_
  exact hret _ _ _ dX6_ownedBy_46 rfl (Eq.symm (by rw [f6_ownedBy] <;> exact (st_let h3 rfl)))
def f6_filled_L4 (σ : PS) (p1 : Int32) : Nat → Nat → Int32 → Int32
  | 0, i, x2 => x2
  | n + 1, i, x2 => (if (f6_of σ p1 (1 : Int32)) ≤ (nI i) then x2 else (if (f6_of σ p1 (0 : Int32)) = (1 : Int32) then (if 0 ≤ (f6_piece σ p1 (nI i)) then f6_filled_L4 σ p1 n (i + 1) (x2 + (1 : Int32)) else f6_filled_L4 σ p1 n (i + 1) (x2 + (0 : Int32))) else x2))
def f6_filled (σ : PS) (p1 : Int32) : Int32 := (sq (f6_filled_L4 σ p1 40 0 (0 : Int32)) (fun (y5 : Int32) => y5))
set_option maxHeartbeats 4000000 in
set_option maxRecDepth 100000 in
theorem c6_filled (l : Launch) (D : va_G) (cI cP : ClassId) (hs : Nat → Nat) (σ : PS) (p1 : Int32) (hp_p1 : vp_in p1 8) (hs_okL : okL σ) : CP l yX6_filled wsX6_filled ({ frames := 2, cells := 0, slots := 0, locals := 44 } : Room) D (cty cI cP) (wMod cI hs) σ [.ref (hs 0), .int p1] (f6_filled σ p1) := by
  refine CP.of (cc := cX6_filled) (maxL := 4) (rt := .int) (own := RX6) (lv0 := [(0, .ref (hs 0)), (1, .int p1)]) pnX6 rfl rfl (Nat.le_of_ble_eq_true rfl) rfl (fun p e s m args below meth c A Q F hret => ?_)
  have L4 : ∀ (n : Nat) (i : Nat) (x2 : Int32), i + n = 40 → (∀ (y2 : Int32), f6_filled_L4 σ p1 n i x2 = y2 → Wk p l e ({ frames := 2, cells := 0, slots := 0, locals := 44 } : Room) s m args below meth c 4 D A 0 0 Q (wMod cI hs σ) [(2, .int y2)] 47 []) → Wk p l e ({ frames := 2, cells := 0, slots := 0, locals := 44 } : Room) s m args below meth c 4 D A 0 0 Q (wMod cI hs σ) [(0, .ref (hs 0)), (1, .int p1), (2, .int x2), (3, .int (nI i))] 4 [] := by
    intro n
    induction n with
    | zero =>
      intro i x2 hi kx
      refine wk_iload_n F dX6_filled_4 rfl 3 rfl (pc' := 5) rfl ?_
      refine wk_aload_n F dX6_filled_5 rfl 0 rfl (pc' := 6) rfl ?_
      refine wk_iload_n F dX6_filled_6 rfl 1 rfl (pc' := 7) rfl ?_
      refine wk_iconst F dX6_filled_7 ic_1 (pc' := 8) rfl ?_
      refine wk_same_p F (c6_of l D cI cP hs σ p1 (1 : Int32) hp_p1 (vp_in_nI (n := 1) (N := 47) (Nat.le_of_ble_eq_true rfl) (Nat.le_of_ble_eq_true rfl))) (cwV 2 F.hts gX6_filled_X6_of rfl rfl rfl hdX6_of ⟨Nat.le_of_ble_eq_true rfl, Nat.le_of_ble_eq_true rfl⟩) 0 6 rfl rfl rfl rfl (Nat.le_of_ble_eq_true rfl) dX6_filled_8 ⟨Nat.zero_le _, Nat.zero_le _⟩ (pc' := 11) rfl ?_
      refine wk_icmp_ge (tgt := 47) F dX6_filled_11 (by decide) (pc' := 14) rfl (fun _ => ?_) (fun c => absurd (okL_le hs_okL hp_p1 (by omega) (by omega)) c)
      refine wk_lv [2] rfl ?_
      exact kx x2 (by rw [f6_filled_L4] <;> exact rfl)
    | succ n ih =>
      intro i x2 hi kx
      refine wk_iload_n F dX6_filled_4 rfl 3 rfl (pc' := 5) rfl ?_
      refine wk_aload_n F dX6_filled_5 rfl 0 rfl (pc' := 6) rfl ?_
      refine wk_iload_n F dX6_filled_6 rfl 1 rfl (pc' := 7) rfl ?_
      refine wk_iconst F dX6_filled_7 ic_1 (pc' := 8) rfl ?_
      refine wk_same_p F (c6_of l D cI cP hs σ p1 (1 : Int32) hp_p1 (vp_in_nI (n := 1) (N := 47) (Nat.le_of_ble_eq_true rfl) (Nat.le_of_ble_eq_true rfl))) (cwV 2 F.hts gX6_filled_X6_of rfl rfl rfl hdX6_of ⟨Nat.le_of_ble_eq_true rfl, Nat.le_of_ble_eq_true rfl⟩) 0 6 rfl rfl rfl rfl (Nat.le_of_ble_eq_true rfl) dX6_filled_8 ⟨Nat.zero_le _, Nat.zero_le _⟩ (pc' := 11) rfl ?_
      refine wk_icmp_ge (tgt := 47) F dX6_filled_11 (by decide) (pc' := 14) rfl (fun c1 => ?_) (fun c1 => ?_)
      · refine wk_lv [2] rfl ?_
        exact kx x2 (by rw [f6_filled_L4] <;> exact (st_pos c1 rfl))
      · refine wk_aload_n F dX6_filled_14 rfl 0 rfl (pc' := 15) rfl ?_
        refine wk_iload_n F dX6_filled_15 rfl 1 rfl (pc' := 16) rfl ?_
        refine wk_iconst F dX6_filled_16 ic_0 (pc' := 17) rfl ?_
        refine wk_same_p F (c6_of l D cI cP hs σ p1 (0 : Int32) hp_p1 (vp_in_nI (n := 0) (N := 47) (Nat.le_of_ble_eq_true rfl) (Nat.le_of_ble_eq_true rfl))) (cwV 2 F.hts gX6_filled_X6_of rfl rfl rfl hdX6_of ⟨Nat.le_of_ble_eq_true rfl, Nat.le_of_ble_eq_true rfl⟩) 0 6 rfl rfl rfl rfl (Nat.le_of_ble_eq_true rfl) dX6_filled_17 ⟨Nat.zero_le _, Nat.zero_le _⟩ (pc' := 20) rfl ?_
        refine wk_iconst F dX6_filled_20 ic_1 (pc' := 21) rfl ?_
        refine wk_icmp_ne (tgt := 47) F dX6_filled_21 (by decide) (pc' := 24) rfl (fun c2 => ?_) (fun c2 => ?_)
        · refine wk_lv [2] rfl ?_
          exact kx x2 (by rw [f6_filled_L4] <;> exact (st_neg c1 (st_neg c2 rfl)))
        · refine wk_iload_n F dX6_filled_24 rfl 2 rfl (pc' := 25) rfl ?_
          refine wk_aload_n F dX6_filled_25 rfl 0 rfl (pc' := 26) rfl ?_
          refine wk_iload_n F dX6_filled_26 rfl 1 rfl (pc' := 27) rfl ?_
          refine wk_iload_n F dX6_filled_27 rfl 3 rfl (pc' := 28) rfl ?_
          refine wk_same_p F (c6_piece l D cI cP hs σ p1 (nI i) hp_p1 (vp_in_nI (n := i) (N := 40) (by omega) (Nat.le_of_ble_eq_true rfl))) (cwV 2 F.hts gX6_filled_X6_piece rfl rfl rfl hdX6_piece ⟨Nat.le_of_ble_eq_true rfl, Nat.le_of_ble_eq_true rfl⟩) 0 6 rfl rfl rfl rfl (Nat.le_of_ble_eq_true rfl) dX6_filled_28 ⟨Nat.zero_le _, Nat.zero_le _⟩ (pc' := 31) rfl ?_
          refine wk_if_ge (tgt := 38) F dX6_filled_31 (by decide) (pc' := 34) rfl (fun c3 => ?_) (fun c3 => ?_)
          · refine wk_iconst F dX6_filled_38 ic_1 (pc' := 39) rfl ?_
            refine wk_iadd F dX6_filled_39 (pc' := 40) rfl ?_
            refine wk_istore_n (lv' := [(2, .int (x2 + (1 : Int32))), (0, .ref (hs 0)), (1, .int p1), (3, .int (nI i))]) F dX6_filled_40 rfl (Nat.le_of_ble_eq_true rfl) rfl (pc' := 41) rfl ?_
            refine wk_iinc (k := 3) (v := nI (i + 1)) (lv' := [(3, .int (nI (i + 1))), (2, .int (x2 + (1 : Int32))), (0, .ref (hs 0)), (1, .int p1)]) F dX6_filled_41 rfl (nI_inc i) (Nat.le_of_ble_eq_true rfl) rfl (pc' := 44) rfl ?_
            refine wk_goto (tgt := 4) F dX6_filled_44 (by decide) ?_
            refine wk_lv [2, 3, 1, 0] rfl ?_
            exact ih (i + 1) (x2 + (1 : Int32)) (by omega) (fun y2_ h_ => kx y2_ (Eq.trans (by rw [f6_filled_L4] <;> exact (st_neg c1 (st_pos c2 (st_pos c3 rfl)))) h_))
          · refine wk_iconst F dX6_filled_34 ic_0 (pc' := 35) rfl ?_
            refine wk_goto (tgt := 39) F dX6_filled_35 (by decide) ?_
            refine wk_iadd F dX6_filled_39 (pc' := 40) rfl ?_
            refine wk_istore_n (lv' := [(2, .int (x2 + (0 : Int32))), (0, .ref (hs 0)), (1, .int p1), (3, .int (nI i))]) F dX6_filled_40 rfl (Nat.le_of_ble_eq_true rfl) rfl (pc' := 41) rfl ?_
            refine wk_iinc (k := 3) (v := nI (i + 1)) (lv' := [(3, .int (nI (i + 1))), (2, .int (x2 + (0 : Int32))), (0, .ref (hs 0)), (1, .int p1)]) F dX6_filled_41 rfl (nI_inc i) (Nat.le_of_ble_eq_true rfl) rfl (pc' := 44) rfl ?_
            refine wk_goto (tgt := 4) F dX6_filled_44 (by decide) ?_
            refine wk_lv [2, 3, 1, 0] rfl ?_
            exact ih (i + 1) (x2 + (0 : Int32)) (by omega) (fun y2_ h_ => kx y2_ (Eq.trans (by rw [f6_filled_L4] <;> exact (st_neg c1 (st_pos c2 (st_neg c3 rfl)))) h_))
  refine wk_iconst F dX6_filled_0 ic_0 (pc' := 1) rfl ?_
  refine wk_istore_n (lv' := [(2, .int (0 : Int32)), (0, .ref (hs 0)), (1, .int p1)]) F dX6_filled_1 rfl (Nat.le_of_ble_eq_true rfl) rfl (pc' := 2) rfl ?_
  refine wk_iconst F dX6_filled_2 ic_0 (pc' := 3) rfl ?_
  refine wk_istore_n (lv' := [(3, .int (0 : Int32)), (2, .int (0 : Int32)), (0, .ref (hs 0)), (1, .int p1)]) F dX6_filled_3 rfl (Nat.le_of_ble_eq_true rfl) rfl (pc' := 4) rfl ?_
  refine wk_lv [2, 3, 1, 0] rfl ?_
  refine L4 40 0 (0 : Int32) (by omega) (fun y5 h4 => ?_)
  refine wk_iload_n F dX6_filled_47 rfl 0 rfl (pc' := 48) rfl ?_
  exact hret _ _ _ dX6_filled_48 rfl (Eq.symm (by rw [f6_filled] <;> exact (st_let h4 rfl)))
theorem piece_lt {u : PS} {v q : Int32} (h : okP u) (hv : vp_in v 8) (hq : vp_in q 40) : (f6_piece u v q).toInt < 30 := by
  obtain ⟨a, ha, rfl⟩ := vp_in_of hv (by decide)
  obtain ⟨k, hk, rfl⟩ := vp_in_of hq (by decide)
  unfold f6_piece
  have e : (7 : Int32) + nI k = nI (7 + k) := by rw [← nI_add]; rfl
  rw [e, ofI u ha (by omega), show 67 + 47 * a + (7 + k) = 74 + 47 * a + k by omega]
  exact h a k ha hk
theorem ix_val {x : Int32} (h0 : ¬ x < 0) (h1 : x.toInt < 30) : vp_in (7 + x) 37 := by
  obtain ⟨j, hj, rfl⟩ := nI_of h0
  rw [nI_toInt hj] at h1
  have e : (7 : Int32) + nI j = nI (7 + j) := by rw [← nI_add]; rfl
  rw [e]
  exact vp_in_nI (by omega) (by decide)
def f6_read (σ : PS) (p1 : Int32) (p2 : Int32) (p3 : Int32) : Int32 := (if (f6_isPlace σ p1 p2) = 0 then (-1000001 : Int32) else (if (f6_in p3 (0 : Int32) (1 : Int32)) = 0 then (-1000001 : Int32) else (if p3 = (1 : Int32) then (if 0 ≤ (f6_piece σ p1 p2) then f6_piece σ p1 p2 else (-1000004 : Int32)) else (if 0 ≤ (f6_piece σ p1 p2) then σ 0 ((7 : Int32) + (f6_piece σ p1 p2)).toNatClampNeg else (0 : Int32)))))
set_option maxHeartbeats 4000000 in
set_option maxRecDepth 100000 in
theorem c6_read (l : Launch) (D : va_G) (cI cP : ClassId) (hs : Nat → Nat) (σ : PS) (p1 : Int32) (p2 : Int32) (p3 : Int32) (hs_okL : okL σ) (hs_okP : okP σ) : CP l yX6_read wsX6_read ({ frames := 3, cells := 0, slots := 0, locals := 65 } : Room) D (cty cI cP) (wMod cI hs) σ [.ref (hs 0), .int p1, .int p2, .int p3] (f6_read σ p1 p2 p3) := by
  refine CP.of (cc := cX6_read) (maxL := 5) (rt := .int) (own := RX6) (lv0 := [(0, .ref (hs 0)), (1, .int p1), (2, .int p2), (3, .int p3)]) pnX6 rfl rfl (Nat.le_of_ble_eq_true rfl) rfl (fun p e s m args below meth c A Q F hret => ?_)
  have w_1 := F.at (x := Cond.constant RX6 86 (-1000001)) 1 rfl
  have w_3 := F.at (x := Cond.fieldLink RX6 7 "ThinVolumesModel" "s" "[I") 3 rfl
  have w_2 := F.at (x := Cond.constant RX6 65 (-1000004)) 2 rfl
  have k_6 : ∀ w ∈ wsX60, w ∈ wsX6_read := fun _ h => List.mem_cons_of_mem _ (List.mem_append_right _ (h))
  refine wk_aload_n F dX6_read_0 rfl 0 rfl (pc' := 1) rfl ?_
  refine wk_iload_n F dX6_read_1 rfl 1 rfl (pc' := 2) rfl ?_
  refine wk_iload_n F dX6_read_2 rfl 2 rfl (pc' := 3) rfl ?_
  refine wk_same_p F (c6_isPlace l D cI cP hs σ p1 p2) (cwV 2 F.hts gX6_read_X6_isPlace rfl rfl rfl hdX6_isPlace ⟨Nat.le_of_ble_eq_true rfl, Nat.le_of_ble_eq_true rfl⟩) 0 6 rfl rfl rfl rfl (Nat.le_of_ble_eq_true rfl) dX6_read_3 ⟨Nat.zero_le _, Nat.zero_le _⟩ (pc' := 6) rfl ?_
  refine wk_if_eq (tgt := 18) F dX6_read_6 (by decide) (pc' := 9) rfl (fun c1 => ?_) (fun c1 => ?_)
  · refine wk_ldc F dX6_read_18 w_1 (pc' := 20) rfl ?_
    exact hret _ _ _ dX6_read_20 rfl (Eq.symm (by rw [f6_read] <;> exact (st_pos c1 rfl)))
  · refine wk_iload_n F dX6_read_9 rfl 3 rfl (pc' := 10) rfl ?_
    refine wk_iconst F dX6_read_10 ic_0 (pc' := 11) rfl ?_
    refine wk_iconst F dX6_read_11 ic_1 (pc' := 12) rfl ?_
    refine wk_none_s F (c6_in l D cI cP p3 (0 : Int32) (1 : Int32)) (va_cwS 3 F.hts gX6_read_X6_in rfl rfl rfl hdX6_in ⟨Nat.le_of_ble_eq_true rfl, Nat.le_of_ble_eq_true rfl⟩) rfl rfl (Nat.le_of_ble_eq_true rfl) dX6_read_12 ⟨Nat.zero_le _, Nat.zero_le _⟩ (pc' := 15) rfl ?_
    refine wk_if_ne (tgt := 21) F dX6_read_15 (by decide) (pc' := 18) rfl (fun c2 => ?_) (fun c2 => ?_)
    · refine wk_aload_n F dX6_read_21 rfl 0 rfl (pc' := 22) rfl ?_
      refine wk_iload_n F dX6_read_22 rfl 1 rfl (pc' := 23) rfl ?_
      refine wk_iload_n F dX6_read_23 rfl 2 rfl (pc' := 24) rfl ?_
      refine wk_same_p F (c6_piece l D cI cP hs σ p1 p2 (isPlace_v c1) (isPlace_p hs_okL c1)) (cwV 2 F.hts gX6_read_X6_piece rfl rfl rfl hdX6_piece ⟨Nat.le_of_ble_eq_true rfl, Nat.le_of_ble_eq_true rfl⟩) 0 6 rfl rfl rfl rfl (Nat.le_of_ble_eq_true rfl) dX6_read_24 ⟨Nat.zero_le _, Nat.zero_le _⟩ (pc' := 27) rfl ?_
      refine wk_istore (lv' := [(4, .int (f6_piece σ p1 p2)), (0, .ref (hs 0)), (1, .int p1), (2, .int p2), (3, .int p3)]) F dX6_read_27 (Nat.le_of_ble_eq_true rfl) rfl (pc' := 29) rfl ?_
      refine wk_iload_n F dX6_read_29 rfl 4 rfl (pc' := 30) rfl ?_
      refine wk_iconst F dX6_read_30 ic_1 (pc' := 31) rfl ?_
      refine wk_icmp_ne (tgt := 49) F dX6_read_31 (by decide) (pc' := 34) rfl (fun c3 => ?_) (fun c3 => ?_)
      · refine wk_iload F dX6_read_49 0 rfl (pc' := 51) rfl ?_
        refine wk_if_ge (tgt := 58) F dX6_read_51 (by decide) (pc' := 54) rfl (fun c4 => ?_) (fun c4 => ?_)
        · refine wk_aload_n F dX6_read_58 rfl 1 rfl (pc' := 59) rfl ?_
          refine wk_get (C := RX6) (T := TX6) (N := 12) F 0 rfl rfl k_6 0 (Nat.le_of_ble_eq_true rfl) w_3 rfl dX6_read_59 (pc' := 62) rfl ?_
          refine wk_bipush F dX6_read_62 bp_7 (pc' := 64) rfl ?_
          refine wk_iload F dX6_read_64 0 rfl (pc' := 66) rfl ?_
          refine wk_iadd F dX6_read_66 (pc' := 67) rfl ?_
          refine wk_iald F 1 0 rfl rfl (vin_mono (ix_val (ge_nlt c4) (piece_lt hs_okP (isPlace_v c1) (isPlace_p hs_okL c1))) (Nat.le_of_ble_eq_true rfl)) dX6_read_67 (pc' := 68) rfl ?_
          exact hret _ _ _ dX6_read_68 rfl (Eq.symm (by rw [f6_read] <;> exact (st_neg c1 (st_neg c2 (st_neg c3 (st_pos c4 rfl))))))
        · refine wk_iconst F dX6_read_54 ic_0 (pc' := 55) rfl ?_
          refine wk_goto (tgt := 68) F dX6_read_55 (by decide) ?_
          exact hret _ _ _ dX6_read_68 rfl (Eq.symm (by rw [f6_read] <;> exact (st_neg c1 (st_neg c2 (st_neg c3 (st_neg c4 rfl))))))
      · refine wk_iload F dX6_read_34 0 rfl (pc' := 36) rfl ?_
        refine wk_if_ge (tgt := 44) F dX6_read_36 (by decide) (pc' := 39) rfl (fun c5 => ?_) (fun c5 => ?_)
        · refine wk_iload F dX6_read_44 0 rfl (pc' := 46) rfl ?_
          refine wk_goto (tgt := 68) F dX6_read_46 (by decide) ?_
          exact hret _ _ _ dX6_read_68 rfl (Eq.symm (by rw [f6_read] <;> exact (st_neg c1 (st_neg c2 (st_pos c3 (st_pos c5 rfl))))))
        · refine wk_ldc F dX6_read_39 w_2 (pc' := 41) rfl ?_
          refine wk_goto (tgt := 68) F dX6_read_41 (by decide) ?_
          exact hret _ _ _ dX6_read_68 rfl (Eq.symm (by rw [f6_read] <;> exact (st_neg c1 (st_neg c2 (st_pos c3 (st_neg c5 rfl))))))
    · refine wk_ldc F dX6_read_18 w_1 (pc' := 20) rfl ?_
      exact hret _ _ _ dX6_read_20 rfl (Eq.symm (by rw [f6_read] <;> exact (st_neg c1 (st_pos c2 rfl))))
def f6_volumeOf (σ : PS) (p1 : Int32) (p2 : Int32) : Int32 := (if (f6_isVolume σ p1) = 0 then (-1000001 : Int32) else (if p2 = (0 : Int32) then f6_of σ p1 (1 : Int32) else (if p2 = (1 : Int32) then f6_filled σ p1 else (if p2 = (2 : Int32) then f6_ownedBy σ ((1 : Int32) <<< (p1 &&& 31)) else (if p2 = (3 : Int32) then f6_of σ p1 (2 : Int32) else (if p2 = (4 : Int32) then f6_of σ p1 (3 : Int32) else (if p2 = (5 : Int32) then (if 0 ≤ (f6_of σ p1 (4 : Int32)) then f6_of σ p1 (4 : Int32) else (-1000004 : Int32)) else (if p2 = (6 : Int32) then f6_clones σ p1 else (if p2 = (7 : Int32) then f6_rank σ p1 else (if p2 = (8 : Int32) then f6_of σ p1 (5 : Int32) else (if p2 = (9 : Int32) then f6_of σ p1 (6 : Int32) else (-1000001 : Int32))))))))))))
set_option maxHeartbeats 4000000 in
set_option maxRecDepth 100000 in
theorem c6_volumeOf (l : Launch) (D : va_G) (cI cP : ClassId) (hs : Nat → Nat) (σ : PS) (p1 : Int32) (p2 : Int32) (hs_okL : okL σ) : CP l yX6_volumeOf wsX6_volumeOf ({ frames := 5, cells := 0, slots := 0, locals := 115 } : Room) D (cty cI cP) (wMod cI hs) σ [.ref (hs 0), .int p1, .int p2] (f6_volumeOf σ p1 p2) := by
  refine CP.of (cc := cX6_volumeOf) (maxL := 3) (rt := .int) (own := RX6) (lv0 := [(0, .ref (hs 0)), (1, .int p1), (2, .int p2)]) pnX6 rfl rfl (Nat.le_of_ble_eq_true rfl) rfl (fun p e s m args below meth c A Q F hret => ?_)
  have w_2 := F.at (x := Cond.constant RX6 65 (-1000004)) 2 rfl
  have w_1 := F.at (x := Cond.constant RX6 86 (-1000001)) 1 rfl
  refine wk_aload_n F dX6_volumeOf_0 rfl 0 rfl (pc' := 1) rfl ?_
  refine wk_iload_n F dX6_volumeOf_1 rfl 1 rfl (pc' := 2) rfl ?_
  refine wk_same_p F (c6_isVolume l D cI cP hs σ p1) (cwV 1 F.hts gX6_volumeOf_X6_isVolume rfl rfl rfl hdX6_isVolume ⟨Nat.le_of_ble_eq_true rfl, Nat.le_of_ble_eq_true rfl⟩) 0 6 rfl rfl rfl rfl (Nat.le_of_ble_eq_true rfl) dX6_volumeOf_2 ⟨Nat.zero_le _, Nat.zero_le _⟩ (pc' := 5) rfl ?_
  refine wk_if_ne (tgt := 11) F dX6_volumeOf_5 (by decide) (pc' := 8) rfl (fun c1 => ?_) (fun c1 => ?_)
  · refine wk_iload_n F dX6_volumeOf_11 rfl 2 rfl (pc' := 12) rfl ?_
    by_cases c2 : p2 = (0 : Int32)
    · refine wk_top c2 ?_
      refine wk_tableIn (off := 56) (tgt := 68) F dX6_volumeOf_12 (by decide) (by decide) (by decide) (by decide) ?_
      refine wk_aload_n F dX6_volumeOf_68 rfl 0 rfl (pc' := 69) rfl ?_
      refine wk_iload_n F dX6_volumeOf_69 rfl 1 rfl (pc' := 70) rfl ?_
      refine wk_iconst F dX6_volumeOf_70 ic_1 (pc' := 71) rfl ?_
      refine wk_same_p F (c6_of l D cI cP hs σ p1 (1 : Int32) (isVolume_in c1) (vp_in_nI (n := 1) (N := 47) (Nat.le_of_ble_eq_true rfl) (Nat.le_of_ble_eq_true rfl))) (cwV 2 F.hts gX6_volumeOf_X6_of rfl rfl rfl hdX6_of ⟨Nat.le_of_ble_eq_true rfl, Nat.le_of_ble_eq_true rfl⟩) 0 6 rfl rfl rfl rfl (Nat.le_of_ble_eq_true rfl) dX6_volumeOf_71 ⟨Nat.zero_le _, Nat.zero_le _⟩ (pc' := 74) rfl ?_
      exact hret _ _ _ dX6_volumeOf_74 rfl (Eq.symm (by rw [f6_volumeOf] <;> exact (st_neg c1 (st_pos c2 rfl))))
    by_cases c3 : p2 = (1 : Int32)
    · refine wk_top c3 ?_
      refine wk_tableIn (off := 63) (tgt := 75) F dX6_volumeOf_12 (by decide) (by decide) (by decide) (by decide) ?_
      refine wk_aload_n F dX6_volumeOf_75 rfl 0 rfl (pc' := 76) rfl ?_
      refine wk_iload_n F dX6_volumeOf_76 rfl 1 rfl (pc' := 77) rfl ?_
      refine wk_same_p F (c6_filled l D cI cP hs σ p1 (isVolume_in c1) hs_okL) (cwV 1 F.hts gX6_volumeOf_X6_filled rfl rfl rfl hdX6_filled ⟨Nat.le_of_ble_eq_true rfl, Nat.le_of_ble_eq_true rfl⟩) 0 6 rfl rfl rfl rfl (Nat.le_of_ble_eq_true rfl) dX6_volumeOf_77 ⟨Nat.zero_le _, Nat.zero_le _⟩ (pc' := 80) rfl ?_
      exact hret _ _ _ dX6_volumeOf_80 rfl (Eq.symm (by rw [f6_volumeOf] <;> exact (st_neg c1 (st_neg c2 (st_pos c3 rfl)))))
    by_cases c4 : p2 = (2 : Int32)
    · refine wk_top c4 ?_
      refine wk_tableIn (off := 69) (tgt := 81) F dX6_volumeOf_12 (by decide) (by decide) (by decide) (by decide) ?_
      refine wk_aload_n F dX6_volumeOf_81 rfl 0 rfl (pc' := 82) rfl ?_
      refine wk_iconst F dX6_volumeOf_82 ic_1 (pc' := 83) rfl ?_
      refine wk_iload_n F dX6_volumeOf_83 rfl 1 rfl (pc' := 84) rfl ?_
      refine wk_ishl F dX6_volumeOf_84 (pc' := 85) rfl ?_
      refine wk_same_p F (c6_ownedBy l D cI cP hs σ ((1 : Int32) <<< (p1 &&& 31)) hs_okL) (cwV 1 F.hts gX6_volumeOf_X6_ownedBy rfl rfl rfl hdX6_ownedBy ⟨Nat.le_of_ble_eq_true rfl, Nat.le_of_ble_eq_true rfl⟩) 0 6 rfl rfl rfl rfl (Nat.le_of_ble_eq_true rfl) dX6_volumeOf_85 ⟨Nat.zero_le _, Nat.zero_le _⟩ (pc' := 88) rfl ?_
      exact hret _ _ _ dX6_volumeOf_88 rfl (Eq.symm (by rw [f6_volumeOf] <;> exact (st_neg c1 (st_neg c2 (st_neg c3 (st_pos c4 rfl))))))
    by_cases c5 : p2 = (3 : Int32)
    · refine wk_top c5 ?_
      refine wk_tableIn (off := 77) (tgt := 89) F dX6_volumeOf_12 (by decide) (by decide) (by decide) (by decide) ?_
      refine wk_aload_n F dX6_volumeOf_89 rfl 0 rfl (pc' := 90) rfl ?_
      refine wk_iload_n F dX6_volumeOf_90 rfl 1 rfl (pc' := 91) rfl ?_
      refine wk_iconst F dX6_volumeOf_91 ic_2 (pc' := 92) rfl ?_
      refine wk_same_p F (c6_of l D cI cP hs σ p1 (2 : Int32) (isVolume_in c1) (vp_in_nI (n := 2) (N := 47) (Nat.le_of_ble_eq_true rfl) (Nat.le_of_ble_eq_true rfl))) (cwV 2 F.hts gX6_volumeOf_X6_of rfl rfl rfl hdX6_of ⟨Nat.le_of_ble_eq_true rfl, Nat.le_of_ble_eq_true rfl⟩) 0 6 rfl rfl rfl rfl (Nat.le_of_ble_eq_true rfl) dX6_volumeOf_92 ⟨Nat.zero_le _, Nat.zero_le _⟩ (pc' := 95) rfl ?_
      exact hret _ _ _ dX6_volumeOf_95 rfl (Eq.symm (by rw [f6_volumeOf] <;> exact (st_neg c1 (st_neg c2 (st_neg c3 (st_neg c4 (st_pos c5 rfl)))))))
    by_cases c6 : p2 = (4 : Int32)
    · refine wk_top c6 ?_
      refine wk_tableIn (off := 84) (tgt := 96) F dX6_volumeOf_12 (by decide) (by decide) (by decide) (by decide) ?_
      refine wk_aload_n F dX6_volumeOf_96 rfl 0 rfl (pc' := 97) rfl ?_
      refine wk_iload_n F dX6_volumeOf_97 rfl 1 rfl (pc' := 98) rfl ?_
      refine wk_iconst F dX6_volumeOf_98 ic_3 (pc' := 99) rfl ?_
      refine wk_same_p F (c6_of l D cI cP hs σ p1 (3 : Int32) (isVolume_in c1) (vp_in_nI (n := 3) (N := 47) (Nat.le_of_ble_eq_true rfl) (Nat.le_of_ble_eq_true rfl))) (cwV 2 F.hts gX6_volumeOf_X6_of rfl rfl rfl hdX6_of ⟨Nat.le_of_ble_eq_true rfl, Nat.le_of_ble_eq_true rfl⟩) 0 6 rfl rfl rfl rfl (Nat.le_of_ble_eq_true rfl) dX6_volumeOf_99 ⟨Nat.zero_le _, Nat.zero_le _⟩ (pc' := 102) rfl ?_
      exact hret _ _ _ dX6_volumeOf_102 rfl (Eq.symm (by rw [f6_volumeOf] <;> exact (st_neg c1 (st_neg c2 (st_neg c3 (st_neg c4 (st_neg c5 (st_pos c6 rfl))))))))
    by_cases c7 : p2 = (5 : Int32)
    · refine wk_top c7 ?_
      refine wk_tableIn (off := 91) (tgt := 103) F dX6_volumeOf_12 (by decide) (by decide) (by decide) (by decide) ?_
      refine wk_aload_n F dX6_volumeOf_103 rfl 0 rfl (pc' := 104) rfl ?_
      refine wk_iload_n F dX6_volumeOf_104 rfl 1 rfl (pc' := 105) rfl ?_
      refine wk_iconst F dX6_volumeOf_105 ic_4 (pc' := 106) rfl ?_
      refine wk_same_p F (c6_of l D cI cP hs σ p1 (4 : Int32) (isVolume_in c1) (vp_in_nI (n := 4) (N := 47) (Nat.le_of_ble_eq_true rfl) (Nat.le_of_ble_eq_true rfl))) (cwV 2 F.hts gX6_volumeOf_X6_of rfl rfl rfl hdX6_of ⟨Nat.le_of_ble_eq_true rfl, Nat.le_of_ble_eq_true rfl⟩) 0 6 rfl rfl rfl rfl (Nat.le_of_ble_eq_true rfl) dX6_volumeOf_106 ⟨Nat.zero_le _, Nat.zero_le _⟩ (pc' := 109) rfl ?_
      refine wk_if_ge (tgt := 117) F dX6_volumeOf_109 (by decide) (pc' := 112) rfl (fun c8 => ?_) (fun c8 => ?_)
      · refine wk_aload_n F dX6_volumeOf_117 rfl 0 rfl (pc' := 118) rfl ?_
        refine wk_iload_n F dX6_volumeOf_118 rfl 1 rfl (pc' := 119) rfl ?_
        refine wk_iconst F dX6_volumeOf_119 ic_4 (pc' := 120) rfl ?_
        refine wk_same_p F (c6_of l D cI cP hs σ p1 (4 : Int32) (isVolume_in c1) (vp_in_nI (n := 4) (N := 47) (Nat.le_of_ble_eq_true rfl) (Nat.le_of_ble_eq_true rfl))) (cwV 2 F.hts gX6_volumeOf_X6_of rfl rfl rfl hdX6_of ⟨Nat.le_of_ble_eq_true rfl, Nat.le_of_ble_eq_true rfl⟩) 0 6 rfl rfl rfl rfl (Nat.le_of_ble_eq_true rfl) dX6_volumeOf_120 ⟨Nat.zero_le _, Nat.zero_le _⟩ (pc' := 123) rfl ?_
        exact hret _ _ _ dX6_volumeOf_123 rfl (Eq.symm (by rw [f6_volumeOf] <;> exact (st_neg c1 (st_neg c2 (st_neg c3 (st_neg c4 (st_neg c5 (st_neg c6 (st_pos c7 (st_pos c8 rfl))))))))))
      · refine wk_ldc F dX6_volumeOf_112 w_2 (pc' := 114) rfl ?_
        refine wk_goto (tgt := 123) F dX6_volumeOf_114 (by decide) ?_
        exact hret _ _ _ dX6_volumeOf_123 rfl (Eq.symm (by rw [f6_volumeOf] <;> exact (st_neg c1 (st_neg c2 (st_neg c3 (st_neg c4 (st_neg c5 (st_neg c6 (st_pos c7 (st_neg c8 rfl))))))))))
    by_cases c9 : p2 = (6 : Int32)
    · refine wk_top c9 ?_
      refine wk_tableIn (off := 112) (tgt := 124) F dX6_volumeOf_12 (by decide) (by decide) (by decide) (by decide) ?_
      refine wk_aload_n F dX6_volumeOf_124 rfl 0 rfl (pc' := 125) rfl ?_
      refine wk_iload_n F dX6_volumeOf_125 rfl 1 rfl (pc' := 126) rfl ?_
      refine wk_same_p F (c6_clones l D cI cP hs σ p1) (cwV 1 F.hts gX6_volumeOf_X6_clones rfl rfl rfl hdX6_clones ⟨Nat.le_of_ble_eq_true rfl, Nat.le_of_ble_eq_true rfl⟩) 0 6 rfl rfl rfl rfl (Nat.le_of_ble_eq_true rfl) dX6_volumeOf_126 ⟨Nat.zero_le _, Nat.zero_le _⟩ (pc' := 129) rfl ?_
      exact hret _ _ _ dX6_volumeOf_129 rfl (Eq.symm (by rw [f6_volumeOf] <;> exact (st_neg c1 (st_neg c2 (st_neg c3 (st_neg c4 (st_neg c5 (st_neg c6 (st_neg c7 (st_pos c9 rfl))))))))))
    by_cases c10 : p2 = (7 : Int32)
    · refine wk_top c10 ?_
      refine wk_tableIn (off := 118) (tgt := 130) F dX6_volumeOf_12 (by decide) (by decide) (by decide) (by decide) ?_
      refine wk_aload_n F dX6_volumeOf_130 rfl 0 rfl (pc' := 131) rfl ?_
      refine wk_iload_n F dX6_volumeOf_131 rfl 1 rfl (pc' := 132) rfl ?_
      refine wk_same_p F (c6_rank l D cI cP hs σ p1 (isVolume_in c1)) (cwV 1 F.hts gX6_volumeOf_X6_rank rfl rfl rfl hdX6_rank ⟨Nat.le_of_ble_eq_true rfl, Nat.le_of_ble_eq_true rfl⟩) 0 6 rfl rfl rfl rfl (Nat.le_of_ble_eq_true rfl) dX6_volumeOf_132 ⟨Nat.zero_le _, Nat.zero_le _⟩ (pc' := 135) rfl ?_
      exact hret _ _ _ dX6_volumeOf_135 rfl (Eq.symm (by rw [f6_volumeOf] <;> exact (st_neg c1 (st_neg c2 (st_neg c3 (st_neg c4 (st_neg c5 (st_neg c6 (st_neg c7 (st_neg c9 (st_pos c10 rfl)))))))))))
    by_cases c11 : p2 = (8 : Int32)
    · refine wk_top c11 ?_
      refine wk_tableIn (off := 124) (tgt := 136) F dX6_volumeOf_12 (by decide) (by decide) (by decide) (by decide) ?_
      refine wk_aload_n F dX6_volumeOf_136 rfl 0 rfl (pc' := 137) rfl ?_
      refine wk_iload_n F dX6_volumeOf_137 rfl 1 rfl (pc' := 138) rfl ?_
      refine wk_iconst F dX6_volumeOf_138 ic_5 (pc' := 139) rfl ?_
      refine wk_same_p F (c6_of l D cI cP hs σ p1 (5 : Int32) (isVolume_in c1) (vp_in_nI (n := 5) (N := 47) (Nat.le_of_ble_eq_true rfl) (Nat.le_of_ble_eq_true rfl))) (cwV 2 F.hts gX6_volumeOf_X6_of rfl rfl rfl hdX6_of ⟨Nat.le_of_ble_eq_true rfl, Nat.le_of_ble_eq_true rfl⟩) 0 6 rfl rfl rfl rfl (Nat.le_of_ble_eq_true rfl) dX6_volumeOf_139 ⟨Nat.zero_le _, Nat.zero_le _⟩ (pc' := 142) rfl ?_
      exact hret _ _ _ dX6_volumeOf_142 rfl (Eq.symm (by rw [f6_volumeOf] <;> exact (st_neg c1 (st_neg c2 (st_neg c3 (st_neg c4 (st_neg c5 (st_neg c6 (st_neg c7 (st_neg c9 (st_neg c10 (st_pos c11 rfl))))))))))))
    by_cases c12 : p2 = (9 : Int32)
    · refine wk_top c12 ?_
      refine wk_tableIn (off := 131) (tgt := 143) F dX6_volumeOf_12 (by decide) (by decide) (by decide) (by decide) ?_
      refine wk_aload_n F dX6_volumeOf_143 rfl 0 rfl (pc' := 144) rfl ?_
      refine wk_iload_n F dX6_volumeOf_144 rfl 1 rfl (pc' := 145) rfl ?_
      refine wk_bipush F dX6_volumeOf_145 bp_6 (pc' := 147) rfl ?_
      refine wk_same_p F (c6_of l D cI cP hs σ p1 (6 : Int32) (isVolume_in c1) (vp_in_nI (n := 6) (N := 47) (Nat.le_of_ble_eq_true rfl) (Nat.le_of_ble_eq_true rfl))) (cwV 2 F.hts gX6_volumeOf_X6_of rfl rfl rfl hdX6_of ⟨Nat.le_of_ble_eq_true rfl, Nat.le_of_ble_eq_true rfl⟩) 0 6 rfl rfl rfl rfl (Nat.le_of_ble_eq_true rfl) dX6_volumeOf_147 ⟨Nat.zero_le _, Nat.zero_le _⟩ (pc' := 150) rfl ?_
      exact hret _ _ _ dX6_volumeOf_150 rfl (Eq.symm (by rw [f6_volumeOf] <;> exact (st_neg c1 (st_neg c2 (st_neg c3 (st_neg c4 (st_neg c5 (st_neg c6 (st_neg c7 (st_neg c9 (st_neg c10 (st_neg c11 (st_pos c12 rfl)))))))))))))
    refine wk_tableOut (tgt := 151) F dX6_volumeOf_12 (by have ec2 := ti_ne (k := 0) c2 (by decide); have ec3 := ti_ne (k := 1) c3 (by decide); have ec4 := ti_ne (k := 2) c4 (by decide); have ec5 := ti_ne (k := 3) c5 (by decide); have ec6 := ti_ne (k := 4) c6 (by decide); have ec7 := ti_ne (k := 5) c7 (by decide); have ec9 := ti_ne (k := 6) c9 (by decide); have ec10 := ti_ne (k := 7) c10 (by decide); have ec11 := ti_ne (k := 8) c11 (by decide); have ec12 := ti_ne (k := 9) c12 (by decide); omega) (by decide) ?_
    refine wk_ldc F dX6_volumeOf_151 w_1 (pc' := 153) rfl ?_
    exact hret _ _ _ dX6_volumeOf_153 rfl (Eq.symm (by rw [f6_volumeOf] <;> exact (st_neg c1 (st_neg c2 (st_neg c3 (st_neg c4 (st_neg c5 (st_neg c6 (st_neg c7 (st_neg c9 (st_neg c10 (st_neg c11 (st_neg c12 rfl)))))))))))))
  · refine wk_ldc F dX6_volumeOf_8 w_1 (pc' := 10) rfl ?_
    exact hret _ _ _ dX6_volumeOf_10 rfl (Eq.symm (by rw [f6_volumeOf] <;> exact (st_pos c1 rfl)))
def f6_pieceOf (σ : PS) (p1 : Int32) (p2 : Int32) : Int32 := (if (f6_in p1 (0 : Int32) (29 : Int32)) = 0 then (-1000001 : Int32) else (if (f6_in p2 (0 : Int32) (2 : Int32)) = 0 then (-1000001 : Int32) else (if (f6_owners σ p1) = 0 then (-1000004 : Int32) else (if p2 = 0 then σ 0 ((7 : Int32) + p1).toNatClampNeg else (if p2 = (1 : Int32) then f6_owners σ p1 else f6_volumesOf σ p1)))))
set_option maxHeartbeats 4000000 in
set_option maxRecDepth 100000 in
theorem c6_pieceOf (l : Launch) (D : va_G) (cI cP : ClassId) (hs : Nat → Nat) (σ : PS) (p1 : Int32) (p2 : Int32) (hs_okL : okL σ) : CP l yX6_pieceOf wsX6_pieceOf ({ frames := 4, cells := 0, slots := 0, locals := 91 } : Room) D (cty cI cP) (wMod cI hs) σ [.ref (hs 0), .int p1, .int p2] (f6_pieceOf σ p1 p2) := by
  refine CP.of (cc := cX6_pieceOf) (maxL := 3) (rt := .int) (own := RX6) (lv0 := [(0, .ref (hs 0)), (1, .int p1), (2, .int p2)]) pnX6 rfl rfl (Nat.le_of_ble_eq_true rfl) rfl (fun p e s m args below meth c A Q F hret => ?_)
  have w_1 := F.at (x := Cond.constant RX6 86 (-1000001)) 1 rfl
  have w_3 := F.at (x := Cond.fieldLink RX6 7 "ThinVolumesModel" "s" "[I") 3 rfl
  have w_2 := F.at (x := Cond.constant RX6 65 (-1000004)) 2 rfl
  have k_6 : ∀ w ∈ wsX60, w ∈ wsX6_pieceOf := fun _ h => List.mem_cons_of_mem _ (List.mem_append_right _ (h))
  refine wk_iload_n F dX6_pieceOf_0 rfl 1 rfl (pc' := 1) rfl ?_
  refine wk_iconst F dX6_pieceOf_1 ic_0 (pc' := 2) rfl ?_
  refine wk_bipush F dX6_pieceOf_2 bp_29 (pc' := 4) rfl ?_
  refine wk_none_s F (c6_in l D cI cP p1 (0 : Int32) (29 : Int32)) (va_cwS 3 F.hts gX6_pieceOf_X6_in rfl rfl rfl hdX6_in ⟨Nat.le_of_ble_eq_true rfl, Nat.le_of_ble_eq_true rfl⟩) rfl rfl (Nat.le_of_ble_eq_true rfl) dX6_pieceOf_4 ⟨Nat.zero_le _, Nat.zero_le _⟩ (pc' := 7) rfl ?_
  refine wk_if_eq (tgt := 19) F dX6_pieceOf_7 (by decide) (pc' := 10) rfl (fun c1 => ?_) (fun c1 => ?_)
  · refine wk_ldc F dX6_pieceOf_19 w_1 (pc' := 21) rfl ?_
    exact hret _ _ _ dX6_pieceOf_21 rfl (Eq.symm (by rw [f6_pieceOf] <;> exact (st_pos c1 rfl)))
  · refine wk_iload_n F dX6_pieceOf_10 rfl 2 rfl (pc' := 11) rfl ?_
    refine wk_iconst F dX6_pieceOf_11 ic_0 (pc' := 12) rfl ?_
    refine wk_iconst F dX6_pieceOf_12 ic_2 (pc' := 13) rfl ?_
    refine wk_none_s F (c6_in l D cI cP p2 (0 : Int32) (2 : Int32)) (va_cwS 3 F.hts gX6_pieceOf_X6_in rfl rfl rfl hdX6_in ⟨Nat.le_of_ble_eq_true rfl, Nat.le_of_ble_eq_true rfl⟩) rfl rfl (Nat.le_of_ble_eq_true rfl) dX6_pieceOf_13 ⟨Nat.zero_le _, Nat.zero_le _⟩ (pc' := 16) rfl ?_
    refine wk_if_ne (tgt := 22) F dX6_pieceOf_16 (by decide) (pc' := 19) rfl (fun c2 => ?_) (fun c2 => ?_)
    · refine wk_aload_n F dX6_pieceOf_22 rfl 0 rfl (pc' := 23) rfl ?_
      refine wk_iload_n F dX6_pieceOf_23 rfl 1 rfl (pc' := 24) rfl ?_
      refine wk_same_p F (c6_owners l D cI cP hs σ p1 hs_okL) (cwV 1 F.hts gX6_pieceOf_X6_owners rfl rfl rfl hdX6_owners ⟨Nat.le_of_ble_eq_true rfl, Nat.le_of_ble_eq_true rfl⟩) 0 6 rfl rfl rfl rfl (Nat.le_of_ble_eq_true rfl) dX6_pieceOf_24 ⟨Nat.zero_le _, Nat.zero_le _⟩ (pc' := 27) rfl ?_
      refine wk_if_ne (tgt := 33) F dX6_pieceOf_27 (by decide) (pc' := 30) rfl (fun c3 => ?_) (fun c3 => ?_)
      · refine wk_iload_n F dX6_pieceOf_33 rfl 2 rfl (pc' := 34) rfl ?_
        refine wk_if_ne (tgt := 49) F dX6_pieceOf_34 (by decide) (pc' := 37) rfl (fun c4 => ?_) (fun c4 => ?_)
        · refine wk_iload_n F dX6_pieceOf_49 rfl 2 rfl (pc' := 50) rfl ?_
          refine wk_iconst F dX6_pieceOf_50 ic_1 (pc' := 51) rfl ?_
          refine wk_icmp_ne (tgt := 62) F dX6_pieceOf_51 (by decide) (pc' := 54) rfl (fun c5 => ?_) (fun c5 => ?_)
          · refine wk_aload_n F dX6_pieceOf_62 rfl 0 rfl (pc' := 63) rfl ?_
            refine wk_iload_n F dX6_pieceOf_63 rfl 1 rfl (pc' := 64) rfl ?_
            refine wk_same_p F (c6_volumesOf l D cI cP hs σ p1 hs_okL) (cwV 1 F.hts gX6_pieceOf_X6_volumesOf rfl rfl rfl hdX6_volumesOf ⟨Nat.le_of_ble_eq_true rfl, Nat.le_of_ble_eq_true rfl⟩) 0 6 rfl rfl rfl rfl (Nat.le_of_ble_eq_true rfl) dX6_pieceOf_64 ⟨Nat.zero_le _, Nat.zero_le _⟩ (pc' := 67) rfl ?_
            exact hret _ _ _ dX6_pieceOf_67 rfl (Eq.symm (by rw [f6_pieceOf] <;> exact (st_neg c1 (st_neg c2 (st_neg c3 (st_neg c4 (st_neg c5 rfl)))))))
          · refine wk_aload_n F dX6_pieceOf_54 rfl 0 rfl (pc' := 55) rfl ?_
            refine wk_iload_n F dX6_pieceOf_55 rfl 1 rfl (pc' := 56) rfl ?_
            refine wk_same_p F (c6_owners l D cI cP hs σ p1 hs_okL) (cwV 1 F.hts gX6_pieceOf_X6_owners rfl rfl rfl hdX6_owners ⟨Nat.le_of_ble_eq_true rfl, Nat.le_of_ble_eq_true rfl⟩) 0 6 rfl rfl rfl rfl (Nat.le_of_ble_eq_true rfl) dX6_pieceOf_56 ⟨Nat.zero_le _, Nat.zero_le _⟩ (pc' := 59) rfl ?_
            refine wk_goto (tgt := 67) F dX6_pieceOf_59 (by decide) ?_
            exact hret _ _ _ dX6_pieceOf_67 rfl (Eq.symm (by rw [f6_pieceOf] <;> exact (st_neg c1 (st_neg c2 (st_neg c3 (st_neg c4 (st_pos c5 rfl)))))))
        · refine wk_aload_n F dX6_pieceOf_37 rfl 0 rfl (pc' := 38) rfl ?_
          refine wk_get (C := RX6) (T := TX6) (N := 12) F 0 rfl rfl k_6 0 (Nat.le_of_ble_eq_true rfl) w_3 rfl dX6_pieceOf_38 (pc' := 41) rfl ?_
          refine wk_bipush F dX6_pieceOf_41 bp_7 (pc' := 43) rfl ?_
          refine wk_iload_n F dX6_pieceOf_43 rfl 1 rfl (pc' := 44) rfl ?_
          refine wk_iadd F dX6_pieceOf_44 (pc' := 45) rfl ?_
          refine wk_iald F 1 0 rfl rfl (vin_mono (in37 (in_of c1 (Nat.le_of_ble_eq_true rfl))) (Nat.le_of_ble_eq_true rfl)) dX6_pieceOf_45 (pc' := 46) rfl ?_
          refine wk_goto (tgt := 67) F dX6_pieceOf_46 (by decide) ?_
          exact hret _ _ _ dX6_pieceOf_67 rfl (Eq.symm (by rw [f6_pieceOf] <;> exact (st_neg c1 (st_neg c2 (st_neg c3 (st_pos c4 rfl))))))
      · refine wk_ldc F dX6_pieceOf_30 w_2 (pc' := 32) rfl ?_
        exact hret _ _ _ dX6_pieceOf_32 rfl (Eq.symm (by rw [f6_pieceOf] <;> exact (st_neg c1 (st_neg c2 (st_pos c3 rfl)))))
    · refine wk_ldc F dX6_pieceOf_19 w_1 (pc' := 21) rfl ?_
      exact hret _ _ _ dX6_pieceOf_21 rfl (Eq.symm (by rw [f6_pieceOf] <;> exact (st_neg c1 (st_pos c2 rfl))))
def okW (u : PS) : Prop := (u 0 6).toInt ≤ 10
theorem ix_warn {u : PS} {x w : Int32} (h0 : ¬ x < 0) (h1 : ¬ u 0 6 ≤ x) (hW : okW u) (hw : vp_in w 3) : vp_in (37 + 3 * x + w) 443 := by
  obtain ⟨j, hj, rfl⟩ := nI_of h0
  obtain ⟨k, hk, rfl⟩ := vp_in_of hw (by decide)
  have hj2 : j < 10 := by
    rcases Nat.lt_or_ge j 10 with q | q
    · exact q
    · refine absurd ?_ h1
      rw [Int32.le_iff_toInt_le, nI_toInt hj]
      have : (u 0 6).toInt ≤ 10 := hW
      omega
  have e : (37 : Int32) + 3 * nI j + nI k = nI (37 + 3 * j + k) := by
    rw [← nI_add, ← nI_add, ← pk_mul]; rfl
  rw [e]
  exact vp_in_nI (by omega) (by decide)
def f6_warningOf (σ : PS) (p1 : Int32) (p2 : Int32) : Int32 := (if p1 < 0 then (-1000001 : Int32) else (if (f6_in p2 (0 : Int32) (2 : Int32)) = 0 then (-1000001 : Int32) else (if (σ 0 6) ≤ p1 then (-1000004 : Int32) else σ 0 (((37 : Int32) + ((3 : Int32) * p1)) + p2).toNatClampNeg)))
set_option maxHeartbeats 4000000 in
set_option maxRecDepth 100000 in
theorem c6_warningOf (l : Launch) (D : va_G) (cI cP : ClassId) (hs : Nat → Nat) (σ : PS) (p1 : Int32) (p2 : Int32) (hs_okW : okW σ) : CP l yX6_warningOf wsX6_warningOf ({ frames := 1, cells := 0, slots := 0, locals := 22 } : Room) D (cty cI cP) (wMod cI hs) σ [.ref (hs 0), .int p1, .int p2] (f6_warningOf σ p1 p2) := by
  refine CP.of (cc := cX6_warningOf) (maxL := 3) (rt := .int) (own := RX6) (lv0 := [(0, .ref (hs 0)), (1, .int p1), (2, .int p2)]) pnX6 rfl rfl (Nat.le_of_ble_eq_true rfl) rfl (fun p e s m args below meth c A Q F hret => ?_)
  have w_1 := F.at (x := Cond.constant RX6 86 (-1000001)) 1 rfl
  have w_2 := F.at (x := Cond.fieldLink RX6 7 "ThinVolumesModel" "s" "[I") 2 rfl
  have w_3 := F.at (x := Cond.constant RX6 65 (-1000004)) 3 rfl
  have k_6 : ∀ w ∈ wsX60, w ∈ wsX6_warningOf := fun _ h => List.mem_cons_of_mem _ (List.mem_append_right _ (h))
  refine wk_iload_n F dX6_warningOf_0 rfl 1 rfl (pc' := 1) rfl ?_
  refine wk_if_lt (tgt := 13) F dX6_warningOf_1 (by decide) (pc' := 4) rfl (fun c1 => ?_) (fun c1 => ?_)
  · refine wk_ldc F dX6_warningOf_13 w_1 (pc' := 15) rfl ?_
    exact hret _ _ _ dX6_warningOf_15 rfl (Eq.symm (by rw [f6_warningOf] <;> exact (st_pos c1 rfl)))
  · refine wk_iload_n F dX6_warningOf_4 rfl 2 rfl (pc' := 5) rfl ?_
    refine wk_iconst F dX6_warningOf_5 ic_0 (pc' := 6) rfl ?_
    refine wk_iconst F dX6_warningOf_6 ic_2 (pc' := 7) rfl ?_
    refine wk_none_s F (c6_in l D cI cP p2 (0 : Int32) (2 : Int32)) (va_cwS 3 F.hts gX6_warningOf_X6_in rfl rfl rfl hdX6_in ⟨Nat.le_of_ble_eq_true rfl, Nat.le_of_ble_eq_true rfl⟩) rfl rfl (Nat.le_of_ble_eq_true rfl) dX6_warningOf_7 ⟨Nat.zero_le _, Nat.zero_le _⟩ (pc' := 10) rfl ?_
    refine wk_if_ne (tgt := 16) F dX6_warningOf_10 (by decide) (pc' := 13) rfl (fun c2 => ?_) (fun c2 => ?_)
    · refine wk_iload_n F dX6_warningOf_16 rfl 1 rfl (pc' := 17) rfl ?_
      refine wk_aload_n F dX6_warningOf_17 rfl 0 rfl (pc' := 18) rfl ?_
      refine wk_get (C := RX6) (T := TX6) (N := 12) F 0 rfl rfl k_6 0 (Nat.le_of_ble_eq_true rfl) w_2 rfl dX6_warningOf_18 (pc' := 21) rfl ?_
      refine wk_bipush F dX6_warningOf_21 bp_6 (pc' := 23) rfl ?_
      refine wk_iald_n (i := 6) F 1 0 rfl rfl (by omega) (Nat.le_of_ble_eq_true rfl) dX6_warningOf_23 (pc' := 24) rfl ?_
      refine wk_icmp_ge (tgt := 43) F dX6_warningOf_24 (by decide) (pc' := 27) rfl (fun c3 => ?_) (fun c3 => ?_)
      · refine wk_ldc F dX6_warningOf_43 w_3 (pc' := 45) rfl ?_
        exact hret _ _ _ dX6_warningOf_45 rfl (Eq.symm (by rw [f6_warningOf] <;> exact (st_neg c1 (st_neg c2 (st_pos c3 rfl)))))
      · refine wk_aload_n F dX6_warningOf_27 rfl 0 rfl (pc' := 28) rfl ?_
        refine wk_get (C := RX6) (T := TX6) (N := 12) F 0 rfl rfl k_6 0 (Nat.le_of_ble_eq_true rfl) w_2 rfl dX6_warningOf_28 (pc' := 31) rfl ?_
        refine wk_bipush F dX6_warningOf_31 bp_37 (pc' := 33) rfl ?_
        refine wk_iconst F dX6_warningOf_33 ic_3 (pc' := 34) rfl ?_
        refine wk_iload_n F dX6_warningOf_34 rfl 1 rfl (pc' := 35) rfl ?_
        refine wk_imul F dX6_warningOf_35 (pc' := 36) rfl ?_
        refine wk_iadd F dX6_warningOf_36 (pc' := 37) rfl ?_
        refine wk_iload_n F dX6_warningOf_37 rfl 2 rfl (pc' := 38) rfl ?_
        refine wk_iadd F dX6_warningOf_38 (pc' := 39) rfl ?_
        refine wk_iald F 1 0 rfl rfl (ix_warn c1 c3 hs_okW (in_of c2 (Nat.le_of_ble_eq_true rfl))) dX6_warningOf_39 (pc' := 40) rfl ?_
        refine wk_goto (tgt := 45) F dX6_warningOf_40 (by decide) ?_
        exact hret _ _ _ dX6_warningOf_45 rfl (Eq.symm (by rw [f6_warningOf] <;> exact (st_neg c1 (st_neg c2 (st_neg c3 rfl)))))
    · refine wk_ldc F dX6_warningOf_13 w_1 (pc' := 15) rfl ?_
      exact hret _ _ _ dX6_warningOf_15 rfl (Eq.symm (by rw [f6_warningOf] <;> exact (st_neg c1 (st_pos c2 rfl))))
theorem fam_c {x : Int32} {N : Nat} : vp_in x N → vp_in x N := id
def f6_ranked_L12 (σ : PS) (p1 : Int32) : Nat → Nat → Int32 → Int32
  | 0, i, x2 => x2
  | n + 1, i, x2 => (if (f6_of σ (nI i) (0 : Int32)) = (1 : Int32) then (if (f6_rank σ (nI i)) = p1 then f6_ranked_L12 σ p1 n (i + 1) (nI i) else f6_ranked_L12 σ p1 n (i + 1) x2) else f6_ranked_L12 σ p1 n (i + 1) x2)
def f6_ranked (σ : PS) (p1 : Int32) : Int32 := (if 0 ≤ p1 then (sq (f6_ranked_L12 σ p1 8 0 (-1000004 : Int32)) (fun (y5 : Int32) => y5)) else (-1000001 : Int32))
set_option maxHeartbeats 4000000 in
set_option maxRecDepth 100000 in
theorem c6_ranked (l : Launch) (D : va_G) (cI cP : ClassId) (hs : Nat → Nat) (σ : PS) (p1 : Int32) : CP l yX6_ranked wsX6_ranked ({ frames := 2, cells := 0, slots := 0, locals := 46 } : Room) D (cty cI cP) (wMod cI hs) σ [.ref (hs 0), .int p1] (f6_ranked σ p1) := by
  refine CP.of (cc := cX6_ranked) (maxL := 4) (rt := .int) (own := RX6) (lv0 := [(0, .ref (hs 0)), (1, .int p1)]) pnX6 rfl rfl (Nat.le_of_ble_eq_true rfl) rfl (fun p e s m args below meth c A Q F hret => ?_)
  have w_2 := F.at (x := Cond.constant RX6 65 (-1000004)) 2 rfl
  have w_1 := F.at (x := Cond.constant RX6 86 (-1000001)) 1 rfl
  have L12 : ∀ (n : Nat) (i : Nat) (x2 : Int32), i + n = 8 → (∀ (y2 : Int32), f6_ranked_L12 σ p1 n i x2 = y2 → Wk p l e ({ frames := 2, cells := 0, slots := 0, locals := 46 } : Room) s m args below meth c 4 D A 0 0 Q (wMod cI hs σ) [(2, .int y2)] 49 []) → Wk p l e ({ frames := 2, cells := 0, slots := 0, locals := 46 } : Room) s m args below meth c 4 D A 0 0 Q (wMod cI hs σ) [(0, .ref (hs 0)), (1, .int p1), (2, .int x2), (3, .int (nI i))] 12 [] := by
    intro n
    induction n with
    | zero =>
      intro i x2 hi kx
      refine wk_iload_n F dX6_ranked_12 rfl 3 rfl (pc' := 13) rfl ?_
      refine wk_bipush F dX6_ranked_13 bp_8 (pc' := 15) rfl ?_
      refine wk_icmp_ge (tgt := 49) F dX6_ranked_15 (by decide) (pc' := 18) rfl (fun _ => ?_) (fun c => absurd ((nI_leI (a := 8) (b := i) (by omega) (by omega)).mpr (by omega)) c)
      refine wk_lv [2] rfl ?_
      exact kx x2 (by rw [f6_ranked_L12] <;> exact rfl)
    | succ n ih =>
      intro i x2 hi kx
      refine wk_iload_n F dX6_ranked_12 rfl 3 rfl (pc' := 13) rfl ?_
      refine wk_bipush F dX6_ranked_13 bp_8 (pc' := 15) rfl ?_
      refine wk_icmp_ge (tgt := 49) F dX6_ranked_15 (by decide) (pc' := 18) rfl (fun c => absurd ((nI_leI (a := 8) (b := i) (by omega) (by omega)).mp c) (by omega)) (fun _ => ?_)
      refine wk_aload_n F dX6_ranked_18 rfl 0 rfl (pc' := 19) rfl ?_
      refine wk_iload_n F dX6_ranked_19 rfl 3 rfl (pc' := 20) rfl ?_
      refine wk_iconst F dX6_ranked_20 ic_0 (pc' := 21) rfl ?_
      refine wk_same_p F (c6_of l D cI cP hs σ (nI i) (0 : Int32) (vp_in_nI (n := i) (N := 8) (by omega) (Nat.le_of_ble_eq_true rfl)) (vp_in_nI (n := 0) (N := 47) (Nat.le_of_ble_eq_true rfl) (Nat.le_of_ble_eq_true rfl))) (cwV 2 F.hts gX6_ranked_X6_of rfl rfl rfl hdX6_of ⟨Nat.le_of_ble_eq_true rfl, Nat.le_of_ble_eq_true rfl⟩) 0 6 rfl rfl rfl rfl (Nat.le_of_ble_eq_true rfl) dX6_ranked_21 ⟨Nat.zero_le _, Nat.zero_le _⟩ (pc' := 24) rfl ?_
      refine wk_iconst F dX6_ranked_24 ic_1 (pc' := 25) rfl ?_
      refine wk_icmp_ne (tgt := 41) F dX6_ranked_25 (by decide) (pc' := 28) rfl (fun c1 => ?_) (fun c1 => ?_)
      · refine wk_iload_n F dX6_ranked_41 rfl 2 rfl (pc' := 42) rfl ?_
        refine wk_istore_n (lv' := [(2, .int x2), (0, .ref (hs 0)), (1, .int p1), (3, .int (nI i))]) F dX6_ranked_42 rfl (Nat.le_of_ble_eq_true rfl) rfl (pc' := 43) rfl ?_
        refine wk_iinc (k := 3) (v := nI (i + 1)) (lv' := [(3, .int (nI (i + 1))), (2, .int x2), (0, .ref (hs 0)), (1, .int p1)]) F dX6_ranked_43 rfl (nI_inc i) (Nat.le_of_ble_eq_true rfl) rfl (pc' := 46) rfl ?_
        refine wk_goto (tgt := 12) F dX6_ranked_46 (by decide) ?_
        refine wk_lv [2, 3, 1, 0] rfl ?_
        exact ih (i + 1) x2 (by omega) (fun y2_ h_ => kx y2_ (Eq.trans (by rw [f6_ranked_L12] <;> exact (st_neg c1 rfl)) h_))
      · refine wk_aload_n F dX6_ranked_28 rfl 0 rfl (pc' := 29) rfl ?_
        refine wk_iload_n F dX6_ranked_29 rfl 3 rfl (pc' := 30) rfl ?_
        refine wk_same_p F (c6_rank l D cI cP hs σ (nI i) (vp_in_nI (n := i) (N := 8) (by omega) (Nat.le_of_ble_eq_true rfl))) (cwV 1 F.hts gX6_ranked_X6_rank rfl rfl rfl hdX6_rank ⟨Nat.le_of_ble_eq_true rfl, Nat.le_of_ble_eq_true rfl⟩) 0 6 rfl rfl rfl rfl (Nat.le_of_ble_eq_true rfl) dX6_ranked_30 ⟨Nat.zero_le _, Nat.zero_le _⟩ (pc' := 33) rfl ?_
        refine wk_iload_n F dX6_ranked_33 rfl 1 rfl (pc' := 34) rfl ?_
        refine wk_icmp_ne (tgt := 41) F dX6_ranked_34 (by decide) (pc' := 37) rfl (fun c2 => ?_) (fun c2 => ?_)
        · refine wk_iload_n F dX6_ranked_41 rfl 2 rfl (pc' := 42) rfl ?_
          refine wk_istore_n (lv' := [(2, .int x2), (0, .ref (hs 0)), (1, .int p1), (3, .int (nI i))]) F dX6_ranked_42 rfl (Nat.le_of_ble_eq_true rfl) rfl (pc' := 43) rfl ?_
          refine wk_iinc (k := 3) (v := nI (i + 1)) (lv' := [(3, .int (nI (i + 1))), (2, .int x2), (0, .ref (hs 0)), (1, .int p1)]) F dX6_ranked_43 rfl (nI_inc i) (Nat.le_of_ble_eq_true rfl) rfl (pc' := 46) rfl ?_
          refine wk_goto (tgt := 12) F dX6_ranked_46 (by decide) ?_
          refine wk_lv [2, 3, 1, 0] rfl ?_
          exact ih (i + 1) x2 (by omega) (fun y2_ h_ => kx y2_ (Eq.trans (by rw [f6_ranked_L12] <;> exact (st_pos c1 (st_neg c2 rfl))) h_))
        · refine wk_iload_n F dX6_ranked_37 rfl 3 rfl (pc' := 38) rfl ?_
          refine wk_goto (tgt := 42) F dX6_ranked_38 (by decide) ?_
          refine wk_istore_n (lv' := [(2, .int (nI i)), (0, .ref (hs 0)), (1, .int p1), (3, .int (nI i))]) F dX6_ranked_42 rfl (Nat.le_of_ble_eq_true rfl) rfl (pc' := 43) rfl ?_
          refine wk_iinc (k := 3) (v := nI (i + 1)) (lv' := [(3, .int (nI (i + 1))), (2, .int (nI i)), (0, .ref (hs 0)), (1, .int p1)]) F dX6_ranked_43 rfl (nI_inc i) (Nat.le_of_ble_eq_true rfl) rfl (pc' := 46) rfl ?_
          refine wk_goto (tgt := 12) F dX6_ranked_46 (by decide) ?_
          refine wk_lv [2, 3, 1, 0] rfl ?_
          exact ih (i + 1) (nI i) (by omega) (fun y2_ h_ => kx y2_ (Eq.trans (by rw [f6_ranked_L12] <;> exact (st_pos c1 (st_pos c2 rfl))) h_))
  refine wk_iload_n F dX6_ranked_0 rfl 1 rfl (pc' := 1) rfl ?_
  refine wk_if_ge (tgt := 7) F dX6_ranked_1 (by decide) (pc' := 4) rfl (fun c3 => ?_) (fun c3 => ?_)
  · refine wk_ldc F dX6_ranked_7 w_2 (pc' := 9) rfl ?_
    refine wk_istore_n (lv' := [(2, .int (-1000004 : Int32)), (0, .ref (hs 0)), (1, .int p1)]) F dX6_ranked_9 rfl (Nat.le_of_ble_eq_true rfl) rfl (pc' := 10) rfl ?_
    refine wk_iconst F dX6_ranked_10 ic_0 (pc' := 11) rfl ?_
    refine wk_istore_n (lv' := [(3, .int (0 : Int32)), (2, .int (-1000004 : Int32)), (0, .ref (hs 0)), (1, .int p1)]) F dX6_ranked_11 rfl (Nat.le_of_ble_eq_true rfl) rfl (pc' := 12) rfl ?_
    refine wk_lv [2, 3, 1, 0] rfl ?_
    refine L12 8 0 (-1000004 : Int32) (by omega) (fun y5 h4 => ?_)
    refine wk_iload_n F dX6_ranked_49 rfl 0 rfl (pc' := 50) rfl ?_
    exact hret _ _ _ dX6_ranked_50 rfl (Eq.symm (by rw [f6_ranked] <;> exact (st_pos c3 (st_let h4 rfl))))
  · refine wk_ldc F dX6_ranked_4 w_1 (pc' := 6) rfl ?_
    exact hret _ _ _ dX6_ranked_6 rfl (Eq.symm (by rw [f6_ranked] <;> exact (st_neg c3 rfl)))
def f6_living_L4 (σ : PS) (p1 : Int32) : Nat → Nat → Int32 → Int32
  | 0, i, x2 => x2
  | n + 1, i, x2 => (if (f6_of σ (nI i) (0 : Int32)) = 0 then f6_living_L4 σ p1 n (i + 1) (x2 + (0 : Int32)) else (if p1 = 0 then f6_living_L4 σ p1 n (i + 1) (x2 + (1 : Int32)) else (if p1 = (1 : Int32) then f6_living_L4 σ p1 n (i + 1) (x2 + (f6_of σ (nI i) (1 : Int32))) else f6_living_L4 σ p1 n (i + 1) (x2 + (f6_filled σ (nI i))))))
def f6_living (σ : PS) (p1 : Int32) : Int32 := (sq (f6_living_L4 σ p1 8 0 (0 : Int32)) (fun (y5 : Int32) => y5))
set_option maxHeartbeats 4000000 in
set_option maxRecDepth 100000 in
theorem c6_living (l : Launch) (D : va_G) (cI cP : ClassId) (hs : Nat → Nat) (σ : PS) (p1 : Int32) (hs_okL : okL σ) : CP l yX6_living wsX6_living ({ frames := 3, cells := 0, slots := 0, locals := 67 } : Room) D (cty cI cP) (wMod cI hs) σ [.ref (hs 0), .int p1] (f6_living σ p1) := by
  refine CP.of (cc := cX6_living) (maxL := 4) (rt := .int) (own := RX6) (lv0 := [(0, .ref (hs 0)), (1, .int p1)]) pnX6 rfl rfl (Nat.le_of_ble_eq_true rfl) rfl (fun p e s m args below meth c A Q F hret => ?_)
  have L4 : ∀ (n : Nat) (i : Nat) (x2 : Int32), i + n = 8 → (∀ (y2 : Int32), f6_living_L4 σ p1 n i x2 = y2 → Wk p l e ({ frames := 3, cells := 0, slots := 0, locals := 67 } : Room) s m args below meth c 4 D A 0 0 Q (wMod cI hs σ) [(2, .int y2)] 59 []) → Wk p l e ({ frames := 3, cells := 0, slots := 0, locals := 67 } : Room) s m args below meth c 4 D A 0 0 Q (wMod cI hs σ) [(0, .ref (hs 0)), (1, .int p1), (2, .int x2), (3, .int (nI i))] 4 [] := by
    intro n
    induction n with
    | zero =>
      intro i x2 hi kx
      refine wk_iload_n F dX6_living_4 rfl 3 rfl (pc' := 5) rfl ?_
      refine wk_bipush F dX6_living_5 bp_8 (pc' := 7) rfl ?_
      refine wk_icmp_ge (tgt := 59) F dX6_living_7 (by decide) (pc' := 10) rfl (fun _ => ?_) (fun c => absurd ((nI_leI (a := 8) (b := i) (by omega) (by omega)).mpr (by omega)) c)
      refine wk_lv [2] rfl ?_
      exact kx x2 (by rw [f6_living_L4] <;> exact rfl)
    | succ n ih =>
      intro i x2 hi kx
      refine wk_iload_n F dX6_living_4 rfl 3 rfl (pc' := 5) rfl ?_
      refine wk_bipush F dX6_living_5 bp_8 (pc' := 7) rfl ?_
      refine wk_icmp_ge (tgt := 59) F dX6_living_7 (by decide) (pc' := 10) rfl (fun c => absurd ((nI_leI (a := 8) (b := i) (by omega) (by omega)).mp c) (by omega)) (fun _ => ?_)
      refine wk_iload_n F dX6_living_10 rfl 2 rfl (pc' := 11) rfl ?_
      refine wk_aload_n F dX6_living_11 rfl 0 rfl (pc' := 12) rfl ?_
      refine wk_iload_n F dX6_living_12 rfl 3 rfl (pc' := 13) rfl ?_
      refine wk_iconst F dX6_living_13 ic_0 (pc' := 14) rfl ?_
      refine wk_same_p F (c6_of l D cI cP hs σ (nI i) (0 : Int32) (vp_in_nI (n := i) (N := 8) (by omega) (Nat.le_of_ble_eq_true rfl)) (vp_in_nI (n := 0) (N := 47) (Nat.le_of_ble_eq_true rfl) (Nat.le_of_ble_eq_true rfl))) (cwV 2 F.hts gX6_living_X6_of rfl rfl rfl hdX6_of ⟨Nat.le_of_ble_eq_true rfl, Nat.le_of_ble_eq_true rfl⟩) 0 6 rfl rfl rfl rfl (Nat.le_of_ble_eq_true rfl) dX6_living_14 ⟨Nat.zero_le _, Nat.zero_le _⟩ (pc' := 17) rfl ?_
      refine wk_if_ne (tgt := 24) F dX6_living_17 (by decide) (pc' := 20) rfl (fun c1 => ?_) (fun c1 => ?_)
      · refine wk_iload_n F dX6_living_24 rfl 1 rfl (pc' := 25) rfl ?_
        refine wk_if_ne (tgt := 32) F dX6_living_25 (by decide) (pc' := 28) rfl (fun c2 => ?_) (fun c2 => ?_)
        · refine wk_iload_n F dX6_living_32 rfl 1 rfl (pc' := 33) rfl ?_
          refine wk_iconst F dX6_living_33 ic_1 (pc' := 34) rfl ?_
          refine wk_icmp_ne (tgt := 46) F dX6_living_34 (by decide) (pc' := 37) rfl (fun c3 => ?_) (fun c3 => ?_)
          · refine wk_aload_n F dX6_living_46 rfl 0 rfl (pc' := 47) rfl ?_
            refine wk_iload_n F dX6_living_47 rfl 3 rfl (pc' := 48) rfl ?_
            refine wk_same_p F (c6_filled l D cI cP hs σ (nI i) (vp_in_nI (n := i) (N := 8) (by omega) (Nat.le_of_ble_eq_true rfl)) hs_okL) (cwV 1 F.hts gX6_living_X6_filled rfl rfl rfl hdX6_filled ⟨Nat.le_of_ble_eq_true rfl, Nat.le_of_ble_eq_true rfl⟩) 0 6 rfl rfl rfl rfl (Nat.le_of_ble_eq_true rfl) dX6_living_48 ⟨Nat.zero_le _, Nat.zero_le _⟩ (pc' := 51) rfl ?_
            refine wk_iadd F dX6_living_51 (pc' := 52) rfl ?_
            refine wk_istore_n (lv' := [(2, .int (x2 + (f6_filled σ (nI i)))), (0, .ref (hs 0)), (1, .int p1), (3, .int (nI i))]) F dX6_living_52 rfl (Nat.le_of_ble_eq_true rfl) rfl (pc' := 53) rfl ?_
            refine wk_iinc (k := 3) (v := nI (i + 1)) (lv' := [(3, .int (nI (i + 1))), (2, .int (x2 + (f6_filled σ (nI i)))), (0, .ref (hs 0)), (1, .int p1)]) F dX6_living_53 rfl (nI_inc i) (Nat.le_of_ble_eq_true rfl) rfl (pc' := 56) rfl ?_
            refine wk_goto (tgt := 4) F dX6_living_56 (by decide) ?_
            refine wk_lv [2, 3, 1, 0] rfl ?_
            exact ih (i + 1) (x2 + (f6_filled σ (nI i))) (by omega) (fun y2_ h_ => kx y2_ (Eq.trans (by rw [f6_living_L4] <;> exact (st_neg c1 (st_neg c2 (st_neg c3 rfl)))) h_))
          · refine wk_aload_n F dX6_living_37 rfl 0 rfl (pc' := 38) rfl ?_
            refine wk_iload_n F dX6_living_38 rfl 3 rfl (pc' := 39) rfl ?_
            refine wk_iconst F dX6_living_39 ic_1 (pc' := 40) rfl ?_
            refine wk_same_p F (c6_of l D cI cP hs σ (nI i) (1 : Int32) (vp_in_nI (n := i) (N := 8) (by omega) (Nat.le_of_ble_eq_true rfl)) (vp_in_nI (n := 1) (N := 47) (Nat.le_of_ble_eq_true rfl) (Nat.le_of_ble_eq_true rfl))) (cwV 2 F.hts gX6_living_X6_of rfl rfl rfl hdX6_of ⟨Nat.le_of_ble_eq_true rfl, Nat.le_of_ble_eq_true rfl⟩) 0 6 rfl rfl rfl rfl (Nat.le_of_ble_eq_true rfl) dX6_living_40 ⟨Nat.zero_le _, Nat.zero_le _⟩ (pc' := 43) rfl ?_
            refine wk_goto (tgt := 51) F dX6_living_43 (by decide) ?_
            refine wk_iadd F dX6_living_51 (pc' := 52) rfl ?_
            refine wk_istore_n (lv' := [(2, .int (x2 + (f6_of σ (nI i) (1 : Int32)))), (0, .ref (hs 0)), (1, .int p1), (3, .int (nI i))]) F dX6_living_52 rfl (Nat.le_of_ble_eq_true rfl) rfl (pc' := 53) rfl ?_
            refine wk_iinc (k := 3) (v := nI (i + 1)) (lv' := [(3, .int (nI (i + 1))), (2, .int (x2 + (f6_of σ (nI i) (1 : Int32)))), (0, .ref (hs 0)), (1, .int p1)]) F dX6_living_53 rfl (nI_inc i) (Nat.le_of_ble_eq_true rfl) rfl (pc' := 56) rfl ?_
            refine wk_goto (tgt := 4) F dX6_living_56 (by decide) ?_
            refine wk_lv [2, 3, 1, 0] rfl ?_
            exact ih (i + 1) (x2 + (f6_of σ (nI i) (1 : Int32))) (by omega) (fun y2_ h_ => kx y2_ (Eq.trans (by rw [f6_living_L4] <;> exact (st_neg c1 (st_neg c2 (st_pos c3 rfl)))) h_))
        · refine wk_iconst F dX6_living_28 ic_1 (pc' := 29) rfl ?_
          refine wk_goto (tgt := 51) F dX6_living_29 (by decide) ?_
          refine wk_iadd F dX6_living_51 (pc' := 52) rfl ?_
          refine wk_istore_n (lv' := [(2, .int (x2 + (1 : Int32))), (0, .ref (hs 0)), (1, .int p1), (3, .int (nI i))]) F dX6_living_52 rfl (Nat.le_of_ble_eq_true rfl) rfl (pc' := 53) rfl ?_
          refine wk_iinc (k := 3) (v := nI (i + 1)) (lv' := [(3, .int (nI (i + 1))), (2, .int (x2 + (1 : Int32))), (0, .ref (hs 0)), (1, .int p1)]) F dX6_living_53 rfl (nI_inc i) (Nat.le_of_ble_eq_true rfl) rfl (pc' := 56) rfl ?_
          refine wk_goto (tgt := 4) F dX6_living_56 (by decide) ?_
          refine wk_lv [2, 3, 1, 0] rfl ?_
          exact ih (i + 1) (x2 + (1 : Int32)) (by omega) (fun y2_ h_ => kx y2_ (Eq.trans (by rw [f6_living_L4] <;> exact (st_neg c1 (st_pos c2 rfl))) h_))
      · refine wk_iconst F dX6_living_20 ic_0 (pc' := 21) rfl ?_
        refine wk_goto (tgt := 51) F dX6_living_21 (by decide) ?_
        refine wk_iadd F dX6_living_51 (pc' := 52) rfl ?_
        refine wk_istore_n (lv' := [(2, .int (x2 + (0 : Int32))), (0, .ref (hs 0)), (1, .int p1), (3, .int (nI i))]) F dX6_living_52 rfl (Nat.le_of_ble_eq_true rfl) rfl (pc' := 53) rfl ?_
        refine wk_iinc (k := 3) (v := nI (i + 1)) (lv' := [(3, .int (nI (i + 1))), (2, .int (x2 + (0 : Int32))), (0, .ref (hs 0)), (1, .int p1)]) F dX6_living_53 rfl (nI_inc i) (Nat.le_of_ble_eq_true rfl) rfl (pc' := 56) rfl ?_
        refine wk_goto (tgt := 4) F dX6_living_56 (by decide) ?_
        refine wk_lv [2, 3, 1, 0] rfl ?_
        exact ih (i + 1) (x2 + (0 : Int32)) (by omega) (fun y2_ h_ => kx y2_ (Eq.trans (by rw [f6_living_L4] <;> exact (st_pos c1 rfl)) h_))
  refine wk_iconst F dX6_living_0 ic_0 (pc' := 1) rfl ?_
  refine wk_istore_n (lv' := [(2, .int (0 : Int32)), (0, .ref (hs 0)), (1, .int p1)]) F dX6_living_1 rfl (Nat.le_of_ble_eq_true rfl) rfl (pc' := 2) rfl ?_
  refine wk_iconst F dX6_living_2 ic_0 (pc' := 3) rfl ?_
  refine wk_istore_n (lv' := [(3, .int (0 : Int32)), (2, .int (0 : Int32)), (0, .ref (hs 0)), (1, .int p1)]) F dX6_living_3 rfl (Nat.le_of_ble_eq_true rfl) rfl (pc' := 4) rfl ?_
  refine wk_lv [2, 3, 1, 0] rfl ?_
  refine L4 8 0 (0 : Int32) (by omega) (fun y5 h4 => ?_)
  refine wk_iload_n F dX6_living_59 rfl 0 rfl (pc' := 60) rfl ?_
  exact hret _ _ _ dX6_living_60 rfl (Eq.symm (by rw [f6_living] <;> exact (st_let h4 rfl)))
def f6_shared_L4 (σ : PS) : Nat → Nat → Int32 → Int32
  | 0, i, x1 => x1
  | n + 1, i, x1 => (if (f6_owners σ (nI i)) ≤ (1 : Int32) then f6_shared_L4 σ n (i + 1) (x1 + (0 : Int32)) else f6_shared_L4 σ n (i + 1) (x1 + (1 : Int32)))
def f6_shared (σ : PS) : Int32 := (sq (f6_shared_L4 σ 30 0 (0 : Int32)) (fun (y3 : Int32) => y3))
set_option maxHeartbeats 4000000 in
set_option maxRecDepth 100000 in
theorem c6_shared (l : Launch) (D : va_G) (cI cP : ClassId) (hs : Nat → Nat) (σ : PS) (hs_okL : okL σ) : CP l yX6_shared wsX6_shared ({ frames := 4, cells := 0, slots := 0, locals := 91 } : Room) D (cty cI cP) (wMod cI hs) σ [.ref (hs 0)] (f6_shared σ) := by
  refine CP.of (cc := cX6_shared) (maxL := 3) (rt := .int) (own := RX6) (lv0 := [(0, .ref (hs 0))]) pnX6 rfl rfl (Nat.le_of_ble_eq_true rfl) rfl (fun p e s m args below meth c A Q F hret => ?_)
  have L4 : ∀ (n : Nat) (i : Nat) (x1 : Int32), i + n = 30 → (∀ (y1 : Int32), f6_shared_L4 σ n i x1 = y1 → Wk p l e ({ frames := 4, cells := 0, slots := 0, locals := 91 } : Room) s m args below meth c 3 D A 0 0 Q (wMod cI hs σ) [(1, .int y1)] 33 []) → Wk p l e ({ frames := 4, cells := 0, slots := 0, locals := 91 } : Room) s m args below meth c 3 D A 0 0 Q (wMod cI hs σ) [(0, .ref (hs 0)), (1, .int x1), (2, .int (nI i))] 4 [] := by
    intro n
    induction n with
    | zero =>
      intro i x1 hi kx
      refine wk_iload_n F dX6_shared_4 rfl 2 rfl (pc' := 5) rfl ?_
      refine wk_bipush F dX6_shared_5 bp_30 (pc' := 7) rfl ?_
      refine wk_icmp_ge (tgt := 33) F dX6_shared_7 (by decide) (pc' := 10) rfl (fun _ => ?_) (fun c => absurd ((nI_leI (a := 30) (b := i) (by omega) (by omega)).mpr (by omega)) c)
      refine wk_lv [1] rfl ?_
      exact kx x1 (by rw [f6_shared_L4] <;> exact rfl)
    | succ n ih =>
      intro i x1 hi kx
      refine wk_iload_n F dX6_shared_4 rfl 2 rfl (pc' := 5) rfl ?_
      refine wk_bipush F dX6_shared_5 bp_30 (pc' := 7) rfl ?_
      refine wk_icmp_ge (tgt := 33) F dX6_shared_7 (by decide) (pc' := 10) rfl (fun c => absurd ((nI_leI (a := 30) (b := i) (by omega) (by omega)).mp c) (by omega)) (fun _ => ?_)
      refine wk_iload_n F dX6_shared_10 rfl 1 rfl (pc' := 11) rfl ?_
      refine wk_aload_n F dX6_shared_11 rfl 0 rfl (pc' := 12) rfl ?_
      refine wk_iload_n F dX6_shared_12 rfl 2 rfl (pc' := 13) rfl ?_
      refine wk_same_p F (c6_owners l D cI cP hs σ (nI i) hs_okL) (cwV 1 F.hts gX6_shared_X6_owners rfl rfl rfl hdX6_owners ⟨Nat.le_of_ble_eq_true rfl, Nat.le_of_ble_eq_true rfl⟩) 0 6 rfl rfl rfl rfl (Nat.le_of_ble_eq_true rfl) dX6_shared_13 ⟨Nat.zero_le _, Nat.zero_le _⟩ (pc' := 16) rfl ?_
      refine wk_iconst F dX6_shared_16 ic_1 (pc' := 17) rfl ?_
      refine wk_icmp_le (tgt := 24) F dX6_shared_17 (by decide) (pc' := 20) rfl (fun c1 => ?_) (fun c1 => ?_)
      · refine wk_iconst F dX6_shared_24 ic_0 (pc' := 25) rfl ?_
        refine wk_iadd F dX6_shared_25 (pc' := 26) rfl ?_
        refine wk_istore_n (lv' := [(1, .int (x1 + (0 : Int32))), (0, .ref (hs 0)), (2, .int (nI i))]) F dX6_shared_26 rfl (Nat.le_of_ble_eq_true rfl) rfl (pc' := 27) rfl ?_
        refine wk_iinc (k := 2) (v := nI (i + 1)) (lv' := [(2, .int (nI (i + 1))), (1, .int (x1 + (0 : Int32))), (0, .ref (hs 0))]) F dX6_shared_27 rfl (nI_inc i) (Nat.le_of_ble_eq_true rfl) rfl (pc' := 30) rfl ?_
        refine wk_goto (tgt := 4) F dX6_shared_30 (by decide) ?_
        refine wk_lv [2, 1, 0] rfl ?_
        exact ih (i + 1) (x1 + (0 : Int32)) (by omega) (fun y1_ h_ => kx y1_ (Eq.trans (by rw [f6_shared_L4] <;> exact (st_pos c1 rfl)) h_))
      · refine wk_iconst F dX6_shared_20 ic_1 (pc' := 21) rfl ?_
        refine wk_goto (tgt := 25) F dX6_shared_21 (by decide) ?_
        refine wk_iadd F dX6_shared_25 (pc' := 26) rfl ?_
        refine wk_istore_n (lv' := [(1, .int (x1 + (1 : Int32))), (0, .ref (hs 0)), (2, .int (nI i))]) F dX6_shared_26 rfl (Nat.le_of_ble_eq_true rfl) rfl (pc' := 27) rfl ?_
        refine wk_iinc (k := 2) (v := nI (i + 1)) (lv' := [(2, .int (nI (i + 1))), (1, .int (x1 + (1 : Int32))), (0, .ref (hs 0))]) F dX6_shared_27 rfl (nI_inc i) (Nat.le_of_ble_eq_true rfl) rfl (pc' := 30) rfl ?_
        refine wk_goto (tgt := 4) F dX6_shared_30 (by decide) ?_
        refine wk_lv [2, 1, 0] rfl ?_
        exact ih (i + 1) (x1 + (1 : Int32)) (by omega) (fun y1_ h_ => kx y1_ (Eq.trans (by rw [f6_shared_L4] <;> exact (st_neg c1 rfl)) h_))
  refine wk_iconst F dX6_shared_0 ic_0 (pc' := 1) rfl ?_
  refine wk_istore_n (lv' := [(1, .int (0 : Int32)), (0, .ref (hs 0))]) F dX6_shared_1 rfl (Nat.le_of_ble_eq_true rfl) rfl (pc' := 2) rfl ?_
  refine wk_iconst F dX6_shared_2 ic_0 (pc' := 3) rfl ?_
  refine wk_istore_n (lv' := [(2, .int (0 : Int32)), (1, .int (0 : Int32)), (0, .ref (hs 0))]) F dX6_shared_3 rfl (Nat.le_of_ble_eq_true rfl) rfl (pc' := 4) rfl ?_
  refine wk_lv [2, 1, 0] rfl ?_
  refine L4 30 0 (0 : Int32) (by omega) (fun y3 h2 => ?_)
  refine wk_iload_n F dX6_shared_33 rfl 0 rfl (pc' := 34) rfl ?_
  exact hret _ _ _ dX6_shared_34 rfl (Eq.symm (by rw [f6_shared] <;> exact (st_let h2 rfl)))
def f6_count (σ : PS) (p1 : Int32) : Int32 := (if p1 = (0 : Int32) then f6_living σ (0 : Int32) else (if p1 = (1 : Int32) then f6_free σ else (if p1 = (2 : Int32) then f6_available σ else (if p1 = (3 : Int32) then f6_levelBy σ (f6_available σ) else (if p1 = (4 : Int32) then f6_promises σ else (if p1 = (5 : Int32) then f6_living σ (2 : Int32) else (if p1 = (6 : Int32) then f6_shared σ else (if p1 = (7 : Int32) then σ 0 (((3 : Int32) + p1) - (7 : Int32)).toNatClampNeg else (if p1 = (8 : Int32) then σ 0 (((3 : Int32) + p1) - (7 : Int32)).toNatClampNeg else (if p1 = (9 : Int32) then σ 0 (((3 : Int32) + p1) - (7 : Int32)).toNatClampNeg else (if p1 = (10 : Int32) then σ 0 (((3 : Int32) + p1) - (7 : Int32)).toNatClampNeg else (if p1 = (11 : Int32) then σ 6 0 else (if p1 = (12 : Int32) then σ 6 2 else (if p1 = (20 : Int32) then σ 0 (p1 - (20 : Int32)).toNatClampNeg else (if p1 = (21 : Int32) then σ 0 (p1 - (20 : Int32)).toNatClampNeg else (if p1 = (22 : Int32) then σ 0 (p1 - (20 : Int32)).toNatClampNeg else (-1000001 : Int32)))))))))))))))))
set_option maxHeartbeats 4000000 in
set_option maxRecDepth 100000 in
theorem c6_count (l : Launch) (D : va_G) (cI cP : ClassId) (hs : Nat → Nat) (σ : PS) (p1 : Int32) (hs_okL : okL σ) : CP l yX6_count wsX6_count ({ frames := 6, cells := 0, slots := 0, locals := 133 } : Room) D (cty cI cP) (wMod cI hs) σ [.ref (hs 0), .int p1] (f6_count σ p1) := by
  refine CP.of (cc := cX6_count) (maxL := 2) (rt := .int) (own := RX6) (lv0 := [(0, .ref (hs 0)), (1, .int p1)]) pnX6 rfl rfl (Nat.le_of_ble_eq_true rfl) rfl (fun p e s m args below meth c A Q F hret => ?_)
  have w_1 := F.at (x := Cond.fieldLink RX6 7 "ThinVolumesModel" "s" "[I") 1 rfl
  have w_2 := F.at (x := Cond.fieldLink RX6 32 "ThinVolumesModel" "pasts" "I") 2 rfl
  have w_3 := F.at (x := Cond.fieldLink RX6 150 "ThinVolumesModel" "typed" "I") 3 rfl
  have w_4 := F.at (x := Cond.constant RX6 86 (-1000001)) 4 rfl
  have k_6 : ∀ w ∈ wsX60, w ∈ wsX6_count := fun _ h => List.mem_cons_of_mem _ (List.mem_append_right _ (h))
  refine wk_iload_n F dX6_count_0 rfl 1 rfl (pc' := 1) rfl ?_
  by_cases c1 : p1 = (0 : Int32)
  · refine wk_top c1 ?_
    refine wk_tableIn (off := 107) (tgt := 108) F dX6_count_1 (by decide) (by decide) (by decide) (by decide) ?_
    refine wk_aload_n F dX6_count_108 rfl 0 rfl (pc' := 109) rfl ?_
    refine wk_iconst F dX6_count_109 ic_0 (pc' := 110) rfl ?_
    refine wk_same_p F (c6_living l D cI cP hs σ (0 : Int32) hs_okL) (cwV 1 F.hts gX6_count_X6_living rfl rfl rfl hdX6_living ⟨Nat.le_of_ble_eq_true rfl, Nat.le_of_ble_eq_true rfl⟩) 0 6 rfl rfl rfl rfl (Nat.le_of_ble_eq_true rfl) dX6_count_110 ⟨Nat.zero_le _, Nat.zero_le _⟩ (pc' := 113) rfl ?_
    exact hret _ _ _ dX6_count_113 rfl (Eq.symm (by rw [f6_count] <;> exact (st_pos c1 rfl)))
  by_cases c2 : p1 = (1 : Int32)
  · refine wk_top c2 ?_
    refine wk_tableIn (off := 113) (tgt := 114) F dX6_count_1 (by decide) (by decide) (by decide) (by decide) ?_
    refine wk_aload_n F dX6_count_114 rfl 0 rfl (pc' := 115) rfl ?_
    refine wk_same_p F (c6_free l D cI cP hs σ hs_okL) (cwV 0 F.hts gX6_count_X6_free rfl rfl rfl hdX6_free ⟨Nat.le_of_ble_eq_true rfl, Nat.le_of_ble_eq_true rfl⟩) 0 6 rfl rfl rfl rfl (Nat.le_of_ble_eq_true rfl) dX6_count_115 ⟨Nat.zero_le _, Nat.zero_le _⟩ (pc' := 118) rfl ?_
    exact hret _ _ _ dX6_count_118 rfl (Eq.symm (by rw [f6_count] <;> exact (st_neg c1 (st_pos c2 rfl))))
  by_cases c3 : p1 = (2 : Int32)
  · refine wk_top c3 ?_
    refine wk_tableIn (off := 118) (tgt := 119) F dX6_count_1 (by decide) (by decide) (by decide) (by decide) ?_
    refine wk_aload_n F dX6_count_119 rfl 0 rfl (pc' := 120) rfl ?_
    refine wk_same_p F (c6_available l D cI cP hs σ hs_okL) (cwV 0 F.hts gX6_count_X6_available rfl rfl rfl hdX6_available ⟨Nat.le_of_ble_eq_true rfl, Nat.le_of_ble_eq_true rfl⟩) 0 6 rfl rfl rfl rfl (Nat.le_of_ble_eq_true rfl) dX6_count_120 ⟨Nat.zero_le _, Nat.zero_le _⟩ (pc' := 123) rfl ?_
    exact hret _ _ _ dX6_count_123 rfl (Eq.symm (by rw [f6_count] <;> exact (st_neg c1 (st_neg c2 (st_pos c3 rfl)))))
  by_cases c4 : p1 = (3 : Int32)
  · refine wk_top c4 ?_
    refine wk_tableIn (off := 123) (tgt := 124) F dX6_count_1 (by decide) (by decide) (by decide) (by decide) ?_
    refine wk_aload_n F dX6_count_124 rfl 0 rfl (pc' := 125) rfl ?_
    refine wk_aload_n F dX6_count_125 rfl 0 rfl (pc' := 126) rfl ?_
    refine wk_same_p F (c6_available l D cI cP hs σ hs_okL) (cwV 0 F.hts gX6_count_X6_available rfl rfl rfl hdX6_available ⟨Nat.le_of_ble_eq_true rfl, Nat.le_of_ble_eq_true rfl⟩) 0 6 rfl rfl rfl rfl (Nat.le_of_ble_eq_true rfl) dX6_count_126 ⟨Nat.zero_le _, Nat.zero_le _⟩ (pc' := 129) rfl ?_
    refine wk_same_p F (c6_levelBy l D cI cP hs σ (f6_available σ)) (cwV 1 F.hts gX6_count_X6_levelBy rfl rfl rfl hdX6_levelBy ⟨Nat.le_of_ble_eq_true rfl, Nat.le_of_ble_eq_true rfl⟩) 0 6 rfl rfl rfl rfl (Nat.le_of_ble_eq_true rfl) dX6_count_129 ⟨Nat.zero_le _, Nat.zero_le _⟩ (pc' := 132) rfl ?_
    exact hret _ _ _ dX6_count_132 rfl (Eq.symm (by rw [f6_count] <;> exact (st_neg c1 (st_neg c2 (st_neg c3 (st_pos c4 rfl))))))
  by_cases c5 : p1 = (4 : Int32)
  · refine wk_top c5 ?_
    refine wk_tableIn (off := 132) (tgt := 133) F dX6_count_1 (by decide) (by decide) (by decide) (by decide) ?_
    refine wk_aload_n F dX6_count_133 rfl 0 rfl (pc' := 134) rfl ?_
    refine wk_same_p F (c6_promises l D cI cP hs σ) (cwV 0 F.hts gX6_count_X6_promises rfl rfl rfl hdX6_promises ⟨Nat.le_of_ble_eq_true rfl, Nat.le_of_ble_eq_true rfl⟩) 0 6 rfl rfl rfl rfl (Nat.le_of_ble_eq_true rfl) dX6_count_134 ⟨Nat.zero_le _, Nat.zero_le _⟩ (pc' := 137) rfl ?_
    exact hret _ _ _ dX6_count_137 rfl (Eq.symm (by rw [f6_count] <;> exact (st_neg c1 (st_neg c2 (st_neg c3 (st_neg c4 (st_pos c5 rfl)))))))
  by_cases c6 : p1 = (5 : Int32)
  · refine wk_top c6 ?_
    refine wk_tableIn (off := 137) (tgt := 138) F dX6_count_1 (by decide) (by decide) (by decide) (by decide) ?_
    refine wk_aload_n F dX6_count_138 rfl 0 rfl (pc' := 139) rfl ?_
    refine wk_iconst F dX6_count_139 ic_2 (pc' := 140) rfl ?_
    refine wk_same_p F (c6_living l D cI cP hs σ (2 : Int32) hs_okL) (cwV 1 F.hts gX6_count_X6_living rfl rfl rfl hdX6_living ⟨Nat.le_of_ble_eq_true rfl, Nat.le_of_ble_eq_true rfl⟩) 0 6 rfl rfl rfl rfl (Nat.le_of_ble_eq_true rfl) dX6_count_140 ⟨Nat.zero_le _, Nat.zero_le _⟩ (pc' := 143) rfl ?_
    exact hret _ _ _ dX6_count_143 rfl (Eq.symm (by rw [f6_count] <;> exact (st_neg c1 (st_neg c2 (st_neg c3 (st_neg c4 (st_neg c5 (st_pos c6 rfl))))))))
  by_cases c7 : p1 = (6 : Int32)
  · refine wk_top c7 ?_
    refine wk_tableIn (off := 143) (tgt := 144) F dX6_count_1 (by decide) (by decide) (by decide) (by decide) ?_
    refine wk_aload_n F dX6_count_144 rfl 0 rfl (pc' := 145) rfl ?_
    refine wk_same_p F (c6_shared l D cI cP hs σ hs_okL) (cwV 0 F.hts gX6_count_X6_shared rfl rfl rfl hdX6_shared ⟨Nat.le_of_ble_eq_true rfl, Nat.le_of_ble_eq_true rfl⟩) 0 6 rfl rfl rfl rfl (Nat.le_of_ble_eq_true rfl) dX6_count_145 ⟨Nat.zero_le _, Nat.zero_le _⟩ (pc' := 148) rfl ?_
    exact hret _ _ _ dX6_count_148 rfl (Eq.symm (by rw [f6_count] <;> exact (st_neg c1 (st_neg c2 (st_neg c3 (st_neg c4 (st_neg c5 (st_neg c6 (st_pos c7 rfl)))))))))
  by_cases c8 : p1 = (7 : Int32)
  · refine wk_top c8 ?_
    refine wk_tableIn (off := 148) (tgt := 149) F dX6_count_1 (by decide) (by decide) (by decide) (by decide) ?_
    refine wk_aload_n F dX6_count_149 rfl 0 rfl (pc' := 150) rfl ?_
    refine wk_get (C := RX6) (T := TX6) (N := 12) F 0 rfl rfl k_6 0 (Nat.le_of_ble_eq_true rfl) w_1 rfl dX6_count_150 (pc' := 153) rfl ?_
    refine wk_iconst F dX6_count_153 ic_3 (pc' := 154) rfl ?_
    refine wk_iload_n F dX6_count_154 rfl 1 rfl (pc' := 155) rfl ?_
    refine wk_iadd F dX6_count_155 (pc' := 156) rfl ?_
    refine wk_bipush F dX6_count_156 bp_7 (pc' := 158) rfl ?_
    refine wk_isub F dX6_count_158 (pc' := 159) rfl ?_
    refine wk_iald F 1 0 rfl rfl (by rw [c8]; unfold vp_in; decide) dX6_count_159 (pc' := 160) rfl ?_
    exact hret _ _ _ dX6_count_160 rfl (Eq.symm (by rw [f6_count] <;> exact (st_neg c1 (st_neg c2 (st_neg c3 (st_neg c4 (st_neg c5 (st_neg c6 (st_neg c7 (st_pos c8 rfl))))))))))
  by_cases c9 : p1 = (8 : Int32)
  · refine wk_top c9 ?_
    refine wk_tableIn (off := 148) (tgt := 149) F dX6_count_1 (by decide) (by decide) (by decide) (by decide) ?_
    refine wk_aload_n F dX6_count_149 rfl 0 rfl (pc' := 150) rfl ?_
    refine wk_get (C := RX6) (T := TX6) (N := 12) F 0 rfl rfl k_6 0 (Nat.le_of_ble_eq_true rfl) w_1 rfl dX6_count_150 (pc' := 153) rfl ?_
    refine wk_iconst F dX6_count_153 ic_3 (pc' := 154) rfl ?_
    refine wk_iload_n F dX6_count_154 rfl 1 rfl (pc' := 155) rfl ?_
    refine wk_iadd F dX6_count_155 (pc' := 156) rfl ?_
    refine wk_bipush F dX6_count_156 bp_7 (pc' := 158) rfl ?_
    refine wk_isub F dX6_count_158 (pc' := 159) rfl ?_
    refine wk_iald F 1 0 rfl rfl (by rw [c9]; unfold vp_in; decide) dX6_count_159 (pc' := 160) rfl ?_
    exact hret _ _ _ dX6_count_160 rfl (Eq.symm (by rw [f6_count] <;> exact (st_neg c1 (st_neg c2 (st_neg c3 (st_neg c4 (st_neg c5 (st_neg c6 (st_neg c7 (st_neg c8 (st_pos c9 rfl)))))))))))
  by_cases c10 : p1 = (9 : Int32)
  · refine wk_top c10 ?_
    refine wk_tableIn (off := 148) (tgt := 149) F dX6_count_1 (by decide) (by decide) (by decide) (by decide) ?_
    refine wk_aload_n F dX6_count_149 rfl 0 rfl (pc' := 150) rfl ?_
    refine wk_get (C := RX6) (T := TX6) (N := 12) F 0 rfl rfl k_6 0 (Nat.le_of_ble_eq_true rfl) w_1 rfl dX6_count_150 (pc' := 153) rfl ?_
    refine wk_iconst F dX6_count_153 ic_3 (pc' := 154) rfl ?_
    refine wk_iload_n F dX6_count_154 rfl 1 rfl (pc' := 155) rfl ?_
    refine wk_iadd F dX6_count_155 (pc' := 156) rfl ?_
    refine wk_bipush F dX6_count_156 bp_7 (pc' := 158) rfl ?_
    refine wk_isub F dX6_count_158 (pc' := 159) rfl ?_
    refine wk_iald F 1 0 rfl rfl (by rw [c10]; unfold vp_in; decide) dX6_count_159 (pc' := 160) rfl ?_
    exact hret _ _ _ dX6_count_160 rfl (Eq.symm (by rw [f6_count] <;> exact (st_neg c1 (st_neg c2 (st_neg c3 (st_neg c4 (st_neg c5 (st_neg c6 (st_neg c7 (st_neg c8 (st_neg c9 (st_pos c10 rfl))))))))))))
  by_cases c11 : p1 = (10 : Int32)
  · refine wk_top c11 ?_
    refine wk_tableIn (off := 148) (tgt := 149) F dX6_count_1 (by decide) (by decide) (by decide) (by decide) ?_
    refine wk_aload_n F dX6_count_149 rfl 0 rfl (pc' := 150) rfl ?_
    refine wk_get (C := RX6) (T := TX6) (N := 12) F 0 rfl rfl k_6 0 (Nat.le_of_ble_eq_true rfl) w_1 rfl dX6_count_150 (pc' := 153) rfl ?_
    refine wk_iconst F dX6_count_153 ic_3 (pc' := 154) rfl ?_
    refine wk_iload_n F dX6_count_154 rfl 1 rfl (pc' := 155) rfl ?_
    refine wk_iadd F dX6_count_155 (pc' := 156) rfl ?_
    refine wk_bipush F dX6_count_156 bp_7 (pc' := 158) rfl ?_
    refine wk_isub F dX6_count_158 (pc' := 159) rfl ?_
    refine wk_iald F 1 0 rfl rfl (by rw [c11]; unfold vp_in; decide) dX6_count_159 (pc' := 160) rfl ?_
    exact hret _ _ _ dX6_count_160 rfl (Eq.symm (by rw [f6_count] <;> exact (st_neg c1 (st_neg c2 (st_neg c3 (st_neg c4 (st_neg c5 (st_neg c6 (st_neg c7 (st_neg c8 (st_neg c9 (st_neg c10 (st_pos c11 rfl)))))))))))))
  by_cases c12 : p1 = (11 : Int32)
  · refine wk_top c12 ?_
    refine wk_tableIn (off := 160) (tgt := 161) F dX6_count_1 (by decide) (by decide) (by decide) (by decide) ?_
    refine wk_aload_n F dX6_count_161 rfl 0 rfl (pc' := 162) rfl ?_
    refine wk_get (C := RX6) (T := TX6) (N := 12) F 0 rfl rfl k_6 4 (Nat.le_of_ble_eq_true rfl) w_2 rfl dX6_count_162 (pc' := 165) rfl ?_
    exact hret _ _ _ dX6_count_165 rfl (Eq.symm (by rw [f6_count] <;> exact (st_neg c1 (st_neg c2 (st_neg c3 (st_neg c4 (st_neg c5 (st_neg c6 (st_neg c7 (st_neg c8 (st_neg c9 (st_neg c10 (st_neg c11 (st_pos c12 rfl))))))))))))))
  by_cases c13 : p1 = (12 : Int32)
  · refine wk_top c13 ?_
    refine wk_tableIn (off := 165) (tgt := 166) F dX6_count_1 (by decide) (by decide) (by decide) (by decide) ?_
    refine wk_aload_n F dX6_count_166 rfl 0 rfl (pc' := 167) rfl ?_
    refine wk_get (C := RX6) (T := TX6) (N := 12) F 0 rfl rfl k_6 7 (Nat.le_of_ble_eq_true rfl) w_3 rfl dX6_count_167 (pc' := 170) rfl ?_
    exact hret _ _ _ dX6_count_170 rfl (Eq.symm (by rw [f6_count] <;> exact (st_neg c1 (st_neg c2 (st_neg c3 (st_neg c4 (st_neg c5 (st_neg c6 (st_neg c7 (st_neg c8 (st_neg c9 (st_neg c10 (st_neg c11 (st_neg c12 (st_pos c13 rfl)))))))))))))))
  by_cases c14 : p1 = (20 : Int32)
  · refine wk_top c14 ?_
    refine wk_tableIn (off := 170) (tgt := 171) F dX6_count_1 (by decide) (by decide) (by decide) (by decide) ?_
    refine wk_aload_n F dX6_count_171 rfl 0 rfl (pc' := 172) rfl ?_
    refine wk_get (C := RX6) (T := TX6) (N := 12) F 0 rfl rfl k_6 0 (Nat.le_of_ble_eq_true rfl) w_1 rfl dX6_count_172 (pc' := 175) rfl ?_
    refine wk_iload_n F dX6_count_175 rfl 1 rfl (pc' := 176) rfl ?_
    refine wk_bipush F dX6_count_176 bp_20 (pc' := 178) rfl ?_
    refine wk_isub F dX6_count_178 (pc' := 179) rfl ?_
    refine wk_iald F 1 0 rfl rfl (by rw [c14]; unfold vp_in; decide) dX6_count_179 (pc' := 180) rfl ?_
    exact hret _ _ _ dX6_count_180 rfl (Eq.symm (by rw [f6_count] <;> exact (st_neg c1 (st_neg c2 (st_neg c3 (st_neg c4 (st_neg c5 (st_neg c6 (st_neg c7 (st_neg c8 (st_neg c9 (st_neg c10 (st_neg c11 (st_neg c12 (st_neg c13 (st_pos c14 rfl))))))))))))))))
  by_cases c15 : p1 = (21 : Int32)
  · refine wk_top c15 ?_
    refine wk_tableIn (off := 170) (tgt := 171) F dX6_count_1 (by decide) (by decide) (by decide) (by decide) ?_
    refine wk_aload_n F dX6_count_171 rfl 0 rfl (pc' := 172) rfl ?_
    refine wk_get (C := RX6) (T := TX6) (N := 12) F 0 rfl rfl k_6 0 (Nat.le_of_ble_eq_true rfl) w_1 rfl dX6_count_172 (pc' := 175) rfl ?_
    refine wk_iload_n F dX6_count_175 rfl 1 rfl (pc' := 176) rfl ?_
    refine wk_bipush F dX6_count_176 bp_20 (pc' := 178) rfl ?_
    refine wk_isub F dX6_count_178 (pc' := 179) rfl ?_
    refine wk_iald F 1 0 rfl rfl (by rw [c15]; unfold vp_in; decide) dX6_count_179 (pc' := 180) rfl ?_
    exact hret _ _ _ dX6_count_180 rfl (Eq.symm (by rw [f6_count] <;> exact (st_neg c1 (st_neg c2 (st_neg c3 (st_neg c4 (st_neg c5 (st_neg c6 (st_neg c7 (st_neg c8 (st_neg c9 (st_neg c10 (st_neg c11 (st_neg c12 (st_neg c13 (st_neg c14 (st_pos c15 rfl)))))))))))))))))
  by_cases c16 : p1 = (22 : Int32)
  · refine wk_top c16 ?_
    refine wk_tableIn (off := 170) (tgt := 171) F dX6_count_1 (by decide) (by decide) (by decide) (by decide) ?_
    refine wk_aload_n F dX6_count_171 rfl 0 rfl (pc' := 172) rfl ?_
    refine wk_get (C := RX6) (T := TX6) (N := 12) F 0 rfl rfl k_6 0 (Nat.le_of_ble_eq_true rfl) w_1 rfl dX6_count_172 (pc' := 175) rfl ?_
    refine wk_iload_n F dX6_count_175 rfl 1 rfl (pc' := 176) rfl ?_
    refine wk_bipush F dX6_count_176 bp_20 (pc' := 178) rfl ?_
    refine wk_isub F dX6_count_178 (pc' := 179) rfl ?_
    refine wk_iald F 1 0 rfl rfl (by rw [c16]; unfold vp_in; decide) dX6_count_179 (pc' := 180) rfl ?_
    exact hret _ _ _ dX6_count_180 rfl (Eq.symm (by rw [f6_count] <;> exact (st_neg c1 (st_neg c2 (st_neg c3 (st_neg c4 (st_neg c5 (st_neg c6 (st_neg c7 (st_neg c8 (st_neg c9 (st_neg c10 (st_neg c11 (st_neg c12 (st_neg c13 (st_neg c14 (st_neg c15 (st_pos c16 rfl))))))))))))))))))
  by_cases c17 : p1 = (13 : Int32)
  · refine wk_top c17 ?_
    refine wk_tableIn (off := 180) (tgt := 181) F dX6_count_1 (by decide) (by decide) (by decide) (by decide) ?_
    refine wk_ldc F dX6_count_181 w_4 (pc' := 183) rfl ?_
    exact hret _ _ _ dX6_count_183 rfl (Eq.symm (by rw [f6_count] <;> exact (st_neg c1 (st_neg c2 (st_neg c3 (st_neg c4 (st_neg c5 (st_neg c6 (st_neg c7 (st_neg c8 (st_neg c9 (st_neg c10 (st_neg c11 (st_neg c12 (st_neg c13 (st_neg c14 (st_neg c15 (st_neg c16 rfl))))))))))))))))))
  by_cases c18 : p1 = (14 : Int32)
  · refine wk_top c18 ?_
    refine wk_tableIn (off := 180) (tgt := 181) F dX6_count_1 (by decide) (by decide) (by decide) (by decide) ?_
    refine wk_ldc F dX6_count_181 w_4 (pc' := 183) rfl ?_
    exact hret _ _ _ dX6_count_183 rfl (Eq.symm (by rw [f6_count] <;> exact (st_neg c1 (st_neg c2 (st_neg c3 (st_neg c4 (st_neg c5 (st_neg c6 (st_neg c7 (st_neg c8 (st_neg c9 (st_neg c10 (st_neg c11 (st_neg c12 (st_neg c13 (st_neg c14 (st_neg c15 (st_neg c16 rfl))))))))))))))))))
  by_cases c19 : p1 = (15 : Int32)
  · refine wk_top c19 ?_
    refine wk_tableIn (off := 180) (tgt := 181) F dX6_count_1 (by decide) (by decide) (by decide) (by decide) ?_
    refine wk_ldc F dX6_count_181 w_4 (pc' := 183) rfl ?_
    exact hret _ _ _ dX6_count_183 rfl (Eq.symm (by rw [f6_count] <;> exact (st_neg c1 (st_neg c2 (st_neg c3 (st_neg c4 (st_neg c5 (st_neg c6 (st_neg c7 (st_neg c8 (st_neg c9 (st_neg c10 (st_neg c11 (st_neg c12 (st_neg c13 (st_neg c14 (st_neg c15 (st_neg c16 rfl))))))))))))))))))
  by_cases c20 : p1 = (16 : Int32)
  · refine wk_top c20 ?_
    refine wk_tableIn (off := 180) (tgt := 181) F dX6_count_1 (by decide) (by decide) (by decide) (by decide) ?_
    refine wk_ldc F dX6_count_181 w_4 (pc' := 183) rfl ?_
    exact hret _ _ _ dX6_count_183 rfl (Eq.symm (by rw [f6_count] <;> exact (st_neg c1 (st_neg c2 (st_neg c3 (st_neg c4 (st_neg c5 (st_neg c6 (st_neg c7 (st_neg c8 (st_neg c9 (st_neg c10 (st_neg c11 (st_neg c12 (st_neg c13 (st_neg c14 (st_neg c15 (st_neg c16 rfl))))))))))))))))))
  by_cases c21 : p1 = (17 : Int32)
  · refine wk_top c21 ?_
    refine wk_tableIn (off := 180) (tgt := 181) F dX6_count_1 (by decide) (by decide) (by decide) (by decide) ?_
    refine wk_ldc F dX6_count_181 w_4 (pc' := 183) rfl ?_
    exact hret _ _ _ dX6_count_183 rfl (Eq.symm (by rw [f6_count] <;> exact (st_neg c1 (st_neg c2 (st_neg c3 (st_neg c4 (st_neg c5 (st_neg c6 (st_neg c7 (st_neg c8 (st_neg c9 (st_neg c10 (st_neg c11 (st_neg c12 (st_neg c13 (st_neg c14 (st_neg c15 (st_neg c16 rfl))))))))))))))))))
  by_cases c22 : p1 = (18 : Int32)
  · refine wk_top c22 ?_
    refine wk_tableIn (off := 180) (tgt := 181) F dX6_count_1 (by decide) (by decide) (by decide) (by decide) ?_
    refine wk_ldc F dX6_count_181 w_4 (pc' := 183) rfl ?_
    exact hret _ _ _ dX6_count_183 rfl (Eq.symm (by rw [f6_count] <;> exact (st_neg c1 (st_neg c2 (st_neg c3 (st_neg c4 (st_neg c5 (st_neg c6 (st_neg c7 (st_neg c8 (st_neg c9 (st_neg c10 (st_neg c11 (st_neg c12 (st_neg c13 (st_neg c14 (st_neg c15 (st_neg c16 rfl))))))))))))))))))
  by_cases c23 : p1 = (19 : Int32)
  · refine wk_top c23 ?_
    refine wk_tableIn (off := 180) (tgt := 181) F dX6_count_1 (by decide) (by decide) (by decide) (by decide) ?_
    refine wk_ldc F dX6_count_181 w_4 (pc' := 183) rfl ?_
    exact hret _ _ _ dX6_count_183 rfl (Eq.symm (by rw [f6_count] <;> exact (st_neg c1 (st_neg c2 (st_neg c3 (st_neg c4 (st_neg c5 (st_neg c6 (st_neg c7 (st_neg c8 (st_neg c9 (st_neg c10 (st_neg c11 (st_neg c12 (st_neg c13 (st_neg c14 (st_neg c15 (st_neg c16 rfl))))))))))))))))))
  refine wk_tableOut (tgt := 181) F dX6_count_1 (by have ec1 := ti_ne (k := 0) c1 (by decide); have ec2 := ti_ne (k := 1) c2 (by decide); have ec3 := ti_ne (k := 2) c3 (by decide); have ec4 := ti_ne (k := 3) c4 (by decide); have ec5 := ti_ne (k := 4) c5 (by decide); have ec6 := ti_ne (k := 5) c6 (by decide); have ec7 := ti_ne (k := 6) c7 (by decide); have ec8 := ti_ne (k := 7) c8 (by decide); have ec9 := ti_ne (k := 8) c9 (by decide); have ec10 := ti_ne (k := 9) c10 (by decide); have ec11 := ti_ne (k := 10) c11 (by decide); have ec12 := ti_ne (k := 11) c12 (by decide); have ec13 := ti_ne (k := 12) c13 (by decide); have ec14 := ti_ne (k := 20) c14 (by decide); have ec15 := ti_ne (k := 21) c15 (by decide); have ec16 := ti_ne (k := 22) c16 (by decide); have ec17 := ti_ne (k := 13) c17 (by decide); have ec18 := ti_ne (k := 14) c18 (by decide); have ec19 := ti_ne (k := 15) c19 (by decide); have ec20 := ti_ne (k := 16) c20 (by decide); have ec21 := ti_ne (k := 17) c21 (by decide); have ec22 := ti_ne (k := 18) c22 (by decide); have ec23 := ti_ne (k := 19) c23 (by decide); omega) (by decide) ?_
  refine wk_ldc F dX6_count_181 w_4 (pc' := 183) rfl ?_
  exact hret _ _ _ dX6_count_183 rfl (Eq.symm (by rw [f6_count] <;> exact (st_neg c1 (st_neg c2 (st_neg c3 (st_neg c4 (st_neg c5 (st_neg c6 (st_neg c7 (st_neg c8 (st_neg c9 (st_neg c10 (st_neg c11 (st_neg c12 (st_neg c13 (st_neg c14 (st_neg c15 (st_neg c16 rfl))))))))))))))))))
