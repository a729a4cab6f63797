/-! couldGet of the model, with its end known only where there is such a volume -/
set_option maxHeartbeats 4000000 in
set_option maxRecDepth 100000 in
theorem c6_couldGet0 (l : Launch) (D : va_G) (cI cP : ClassId) (hs : Nat → Nat) (σ : PS) (p1 : Int32) (hv : f6_isVolume σ p1 = 0) : CI l yX6_couldGet wsX6_couldGet ({ frames := 5, cells := 0, slots := 0, locals := 113 } : Room) D (cty cI cP) (wMod cI hs σ) (wMod cI hs) [.ref (hs 0), .int p1] 0 0 (fun r u => f6_couldGet σ p1 = (r, u)) := by
  refine CI.of (cc := cX6_couldGet) (maxL := 4) (rt := .int) (own := RX6) (lv0 := [(0, .ref (hs 0)), (1, .int p1)]) pnX6 rfl rfl (Nat.le_of_ble_eq_true rfl) rfl (fun p e s m args below meth c A Q F hret => ?_)
  have w_1 := F.at (x := Cond.constant RX6 86 (-1000001)) 1 rfl
  refine wk_aload_n F dX6_couldGet_0 rfl 0 rfl (pc' := 1) rfl ?_
  refine wk_iload_n F dX6_couldGet_1 rfl 1 rfl (pc' := 2) rfl ?_
  refine wk_same_p F (c6_isVolume l D cI cP hs σ p1) (cwV 1 F.hts gX6_couldGet_X6_isVolume rfl rfl rfl hdX6_isVolume ⟨Nat.le_of_ble_eq_true rfl, Nat.le_of_ble_eq_true rfl⟩) 0 6 rfl rfl rfl rfl (Nat.le_of_ble_eq_true rfl) dX6_couldGet_2 ⟨Nat.zero_le _, Nat.zero_le _⟩ (pc' := 5) rfl ?_
  refine wk_if_ne (tgt := 11) F dX6_couldGet_5 (by decide) (pc' := 8) rfl (fun c5 => absurd hv c5) (fun c5 => ?_)
  refine wk_ldc F dX6_couldGet_8 w_1 (pc' := 10) rfl ?_
  exact hret _ _ _ σ dX6_couldGet_10 rfl (by unfold f6_couldGet; exact if_pos hv)
theorem c6_couldGetV (l : Launch) (D : va_G) (cI cP : ClassId) (hs : Nat → Nat) (σ : PS) (p1 : Int32) (hs_okL : okL σ) (hT : ¬ f6_isVolume σ p1 = 0 → f6_couldGet_T p1 64 (f6_free (cpyR σ 0 3)) (cpyR σ 0 3)) : CI l yX6_couldGet wsX6_couldGet ({ frames := 5, cells := 0, slots := 0, locals := 113 } : Room) D (cty cI cP) (wMod cI hs σ) (wMod cI hs) [.ref (hs 0), .int p1] 0 0 (fun r u => f6_couldGet σ p1 = (r, u)) := by
  by_cases q : f6_isVolume σ p1 = 0
  · exact c6_couldGet0 l D cI cP hs σ p1 q
  · exact c6_couldGet l D cI cP hs σ p1 hs_okL (hT q)
