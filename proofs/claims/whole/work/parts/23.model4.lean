def f6_family_L41 (σ : PS) (y4 : Int32) : Nat → Nat → Int32 → Int32
  | 0, i, x6 => x6
  | n + 1, i, x6 => (if ((y4 >>> ((nI i) &&& 31)) &&& (1 : Int32)) = (1 : Int32) then f6_family_L41 σ y4 n (i + 1) (x6 ||| (f6_clones σ (nI i))) else f6_family_L41 σ y4 n (i + 1) (x6 ||| (0 : Int32)))
def f6_family_T (σ : PS) : Nat → Int32 → Int32 → Prop
  | 0, _, _ => False
  | n + 1, x3, x4 => ¬ x4 = 0 → f6_family_T σ n (x3 ||| f6_family_L41 σ x4 8 0 0) (f6_family_L41 σ x4 8 0 0 &&& (x3 ^^^ (-1)))
def f6_family_L30 (σ : PS) : Nat → Int32 → Int32 → Int32 → Int32 × Int32
  | 0, x3, x4, x5 => (x3, x5)
  | n + 1, x3, x4, x5 => (if x4 = 0 then (x3, x5) else (sq (f6_family_L41 σ x4 8 0 (0 : Int32)) (fun (y4 : Int32) => f6_family_L30 σ n (x3 ||| y4) (y4 &&& (x3 ^^^ (-1 : Int32))) (x5 + 1))))
def f6_family (σ : PS) (p1 : Int32) (p2 : Int32) : Int32 := (if (f6_isVolume σ p1) = 0 then (-1000001 : Int32) else (if (f6_in p2 (0 : Int32) (2 : Int32)) = 0 then (-1000001 : Int32) else (sq2 (f6_family_L30 σ 9 ((1 : Int32) <<< (p1 &&& 31)) ((1 : Int32) <<< (p1 &&& 31)) (-1 : Int32)) (fun (y8 : Int32) (y9 : Int32) => (if p2 = 0 then y8 else (if p2 = (1 : Int32) then f6_ownedBy σ y8 else y9))))))
set_option maxHeartbeats 4000000 in
set_option maxRecDepth 100000 in
theorem c6_family (l : Launch) (D : va_G) (cI cP : ClassId) (hs : Nat → Nat) (σ : PS) (p1 : Int32) (p2 : Int32) (hs_okL : okL σ) (hT : f6_family_T σ 9 ((1 : Int32) <<< (p1 &&& 31)) ((1 : Int32) <<< (p1 &&& 31))) : CP l yX6_family wsX6_family ({ frames := 5, cells := 0, slots := 0, locals := 115 } : Room) D (cty cI cP) (wMod cI hs) σ [.ref (hs 0), .int p1, .int p2] (f6_family σ p1 p2) := by
  refine CP.of (cc := cX6_family) (maxL := 8) (rt := .int) (own := RX6) (lv0 := [(0, .ref (hs 0)), (1, .int p1), (2, .int p2)]) pnX6 rfl rfl (Nat.le_of_ble_eq_true rfl) rfl (fun p e s m args below meth c A Q F hret => ?_)
  have w_1 := F.at (x := Cond.constant RX6 86 (-1000001)) 1 rfl
  have L41 : ∀ (y3 : Int32) (y4 : Int32) (y5 : Int32) (n : Nat) (i : Nat) (x6 : Int32), i + n = 8 → (∀ (y6 : Int32), f6_family_L41 σ y4 n i x6 = y6 → Wk p l e ({ frames := 5, cells := 0, slots := 0, locals := 115 } : Room) s m args below meth c 8 D A 0 0 Q (wMod cI hs σ) [(0, .ref (hs 0)), (2, .int p2), (3, .int y3), (5, .int y5), (6, .int y6)] 80 []) → Wk p l e ({ frames := 5, cells := 0, slots := 0, locals := 115 } : Room) s m args below meth c 8 D A 0 0 Q (wMod cI hs σ) [(0, .ref (hs 0)), (2, .int p2), (3, .int y3), (4, .int y4), (5, .int y5), (6, .int x6), (7, .int (nI i))] 41 [] := by
    intro y3 y4 y5 n
    induction n with
    | zero =>
      intro i x6 hi kx
      refine wk_iload F dX6_family_41 6 rfl (pc' := 43) rfl ?_
      refine wk_bipush F dX6_family_43 bp_8 (pc' := 45) rfl ?_
      refine wk_icmp_ge (tgt := 80) F dX6_family_45 (by decide) (pc' := 48) rfl (fun _ => ?_) (fun c => absurd ((nI_leI (a := 8) (b := i) (by omega) (by omega)).mpr (by omega)) c)
      refine wk_lv [0, 1, 2, 4, 5] rfl ?_
      exact kx x6 (by rw [f6_family_L41] <;> exact rfl)
    | succ n ih =>
      intro i x6 hi kx
      refine wk_iload F dX6_family_41 6 rfl (pc' := 43) rfl ?_
      refine wk_bipush F dX6_family_43 bp_8 (pc' := 45) rfl ?_
      refine wk_icmp_ge (tgt := 80) F dX6_family_45 (by decide) (pc' := 48) rfl (fun c => absurd ((nI_leI (a := 8) (b := i) (by omega) (by omega)).mp c) (by omega)) (fun _ => ?_)
      refine wk_iload F dX6_family_48 5 rfl (pc' := 50) rfl ?_
      refine wk_iload F dX6_family_50 3 rfl (pc' := 52) rfl ?_
      refine wk_iload F dX6_family_52 6 rfl (pc' := 54) rfl ?_
      refine wk_ishr F dX6_family_54 (pc' := 55) rfl ?_
      refine wk_iconst F dX6_family_55 ic_1 (pc' := 56) rfl ?_
      refine wk_iand F dX6_family_56 (pc' := 57) rfl ?_
      refine wk_iconst F dX6_family_57 ic_1 (pc' := 58) rfl ?_
      refine wk_icmp_ne (tgt := 70) F dX6_family_58 (by decide) (pc' := 61) rfl (fun c1 => ?_) (fun c1 => ?_)
      · refine wk_iconst F dX6_family_70 ic_0 (pc' := 71) rfl ?_
        refine wk_ior F dX6_family_71 (pc' := 72) rfl ?_
        refine wk_istore (lv' := [(6, .int (x6 ||| (0 : Int32))), (0, .ref (hs 0)), (2, .int p2), (3, .int y3), (4, .int y4), (5, .int y5), (7, .int (nI i))]) F dX6_family_72 (Nat.le_of_ble_eq_true rfl) rfl (pc' := 74) rfl ?_
        refine wk_iinc (k := 6) (v := nI (i + 1)) (lv' := [(7, .int (nI (i + 1))), (6, .int (x6 ||| (0 : Int32))), (0, .ref (hs 0)), (2, .int p2), (3, .int y3), (4, .int y4), (5, .int y5)]) F dX6_family_74 rfl (nI_inc i) (Nat.le_of_ble_eq_true rfl) rfl (pc' := 77) rfl ?_
        refine wk_goto (tgt := 41) F dX6_family_77 (by decide) ?_
        refine wk_lv [2, 3, 4, 5, 6, 1, 0] rfl ?_
        exact ih (i + 1) (x6 ||| (0 : Int32)) (by omega) (fun y6_ h_ => kx y6_ (Eq.trans (by rw [f6_family_L41] <;> exact (st_neg c1 rfl)) h_))
      · refine wk_aload_n F dX6_family_61 rfl 0 rfl (pc' := 62) rfl ?_
        refine wk_iload F dX6_family_62 6 rfl (pc' := 64) rfl ?_
        refine wk_same_p F (c6_clones l D cI cP hs σ (nI i)) (cwV 1 F.hts gX6_family_X6_clones rfl rfl rfl hdX6_clones ⟨Nat.le_of_ble_eq_true rfl, Nat.le_of_ble_eq_true rfl⟩) 0 6 rfl rfl rfl rfl (Nat.le_of_ble_eq_true rfl) dX6_family_64 ⟨Nat.zero_le _, Nat.zero_le _⟩ (pc' := 67) rfl ?_
        refine wk_goto (tgt := 71) F dX6_family_67 (by decide) ?_
        refine wk_ior F dX6_family_71 (pc' := 72) rfl ?_
        refine wk_istore (lv' := [(6, .int (x6 ||| (f6_clones σ (nI i)))), (0, .ref (hs 0)), (2, .int p2), (3, .int y3), (4, .int y4), (5, .int y5), (7, .int (nI i))]) F dX6_family_72 (Nat.le_of_ble_eq_true rfl) rfl (pc' := 74) rfl ?_
        refine wk_iinc (k := 6) (v := nI (i + 1)) (lv' := [(7, .int (nI (i + 1))), (6, .int (x6 ||| (f6_clones σ (nI i)))), (0, .ref (hs 0)), (2, .int p2), (3, .int y3), (4, .int y4), (5, .int y5)]) F dX6_family_74 rfl (nI_inc i) (Nat.le_of_ble_eq_true rfl) rfl (pc' := 77) rfl ?_
        refine wk_goto (tgt := 41) F dX6_family_77 (by decide) ?_
        refine wk_lv [2, 3, 4, 5, 6, 1, 0] rfl ?_
        exact ih (i + 1) (x6 ||| (f6_clones σ (nI i))) (by omega) (fun y6_ h_ => kx y6_ (Eq.trans (by rw [f6_family_L41] <;> exact (st_pos c1 rfl)) h_))
  have L30 : ∀ (n : Nat) (x3 : Int32) (x4 : Int32) (x5 : Int32), f6_family_T σ n x3 x4 → (∀ (y3 : Int32) (y5 : Int32), f6_family_L30 σ n x3 x4 x5 = (y3, y5) → Wk p l e ({ frames := 5, cells := 0, slots := 0, locals := 115 } : Room) s m args below meth c 8 D A 0 0 Q (wMod cI hs σ) [(0, .ref (hs 0)), (2, .int p2), (3, .int y3), (5, .int y5)] 99 []) → Wk p l e ({ frames := 5, cells := 0, slots := 0, locals := 115 } : Room) s m args below meth c 8 D A 0 0 Q (wMod cI hs σ) [(0, .ref (hs 0)), (2, .int p2), (3, .int x3), (4, .int x4), (5, .int x5)] 30 [] := by
    intro n
    induction n with
    | zero =>
      intro x3 x4 x5 hv0 kx
      exact False.elim hv0
    | succ n ih =>
      intro x3 x4 x5 hv0 kx
      refine wk_iload F dX6_family_30 3 rfl (pc' := 32) rfl ?_
      refine wk_if_eq (tgt := 99) F dX6_family_32 (by decide) (pc' := 35) rfl (fun c2 => ?_) (fun c2 => ?_)
      · refine wk_lv [0, 1, 2, 4] rfl ?_
        exact kx x3 x5 (by rw [f6_family_L30] <;> exact (st_pos c2 rfl))
      · refine wk_iconst F dX6_family_35 ic_0 (pc' := 36) rfl ?_
        refine wk_istore (lv' := [(6, .int (0 : Int32)), (0, .ref (hs 0)), (2, .int p2), (3, .int x3), (4, .int x4), (5, .int x5)]) F dX6_family_36 (Nat.le_of_ble_eq_true rfl) rfl (pc' := 38) rfl ?_
        refine wk_iconst F dX6_family_38 ic_0 (pc' := 39) rfl ?_
        refine wk_istore (lv' := [(7, .int (0 : Int32)), (6, .int (0 : Int32)), (0, .ref (hs 0)), (2, .int p2), (3, .int x3), (4, .int x4), (5, .int x5)]) F dX6_family_39 (Nat.le_of_ble_eq_true rfl) rfl (pc' := 41) rfl ?_
        refine wk_lv [2, 3, 4, 5, 6, 1, 0] rfl ?_
        refine L41 x3 x4 x5 8 0 (0 : Int32) (by omega) (fun y4 h3 => ?_)
        refine wk_iinc (k := 3) (v := x5 + 1) (lv' := [(5, .int (x5 + 1)), (0, .ref (hs 0)), (2, .int p2), (3, .int x3), (6, .int y4)]) F dX6_family_80 rfl rfl (Nat.le_of_ble_eq_true rfl) rfl (pc' := 83) rfl ?_
        refine wk_iload F dX6_family_83 4 rfl (pc' := 85) rfl ?_
        refine wk_iload_n F dX6_family_85 rfl 3 rfl (pc' := 86) rfl ?_
        refine wk_iconst F dX6_family_86 ic_m1 (pc' := 87) rfl ?_
        refine wk_ixor F dX6_family_87 (pc' := 88) rfl ?_
        refine wk_iand F dX6_family_88 (pc' := 89) rfl ?_
        refine wk_istore (lv' := [(4, .int (y4 &&& (x3 ^^^ (-1 : Int32)))), (5, .int (x5 + 1)), (0, .ref (hs 0)), (2, .int p2), (3, .int x3), (6, .int y4)]) F dX6_family_89 (Nat.le_of_ble_eq_true rfl) rfl (pc' := 91) rfl ?_
        refine wk_iload_n F dX6_family_91 rfl 4 rfl (pc' := 92) rfl ?_
        refine wk_iload F dX6_family_92 5 rfl (pc' := 94) rfl ?_
        refine wk_ior F dX6_family_94 (pc' := 95) rfl ?_
        refine wk_istore_n (lv' := [(3, .int (x3 ||| y4)), (4, .int (y4 &&& (x3 ^^^ (-1 : Int32)))), (5, .int (x5 + 1)), (0, .ref (hs 0)), (2, .int p2), (6, .int y4)]) F dX6_family_95 rfl (Nat.le_of_ble_eq_true rfl) rfl (pc' := 96) rfl ?_
        refine wk_goto (tgt := 30) F dX6_family_96 (by decide) ?_
        refine wk_lv [3, 4, 0, 1, 2] rfl ?_
        exact ih (x3 ||| y4) (y4 &&& (x3 ^^^ (-1 : Int32))) (x5 + 1) (by have q := hv0 c2; rw [h3] at q; exact q) (fun y3_ y5_ h_ => kx y3_ y5_ (Eq.trans (by rw [f6_family_L30] <;> exact (st_neg c2 (st_let h3 rfl))) h_))
  refine wk_aload_n F dX6_family_0 rfl 0 rfl (pc' := 1) rfl ?_
  refine wk_iload_n F dX6_family_1 rfl 1 rfl (pc' := 2) rfl ?_
  refine wk_same_p F (c6_isVolume l D cI cP hs σ p1) (cwV 1 F.hts gX6_family_X6_isVolume rfl rfl rfl hdX6_isVolume ⟨Nat.le_of_ble_eq_true rfl, Nat.le_of_ble_eq_true rfl⟩) 0 6 rfl rfl rfl rfl (Nat.le_of_ble_eq_true rfl) dX6_family_2 ⟨Nat.zero_le _, Nat.zero_le _⟩ (pc' := 5) rfl ?_
  refine wk_if_eq (tgt := 17) F dX6_family_5 (by decide) (pc' := 8) rfl (fun c5 => ?_) (fun c5 => ?_)
  · refine wk_ldc F dX6_family_17 w_1 (pc' := 19) rfl ?_
    exact hret _ _ _ dX6_family_19 rfl (Eq.symm (by rw [f6_family] <;> exact (st_pos c5 rfl)))
  · refine wk_iload_n F dX6_family_8 rfl 2 rfl (pc' := 9) rfl ?_
    refine wk_iconst F dX6_family_9 ic_0 (pc' := 10) rfl ?_
    refine wk_iconst F dX6_family_10 ic_2 (pc' := 11) rfl ?_
    refine wk_none_s F (c6_in l D cI cP p2 (0 : Int32) (2 : Int32)) (va_cwS 3 F.hts gX6_family_X6_in rfl rfl rfl hdX6_in ⟨Nat.le_of_ble_eq_true rfl, Nat.le_of_ble_eq_true rfl⟩) rfl rfl (Nat.le_of_ble_eq_true rfl) dX6_family_11 ⟨Nat.zero_le _, Nat.zero_le _⟩ (pc' := 14) rfl ?_
    refine wk_if_ne (tgt := 20) F dX6_family_14 (by decide) (pc' := 17) rfl (fun c6 => ?_) (fun c6 => ?_)
    · refine wk_iconst F dX6_family_20 ic_1 (pc' := 21) rfl ?_
      refine wk_iload_n F dX6_family_21 rfl 1 rfl (pc' := 22) rfl ?_
      refine wk_ishl F dX6_family_22 (pc' := 23) rfl ?_
      refine wk_istore_n (lv' := [(3, .int ((1 : Int32) <<< (p1 &&& 31))), (0, .ref (hs 0)), (1, .int p1), (2, .int p2)]) F dX6_family_23 rfl (Nat.le_of_ble_eq_true rfl) rfl (pc' := 24) rfl ?_
      refine wk_iload_n F dX6_family_24 rfl 0 rfl (pc' := 25) rfl ?_
      refine wk_istore (lv' := [(4, .int ((1 : Int32) <<< (p1 &&& 31))), (3, .int ((1 : Int32) <<< (p1 &&& 31))), (0, .ref (hs 0)), (1, .int p1), (2, .int p2)]) F dX6_family_25 (Nat.le_of_ble_eq_true rfl) rfl (pc' := 27) rfl ?_
      refine wk_iconst F dX6_family_27 ic_m1 (pc' := 28) rfl ?_
      refine wk_istore (lv' := [(5, .int (-1 : Int32)), (4, .int ((1 : Int32) <<< (p1 &&& 31))), (3, .int ((1 : Int32) <<< (p1 &&& 31))), (0, .ref (hs 0)), (1, .int p1), (2, .int p2)]) F dX6_family_28 (Nat.le_of_ble_eq_true rfl) rfl (pc' := 30) rfl ?_
      refine wk_lv [3, 5, 2, 1, 0] rfl ?_
      refine L30 9 ((1 : Int32) <<< (p1 &&& 31)) ((1 : Int32) <<< (p1 &&& 31)) (-1 : Int32) hT (fun y8 y9 h7 => ?_)
      refine wk_iload_n F dX6_family_99 rfl 1 rfl (pc' := 100) rfl ?_
      refine wk_if_ne (tgt := 107) F dX6_family_100 (by decide) (pc' := 103) rfl (fun c10 => ?_) (fun c10 => ?_)
      · refine wk_iload_n F dX6_family_107 rfl 1 rfl (pc' := 108) rfl ?_
        refine wk_iconst F dX6_family_108 ic_1 (pc' := 109) rfl ?_
        refine wk_icmp_ne (tgt := 120) F dX6_family_109 (by decide) (pc' := 112) rfl (fun c11 => ?_) (fun c11 => ?_)
        · refine wk_iload F dX6_family_120 3 rfl (pc' := 122) rfl ?_
          exact hret _ _ _ dX6_family_122 rfl (Eq.symm (by rw [f6_family] <;> exact (st_neg c5 (st_neg c6 (st_match h7 (st_neg c10 (st_neg c11 rfl)))))))
        · refine wk_aload_n F dX6_family_112 rfl 0 rfl (pc' := 113) rfl ?_
          refine wk_iload_n F dX6_family_113 rfl 2 rfl (pc' := 114) rfl ?_
          refine wk_same_p F (c6_ownedBy l D cI cP hs σ y8 hs_okL) (cwV 1 F.hts gX6_family_X6_ownedBy rfl rfl rfl hdX6_ownedBy ⟨Nat.le_of_ble_eq_true rfl, Nat.le_of_ble_eq_true rfl⟩) 0 6 rfl rfl rfl rfl (Nat.le_of_ble_eq_true rfl) dX6_family_114 ⟨Nat.zero_le _, Nat.zero_le _⟩ (pc' := 117) rfl ?_
          refine wk_goto (tgt := 122) F dX6_family_117 (by decide) ?_
          exact hret _ _ _ dX6_family_122 rfl (Eq.symm (by rw [f6_family] <;> exact (st_neg c5 (st_neg c6 (st_match h7 (st_neg c10 (st_pos c11 rfl)))))))
      · refine wk_iload_n F dX6_family_103 rfl 2 rfl (pc' := 104) rfl ?_
        refine wk_goto (tgt := 122) F dX6_family_104 (by decide) ?_
        exact hret _ _ _ dX6_family_122 rfl (Eq.symm (by rw [f6_family] <;> exact (st_neg c5 (st_neg c6 (st_match h7 (st_pos c10 rfl))))))
    · refine wk_ldc F dX6_family_17 w_1 (pc' := 19) rfl ?_
      exact hret _ _ _ dX6_family_19 rfl (Eq.symm (by rw [f6_family] <;> exact (st_neg c5 (st_pos c6 rfl))))
def f6_couldGet_T (p1 : Int32) : Nat → Int32 → PS → Prop
  | 0, _, _ => False
  | n + 1, x, u => ∀ (r : Int32) (u2 : PS), f6_asks u p1 (x - f6_promises u) = (r, u2) → ¬ r ≤ 0 → f6_couldGet_T p1 n (x + (-1)) u2
def f6_couldGet_L29 (p1 : Int32) : Nat → Int32 → Int32 → PS → Int32 × PS
  | 0, x2, x3, u => (x3, u)
  | n + 1, x2, x3, u => (sq2 (f6_asks u p1 (x2 - (f6_promises u))) (fun (r2 : Int32) (u1 : PS) => (if r2 ≤ 0 then (x3, u1) else f6_couldGet_L29 p1 n (x2 + (-1)) (x3 + 1) u1)))
def f6_couldGet (σ : PS) (p1 : Int32) : Int32 × PS := (if (f6_isVolume σ p1) = 0 then ((-1000001 : Int32), σ) else (sq (cpyR σ 0 3) (fun (u6 : PS) => (sq2 (f6_couldGet_L29 p1 64 (f6_free u6) (0 : Int32) u6) (fun (y9 : Int32) (u10 : PS) => (sq (cpyR u10 3 0) (fun (u11 : PS) => (y9, u11))))))))
set_option maxHeartbeats 4000000 in
set_option maxRecDepth 100000 in
theorem c6_couldGet (l : Launch) (D : va_G) (cI cP : ClassId) (hs : Nat → Nat) (σ : PS) (p1 : Int32) (hs_okL : okL σ) (hT : f6_couldGet_T p1 64 (f6_free (cpyR σ 0 3)) (cpyR σ 0 3)) : CI l yX6_couldGet wsX6_couldGet ({ frames := 5, cells := 0, slots := 0, locals := 113 } : Room) D (cty cI cP) (wMod cI hs σ) (wMod cI hs) [.ref (hs 0), .int p1] 0 0 (fun r u => f6_couldGet σ p1 = (r, u)) := by
  refine CI.of (cc := cX6_couldGet) (maxL := 4) (rt := .int) (own := RX6) (lv0 := [(0, .ref (hs 0)), (1, .int p1)]) pnX6 rfl rfl (Nat.le_of_ble_eq_true rfl) rfl (fun p e s m args below meth c A Q F hret => ?_)
  have w_2 := F.at (x := Cond.fieldLink RX6 7 "ThinVolumesModel" "s" "[I") 2 rfl
  have w_3 := F.at (x := Cond.fieldLink RX6 19 "ThinVolumesModel" "tried" "[I") 3 rfl
  have w_1 := F.at (x := Cond.constant RX6 86 (-1000001)) 1 rfl
  have k_6 : ∀ w ∈ wsX60, w ∈ wsX6_couldGet := fun _ h => List.mem_cons_of_mem _ (List.mem_append_right _ (h))
  have L29 : ∀ (n : Nat) (x2 : Int32) (x3 : Int32) (u : PS), vp_in p1 8 → f6_couldGet_T p1 n x2 u → (∀ (y3 : Int32) (uu : PS), f6_couldGet_L29 p1 n x2 x3 u = (y3, uu) → Wk p l e ({ frames := 5, cells := 0, slots := 0, locals := 113 } : Room) s m args below meth c 4 D A 0 0 Q (wMod cI hs uu) [(0, .ref (hs 0)), (3, .int y3)] 52 []) → Wk p l e ({ frames := 5, cells := 0, slots := 0, locals := 113 } : Room) s m args below meth c 4 D A 0 0 Q (wMod cI hs u) [(0, .ref (hs 0)), (1, .int p1), (2, .int x2), (3, .int x3)] 29 [] := by
    intro n
    induction n with
    | zero =>
      intro x2 x3 u hv0 hv1 kx
      exact False.elim hv1
    | succ n ih =>
      intro x2 x3 u hv0 hv1 kx
      refine wk_aload_n F dX6_couldGet_29 rfl 0 rfl (pc' := 30) rfl ?_
      refine wk_iload_n F dX6_couldGet_30 rfl 1 rfl (pc' := 31) rfl ?_
      refine wk_iload_n F dX6_couldGet_31 rfl 2 rfl (pc' := 32) rfl ?_
      refine wk_aload_n F dX6_couldGet_32 rfl 0 rfl (pc' := 33) rfl ?_
      refine wk_same_p F (c6_promises l D cI cP hs u) (cwV 0 F.hts gX6_couldGet_X6_promises rfl rfl rfl hdX6_promises ⟨Nat.le_of_ble_eq_true rfl, Nat.le_of_ble_eq_true rfl⟩) 0 6 rfl rfl rfl rfl (Nat.le_of_ble_eq_true rfl) dX6_couldGet_33 ⟨Nat.zero_le _, Nat.zero_le _⟩ (pc' := 36) rfl ?_
      refine wk_isub F dX6_couldGet_36 (pc' := 37) rfl ?_
      refine wk_same_i F (c6_asks l D cI cP hs u p1 (x2 - (f6_promises u)) hv0) (cwV 2 F.hts gX6_couldGet_X6_asks rfl rfl rfl hdX6_asks ⟨Nat.le_of_ble_eq_true rfl, Nat.le_of_ble_eq_true rfl⟩) 0 6 rfl rfl rfl rfl (Nat.le_of_ble_eq_true rfl) dX6_couldGet_37 ⟨Nat.zero_le _, Nat.zero_le _⟩ (pc' := 40) rfl (fun r2 u1 h3 => ?_)
      refine wk_if_le (tgt := 52) F dX6_couldGet_40 (by decide) (pc' := 43) rfl (fun c4 => ?_) (fun c4 => ?_)
      · refine wk_lv [0, 3] rfl ?_
        exact kx x3 u1 (by rw [f6_couldGet_L29] <;> exact (st_match h3 (st_pos c4 rfl)))
      · refine wk_iinc (k := 2) (v := x2 + (-1)) (lv' := [(2, .int (x2 + (-1))), (0, .ref (hs 0)), (1, .int p1), (3, .int x3)]) F dX6_couldGet_43 rfl rfl (Nat.le_of_ble_eq_true rfl) rfl (pc' := 46) rfl ?_
        refine wk_iinc (k := 3) (v := x3 + 1) (lv' := [(3, .int (x3 + 1)), (2, .int (x2 + (-1))), (0, .ref (hs 0)), (1, .int p1)]) F dX6_couldGet_46 rfl rfl (Nat.le_of_ble_eq_true rfl) rfl (pc' := 49) rfl ?_
        refine wk_goto (tgt := 29) F dX6_couldGet_49 (by decide) ?_
        refine wk_lv [2, 3, 1, 0] rfl ?_
        exact ih (x2 + (-1)) (x3 + 1) u1 hv0 (hv1 _ _ h3 c4) (fun y3_ u_ h_ => kx y3_ u_ (Eq.trans (by rw [f6_couldGet_L29] <;> exact (st_match h3 (st_neg c4 rfl))) h_))
  refine wk_aload_n F dX6_couldGet_0 rfl 0 rfl (pc' := 1) rfl ?_
  refine wk_iload_n F dX6_couldGet_1 rfl 1 rfl (pc' := 2) rfl ?_
  refine wk_same_p F (c6_isVolume l D cI cP hs σ p1) (cwV 1 F.hts gX6_couldGet_X6_isVolume rfl rfl rfl hdX6_isVolume ⟨Nat.le_of_ble_eq_true rfl, Nat.le_of_ble_eq_true rfl⟩) 0 6 rfl rfl rfl rfl (Nat.le_of_ble_eq_true rfl) dX6_couldGet_2 ⟨Nat.zero_le _, Nat.zero_le _⟩ (pc' := 5) rfl ?_
  refine wk_if_ne (tgt := 11) F dX6_couldGet_5 (by decide) (pc' := 8) rfl (fun c5 => ?_) (fun c5 => ?_)
  · refine wk_aload_n F dX6_couldGet_11 rfl 0 rfl (pc' := 12) rfl ?_
    refine wk_get (C := RX6) (T := TX6) (N := 12) F 0 rfl rfl k_6 0 (Nat.le_of_ble_eq_true rfl) w_2 rfl dX6_couldGet_12 (pc' := 15) rfl ?_
    refine wk_aload_n F dX6_couldGet_15 rfl 0 rfl (pc' := 16) rfl ?_
    refine wk_get (C := RX6) (T := TX6) (N := 12) F 0 rfl rfl k_6 3 (Nat.le_of_ble_eq_true rfl) w_3 rfl dX6_couldGet_16 (pc' := 19) rfl ?_
    refine wk_cp_0_3 F (va_cwS 2 F.hts gX6_couldGet_X6_copies rfl rfl rfl hdX6_copies ⟨Nat.le_of_ble_eq_true rfl, Nat.le_of_ble_eq_true rfl⟩) rfl (Nat.le_of_ble_eq_true rfl) dX6_couldGet_19 ⟨Nat.zero_le _, Nat.zero_le _⟩ (pc' := 22) rfl (fun u6 h7 => ?_)
    refine wk_aload_n F dX6_couldGet_22 rfl 0 rfl (pc' := 23) rfl ?_
    refine wk_same_p F (c6_free l D cI cP hs u6 (okL_cpy (by decide) h7 hs_okL)) (cwV 0 F.hts gX6_couldGet_X6_free rfl rfl rfl hdX6_free ⟨Nat.le_of_ble_eq_true rfl, Nat.le_of_ble_eq_true rfl⟩) 0 6 rfl rfl rfl rfl (Nat.le_of_ble_eq_true rfl) dX6_couldGet_23 ⟨Nat.zero_le _, Nat.zero_le _⟩ (pc' := 26) rfl ?_
    refine wk_istore_n (lv' := [(2, .int (f6_free u6)), (0, .ref (hs 0)), (1, .int p1)]) F dX6_couldGet_26 rfl (Nat.le_of_ble_eq_true rfl) rfl (pc' := 27) rfl ?_
    refine wk_iconst F dX6_couldGet_27 ic_0 (pc' := 28) rfl ?_
    refine wk_istore_n (lv' := [(3, .int (0 : Int32)), (2, .int (f6_free u6)), (0, .ref (hs 0)), (1, .int p1)]) F dX6_couldGet_28 rfl (Nat.le_of_ble_eq_true rfl) rfl (pc' := 29) rfl ?_
    refine wk_lv [2, 3, 1, 0] rfl ?_
    refine L29 64 (f6_free u6) (0 : Int32) u6 (isVolume_in c5) (by subst h7; exact hT) (fun y9 u10 h8 => ?_)
    refine wk_aload_n F dX6_couldGet_52 rfl 0 rfl (pc' := 53) rfl ?_
    refine wk_get (C := RX6) (T := TX6) (N := 12) F 0 rfl rfl k_6 3 (Nat.le_of_ble_eq_true rfl) w_3 rfl dX6_couldGet_53 (pc' := 56) rfl ?_
    refine wk_aload_n F dX6_couldGet_56 rfl 0 rfl (pc' := 57) rfl ?_
    refine wk_get (C := RX6) (T := TX6) (N := 12) F 0 rfl rfl k_6 0 (Nat.le_of_ble_eq_true rfl) w_2 rfl dX6_couldGet_57 (pc' := 60) rfl ?_
    refine wk_cp_3_0 F (va_cwS 2 F.hts gX6_couldGet_X6_copies rfl rfl rfl hdX6_copies ⟨Nat.le_of_ble_eq_true rfl, Nat.le_of_ble_eq_true rfl⟩) rfl (Nat.le_of_ble_eq_true rfl) dX6_couldGet_60 ⟨Nat.zero_le _, Nat.zero_le _⟩ (pc' := 63) rfl (fun u11 h12 => ?_)
    refine wk_iload_n F dX6_couldGet_63 rfl 1 rfl (pc' := 64) rfl ?_
    exact hret _ _ _ _ dX6_couldGet_64 rfl (by rw [f6_couldGet] <;> exact (st_neg c5 (st_let h7 (st_match h8 (st_let h12 rfl)))))
  · refine wk_ldc F dX6_couldGet_8 w_1 (pc' := 10) rfl ?_
    exact hret _ _ _ _ dX6_couldGet_10 rfl (by rw [f6_couldGet] <;> exact (st_pos c5 rfl))
def f6_couldFree_L37 (p1 : Int32) : Nat → Nat → Int32 → PS → Int32 × PS
  | 0, i, x2, u => (x2, u)
  | n + 1, i, x2, u => (if (f6_of u (nI i) (0 : Int32)) = (1 : Int32) then (if (nI i) = p1 then (sq2 (f6_sweeps u (nI i)) (fun (r4 : Int32) (u3 : PS) => f6_couldFree_L37 p1 n (i + 1) (x2 + r4) u3)) else (if p1 = (-2 : Int32) then (sq2 (f6_sweeps u (nI i)) (fun (r8 : Int32) (u7 : PS) => f6_couldFree_L37 p1 n (i + 1) (x2 + r8) u7)) else f6_couldFree_L37 p1 n (i + 1) (x2 + (0 : Int32)) u)) else f6_couldFree_L37 p1 n (i + 1) (x2 + (0 : Int32)) u)
def f6_couldFree (σ : PS) (p1 : Int32) : Int32 × PS := (if (f6_isVolume σ p1) = 0 then (if p1 = (-1 : Int32) then (sq (cpyR σ 0 3) (fun (u25 : PS) => (sq2 (f6_couldFree_L37 p1 8 0 (0 : Int32) u25) (fun (y28 : Int32) (u29 : PS) => (if 0 ≤ p1 then (sq (cpyR u29 3 0) (fun (u31 : PS) => (y28 + (0 : Int32), u31))) else (sq2 (f6_merges u29) (fun (r34 : Int32) (u33 : PS) => (sq (cpyR u33 3 0) (fun (u36 : PS) => (y28 + r34, u36)))))))))) else (if p1 = (-2 : Int32) then (sq (cpyR σ 0 3) (fun (u39 : PS) => (sq2 (f6_couldFree_L37 p1 8 0 (0 : Int32) u39) (fun (y42 : Int32) (u43 : PS) => (if 0 ≤ p1 then (sq (cpyR u43 3 0) (fun (u45 : PS) => (y42 + (0 : Int32), u45))) else (sq2 (f6_merges u43) (fun (r48 : Int32) (u47 : PS) => (sq (cpyR u47 3 0) (fun (u50 : PS) => (y42 + r48, u50)))))))))) else ((-1000001 : Int32), σ))) else (sq (cpyR σ 0 3) (fun (u11 : PS) => (sq2 (f6_couldFree_L37 p1 8 0 (0 : Int32) u11) (fun (y14 : Int32) (u15 : PS) => (if 0 ≤ p1 then (sq (cpyR u15 3 0) (fun (u17 : PS) => (y14 + (0 : Int32), u17))) else (sq2 (f6_merges u15) (fun (r20 : Int32) (u19 : PS) => (sq (cpyR u19 3 0) (fun (u22 : PS) => (y14 + r20, u22)))))))))))
theorem okLP_cfL {v : Int32} : ∀ (n i : Nat) (x : Int32) (u : PS), i + n = 8 → okL u → okP u → okL (f6_couldFree_L37 v n i x u).2 ∧ okP (f6_couldFree_L37 v n i x u).2 := by
  intro n
  induction n with
  | zero => intro i x u _ h1 h2; exact ⟨h1, h2⟩
  | succ n ih =>
    intro i x u hi h1 h2
    unfold f6_couldFree_L37 sq2
    have hv : vp_in (nI i) 8 := vp_in_nI (by omega) (by decide)
    repeat' split
    all_goals first | exact ih (i + 1) _ _ (by omega) h1 h2 | exact ih (i + 1) _ _ (by omega) (okL_sweeps hv (Prod.ext rfl rfl) h1 h2) (okP_sweeps hv (Prod.ext rfl rfl) h1 h2)
theorem okL_cfL {σ u : PS} {v x y : Int32} (h : f6_couldFree_L37 v 8 0 x σ = (y, u)) (ho : okL σ) (hp : okP σ) : okL u := by
  have e : (f6_couldFree_L37 v 8 0 x σ).2 = u := by rw [h]
  subst e; exact (okLP_cfL 8 0 x σ rfl ho hp).1
set_option maxHeartbeats 4000000 in
set_option maxRecDepth 100000 in
theorem c6_couldFree (l : Launch) (D : va_G) (cI cP : ClassId) (hs : Nat → Nat) (σ : PS) (p1 : Int32) (hs_okL : okL σ) (hs_okP : okP σ) : CI l yX6_couldFree wsX6_couldFree ({ frames := 6, cells := 0, slots := 0, locals := 140 } : Room) D (cty cI cP) (wMod cI hs σ) (wMod cI hs) [.ref (hs 0), .int p1] 0 0 (fun r u => f6_couldFree σ p1 = (r, u)) := by
  refine CI.of (cc := cX6_couldFree) (maxL := 4) (rt := .int) (own := RX6) (lv0 := [(0, .ref (hs 0)), (1, .int p1)]) pnX6 rfl rfl (Nat.le_of_ble_eq_true rfl) rfl (fun p e s m args below meth c A Q F hret => ?_)
  have w_2 := F.at (x := Cond.fieldLink RX6 7 "ThinVolumesModel" "s" "[I") 2 rfl
  have w_3 := F.at (x := Cond.fieldLink RX6 19 "ThinVolumesModel" "tried" "[I") 3 rfl
  have w_1 := F.at (x := Cond.constant RX6 86 (-1000001)) 1 rfl
  have k_6 : ∀ w ∈ wsX60, w ∈ wsX6_couldFree := fun _ h => List.mem_cons_of_mem _ (List.mem_append_right _ (h))
  have L37 : ∀ (n : Nat) (i : Nat) (x2 : Int32) (u : PS), i + n = 8 → okL u → okP u → (∀ (y2 : Int32) (uu : PS), f6_couldFree_L37 p1 n i x2 u = (y2, uu) → Wk p l e ({ frames := 6, cells := 0, slots := 0, locals := 140 } : Room) s m args below meth c 4 D A 0 0 Q (wMod cI hs uu) [(0, .ref (hs 0)), (1, .int p1), (2, .int y2)] 82 []) → Wk p l e ({ frames := 6, cells := 0, slots := 0, locals := 140 } : Room) s m args below meth c 4 D A 0 0 Q (wMod cI hs u) [(0, .ref (hs 0)), (1, .int p1), (2, .int x2), (3, .int (nI i))] 37 [] := by
    intro n
    induction n with
    | zero =>
      intro i x2 u hi hv0 hv1 kx
      refine wk_iload_n F dX6_couldFree_37 rfl 3 rfl (pc' := 38) rfl ?_
      refine wk_bipush F dX6_couldFree_38 bp_8 (pc' := 40) rfl ?_
      refine wk_icmp_ge (tgt := 82) F dX6_couldFree_40 (by decide) (pc' := 43) rfl (fun _ => ?_) (fun c => absurd ((nI_leI (a := 8) (b := i) (by omega) (by omega)).mpr (by omega)) c)
      refine wk_lv [0, 1, 2] rfl ?_
      exact kx x2 u (by rw [f6_couldFree_L37] <;> exact rfl)
    | succ n ih =>
      intro i x2 u hi hv0 hv1 kx
      refine wk_iload_n F dX6_couldFree_37 rfl 3 rfl (pc' := 38) rfl ?_
      refine wk_bipush F dX6_couldFree_38 bp_8 (pc' := 40) rfl ?_
      refine wk_icmp_ge (tgt := 82) F dX6_couldFree_40 (by decide) (pc' := 43) rfl (fun c => absurd ((nI_leI (a := 8) (b := i) (by omega) (by omega)).mp c) (by omega)) (fun _ => ?_)
      refine wk_iload_n F dX6_couldFree_43 rfl 2 rfl (pc' := 44) rfl ?_
      refine wk_aload_n F dX6_couldFree_44 rfl 0 rfl (pc' := 45) rfl ?_
      refine wk_iload_n F dX6_couldFree_45 rfl 3 rfl (pc' := 46) rfl ?_
      refine wk_iconst F dX6_couldFree_46 ic_0 (pc' := 47) rfl ?_
      refine wk_same_p F (c6_of l D cI cP hs u (nI i) (0 : Int32) (vp_in_nI (n := i) (N := 8) (by omega) (Nat.le_of_ble_eq_true rfl)) (vp_in_nI (n := 0) (N := 47) (Nat.le_of_ble_eq_true rfl) (Nat.le_of_ble_eq_true rfl))) (cwV 2 F.hts gX6_couldFree_X6_of rfl rfl rfl hdX6_of ⟨Nat.le_of_ble_eq_true rfl, Nat.le_of_ble_eq_true rfl⟩) 0 6 rfl rfl rfl rfl (Nat.le_of_ble_eq_true rfl) dX6_couldFree_47 ⟨Nat.zero_le _, Nat.zero_le _⟩ (pc' := 50) rfl ?_
      refine wk_iconst F dX6_couldFree_50 ic_1 (pc' := 51) rfl ?_
      refine wk_icmp_ne (tgt := 73) F dX6_couldFree_51 (by decide) (pc' := 54) rfl (fun c1 => ?_) (fun c1 => ?_)
      · refine wk_iconst F dX6_couldFree_73 ic_0 (pc' := 74) rfl ?_
        refine wk_iadd F dX6_couldFree_74 (pc' := 75) rfl ?_
        refine wk_istore_n (lv' := [(2, .int (x2 + (0 : Int32))), (0, .ref (hs 0)), (1, .int p1), (3, .int (nI i))]) F dX6_couldFree_75 rfl (Nat.le_of_ble_eq_true rfl) rfl (pc' := 76) rfl ?_
        refine wk_iinc (k := 3) (v := nI (i + 1)) (lv' := [(3, .int (nI (i + 1))), (2, .int (x2 + (0 : Int32))), (0, .ref (hs 0)), (1, .int p1)]) F dX6_couldFree_76 rfl (nI_inc i) (Nat.le_of_ble_eq_true rfl) rfl (pc' := 79) rfl ?_
        refine wk_goto (tgt := 37) F dX6_couldFree_79 (by decide) ?_
        refine wk_lv [2, 3, 1, 0] rfl ?_
        exact ih (i + 1) (x2 + (0 : Int32)) u (by omega) hv0 hv1 (fun y2_ u_ h_ => kx y2_ u_ (Eq.trans (by rw [f6_couldFree_L37] <;> exact (st_neg c1 rfl)) h_))
      · refine wk_iload_n F dX6_couldFree_54 rfl 3 rfl (pc' := 55) rfl ?_
        refine wk_iload_n F dX6_couldFree_55 rfl 1 rfl (pc' := 56) rfl ?_
        refine wk_icmp_eq (tgt := 65) F dX6_couldFree_56 (by decide) (pc' := 59) rfl (fun c2 => ?_) (fun c2 => ?_)
        · refine wk_aload_n F dX6_couldFree_65 rfl 0 rfl (pc' := 66) rfl ?_
          refine wk_iload_n F dX6_couldFree_66 rfl 3 rfl (pc' := 67) rfl ?_
          refine wk_same_i F (c6_sweeps l D cI cP hs u (nI i) (vp_in_nI (n := i) (N := 8) (by omega) (Nat.le_of_ble_eq_true rfl)) hv0 hv1) (cwV 1 F.hts gX6_couldFree_X6_sweeps rfl rfl rfl hdX6_sweeps ⟨Nat.le_of_ble_eq_true rfl, Nat.le_of_ble_eq_true rfl⟩) 0 6 rfl rfl rfl rfl (Nat.le_of_ble_eq_true rfl) dX6_couldFree_67 ⟨Nat.zero_le _, Nat.zero_le _⟩ (pc' := 70) rfl (fun r4 u3 h5 => ?_)
          refine wk_goto (tgt := 74) F dX6_couldFree_70 (by decide) ?_
          refine wk_iadd F dX6_couldFree_74 (pc' := 75) rfl ?_
          refine wk_istore_n (lv' := [(2, .int (x2 + r4)), (0, .ref (hs 0)), (1, .int p1), (3, .int (nI i))]) F dX6_couldFree_75 rfl (Nat.le_of_ble_eq_true rfl) rfl (pc' := 76) rfl ?_
          refine wk_iinc (k := 3) (v := nI (i + 1)) (lv' := [(3, .int (nI (i + 1))), (2, .int (x2 + r4)), (0, .ref (hs 0)), (1, .int p1)]) F dX6_couldFree_76 rfl (nI_inc i) (Nat.le_of_ble_eq_true rfl) rfl (pc' := 79) rfl ?_
          refine wk_goto (tgt := 37) F dX6_couldFree_79 (by decide) ?_
          refine wk_lv [2, 3, 1, 0] rfl ?_
          exact ih (i + 1) (x2 + r4) u3 (by omega) (okL_sweeps (vp_in_nI (n := i) (N := 8) (by omega) (Nat.le_of_ble_eq_true rfl)) h5 hv0 hv1) (okP_sweeps (vp_in_nI (n := i) (N := 8) (by omega) (Nat.le_of_ble_eq_true rfl)) h5 hv0 hv1) (fun y2_ u_ h_ => kx y2_ u_ (Eq.trans (by rw [f6_couldFree_L37] <;> exact (st_pos c1 (st_pos c2 (st_match h5 rfl)))) h_))
        · refine wk_iload_n F dX6_couldFree_59 rfl 1 rfl (pc' := 60) rfl ?_
          refine wk_bipush F dX6_couldFree_60 bp_m2 (pc' := 62) rfl ?_
          refine wk_icmp_ne (tgt := 73) F dX6_couldFree_62 (by decide) (pc' := 65) rfl (fun c6 => ?_) (fun c6 => ?_)
          · refine wk_iconst F dX6_couldFree_73 ic_0 (pc' := 74) rfl ?_
            refine wk_iadd F dX6_couldFree_74 (pc' := 75) rfl ?_
            refine wk_istore_n (lv' := [(2, .int (x2 + (0 : Int32))), (0, .ref (hs 0)), (1, .int p1), (3, .int (nI i))]) F dX6_couldFree_75 rfl (Nat.le_of_ble_eq_true rfl) rfl (pc' := 76) rfl ?_
            refine wk_iinc (k := 3) (v := nI (i + 1)) (lv' := [(3, .int (nI (i + 1))), (2, .int (x2 + (0 : Int32))), (0, .ref (hs 0)), (1, .int p1)]) F dX6_couldFree_76 rfl (nI_inc i) (Nat.le_of_ble_eq_true rfl) rfl (pc' := 79) rfl ?_
            refine wk_goto (tgt := 37) F dX6_couldFree_79 (by decide) ?_
            refine wk_lv [2, 3, 1, 0] rfl ?_
            exact ih (i + 1) (x2 + (0 : Int32)) u (by omega) hv0 hv1 (fun y2_ u_ h_ => kx y2_ u_ (Eq.trans (by rw [f6_couldFree_L37] <;> exact (st_pos c1 (st_neg c2 (st_neg c6 rfl)))) h_))
          · refine wk_aload_n F dX6_couldFree_65 rfl 0 rfl (pc' := 66) rfl ?_
            refine wk_iload_n F dX6_couldFree_66 rfl 3 rfl (pc' := 67) rfl ?_
            refine wk_same_i F (c6_sweeps l D cI cP hs u (nI i) (vp_in_nI (n := i) (N := 8) (by omega) (Nat.le_of_ble_eq_true rfl)) hv0 hv1) (cwV 1 F.hts gX6_couldFree_X6_sweeps rfl rfl rfl hdX6_sweeps ⟨Nat.le_of_ble_eq_true rfl, Nat.le_of_ble_eq_true rfl⟩) 0 6 rfl rfl rfl rfl (Nat.le_of_ble_eq_true rfl) dX6_couldFree_67 ⟨Nat.zero_le _, Nat.zero_le _⟩ (pc' := 70) rfl (fun r8 u7 h9 => ?_)
            refine wk_goto (tgt := 74) F dX6_couldFree_70 (by decide) ?_
            refine wk_iadd F dX6_couldFree_74 (pc' := 75) rfl ?_
            refine wk_istore_n (lv' := [(2, .int (x2 + r8)), (0, .ref (hs 0)), (1, .int p1), (3, .int (nI i))]) F dX6_couldFree_75 rfl (Nat.le_of_ble_eq_true rfl) rfl (pc' := 76) rfl ?_
            refine wk_iinc (k := 3) (v := nI (i + 1)) (lv' := [(3, .int (nI (i + 1))), (2, .int (x2 + r8)), (0, .ref (hs 0)), (1, .int p1)]) F dX6_couldFree_76 rfl (nI_inc i) (Nat.le_of_ble_eq_true rfl) rfl (pc' := 79) rfl ?_
            refine wk_goto (tgt := 37) F dX6_couldFree_79 (by decide) ?_
            refine wk_lv [2, 3, 1, 0] rfl ?_
            exact ih (i + 1) (x2 + r8) u7 (by omega) (okL_sweeps (vp_in_nI (n := i) (N := 8) (by omega) (Nat.le_of_ble_eq_true rfl)) h9 hv0 hv1) (okP_sweeps (vp_in_nI (n := i) (N := 8) (by omega) (Nat.le_of_ble_eq_true rfl)) h9 hv0 hv1) (fun y2_ u_ h_ => kx y2_ u_ (Eq.trans (by rw [f6_couldFree_L37] <;> exact (st_pos c1 (st_neg c2 (st_pos c6 (st_match h9 rfl))))) h_))
  refine wk_aload_n F dX6_couldFree_0 rfl 0 rfl (pc' := 1) rfl ?_
  refine wk_iload_n F dX6_couldFree_1 rfl 1 rfl (pc' := 2) rfl ?_
  refine wk_same_p F (c6_isVolume l D cI cP hs σ p1) (cwV 1 F.hts gX6_couldFree_X6_isVolume rfl rfl rfl hdX6_isVolume ⟨Nat.le_of_ble_eq_true rfl, Nat.le_of_ble_eq_true rfl⟩) 0 6 rfl rfl rfl rfl (Nat.le_of_ble_eq_true rfl) dX6_couldFree_2 ⟨Nat.zero_le _, Nat.zero_le _⟩ (pc' := 5) rfl ?_
  refine wk_if_ne (tgt := 22) F dX6_couldFree_5 (by decide) (pc' := 8) rfl (fun c10 => ?_) (fun c10 => ?_)
  · refine wk_aload_n F dX6_couldFree_22 rfl 0 rfl (pc' := 23) rfl ?_
    refine wk_get (C := RX6) (T := TX6) (N := 12) F 0 rfl rfl k_6 0 (Nat.le_of_ble_eq_true rfl) w_2 rfl dX6_couldFree_23 (pc' := 26) rfl ?_
    refine wk_aload_n F dX6_couldFree_26 rfl 0 rfl (pc' := 27) rfl ?_
    refine wk_get (C := RX6) (T := TX6) (N := 12) F 0 rfl rfl k_6 3 (Nat.le_of_ble_eq_true rfl) w_3 rfl dX6_couldFree_27 (pc' := 30) rfl ?_
    refine wk_cp_0_3 F (va_cwS 2 F.hts gX6_couldFree_X6_copies rfl rfl rfl hdX6_copies ⟨Nat.le_of_ble_eq_true rfl, Nat.le_of_ble_eq_true rfl⟩) rfl (Nat.le_of_ble_eq_true rfl) dX6_couldFree_30 ⟨Nat.zero_le _, Nat.zero_le _⟩ (pc' := 33) rfl (fun u11 h12 => ?_)
    refine wk_iconst F dX6_couldFree_33 ic_0 (pc' := 34) rfl ?_
    refine wk_istore_n (lv' := [(2, .int (0 : Int32)), (0, .ref (hs 0)), (1, .int p1)]) F dX6_couldFree_34 rfl (Nat.le_of_ble_eq_true rfl) rfl (pc' := 35) rfl ?_
    refine wk_iconst F dX6_couldFree_35 ic_0 (pc' := 36) rfl ?_
    refine wk_istore_n (lv' := [(3, .int (0 : Int32)), (2, .int (0 : Int32)), (0, .ref (hs 0)), (1, .int p1)]) F dX6_couldFree_36 rfl (Nat.le_of_ble_eq_true rfl) rfl (pc' := 37) rfl ?_
    refine wk_lv [2, 3, 1, 0] rfl ?_
    refine L37 8 0 (0 : Int32) u11 (by omega) (okL_cpy (by decide) h12 hs_okL) (okP_cpy (by decide) h12 hs_okP) (fun y14 u15 h13 => ?_)
    refine wk_iload_n F dX6_couldFree_82 rfl 2 rfl (pc' := 83) rfl ?_
    refine wk_iload_n F dX6_couldFree_83 rfl 1 rfl (pc' := 84) rfl ?_
    refine wk_if_ge (tgt := 94) F dX6_couldFree_84 (by decide) (pc' := 87) rfl (fun c16 => ?_) (fun c16 => ?_)
    · refine wk_iconst F dX6_couldFree_94 ic_0 (pc' := 95) rfl ?_
      refine wk_iadd F dX6_couldFree_95 (pc' := 96) rfl ?_
      refine wk_istore_n (lv' := [(2, .int (y14 + (0 : Int32))), (0, .ref (hs 0)), (1, .int p1)]) F dX6_couldFree_96 rfl (Nat.le_of_ble_eq_true rfl) rfl (pc' := 97) rfl ?_
      refine wk_aload_n F dX6_couldFree_97 rfl 1 rfl (pc' := 98) rfl ?_
      refine wk_get (C := RX6) (T := TX6) (N := 12) F 0 rfl rfl k_6 3 (Nat.le_of_ble_eq_true rfl) w_3 rfl dX6_couldFree_98 (pc' := 101) rfl ?_
      refine wk_aload_n F dX6_couldFree_101 rfl 1 rfl (pc' := 102) rfl ?_
      refine wk_get (C := RX6) (T := TX6) (N := 12) F 0 rfl rfl k_6 0 (Nat.le_of_ble_eq_true rfl) w_2 rfl dX6_couldFree_102 (pc' := 105) rfl ?_
      refine wk_cp_3_0 F (va_cwS 2 F.hts gX6_couldFree_X6_copies rfl rfl rfl hdX6_copies ⟨Nat.le_of_ble_eq_true rfl, Nat.le_of_ble_eq_true rfl⟩) rfl (Nat.le_of_ble_eq_true rfl) dX6_couldFree_105 ⟨Nat.zero_le _, Nat.zero_le _⟩ (pc' := 108) rfl (fun u17 h18 => ?_)
      refine wk_iload_n F dX6_couldFree_108 rfl 0 rfl (pc' := 109) rfl ?_
      exact hret _ _ _ _ dX6_couldFree_109 rfl (by rw [f6_couldFree] <;> exact (st_neg c10 (st_let h12 (st_match h13 (st_pos c16 (st_let h18 rfl))))))
    · refine wk_aload_n F dX6_couldFree_87 rfl 0 rfl (pc' := 88) rfl ?_
      refine wk_same_i F (c6_merges l D cI cP hs u15 (okL_cfL h13 (okL_cpy (by decide) h12 hs_okL) (okP_cpy (by decide) h12 hs_okP))) (cwV 0 F.hts gX6_couldFree_X6_merges rfl rfl rfl hdX6_merges ⟨Nat.le_of_ble_eq_true rfl, Nat.le_of_ble_eq_true rfl⟩) 0 6 rfl rfl rfl rfl (Nat.le_of_ble_eq_true rfl) dX6_couldFree_88 ⟨Nat.zero_le _, Nat.zero_le _⟩ (pc' := 91) rfl (fun r20 u19 h21 => ?_)
      refine wk_goto (tgt := 95) F dX6_couldFree_91 (by decide) ?_
      refine wk_iadd F dX6_couldFree_95 (pc' := 96) rfl ?_
      refine wk_istore_n (lv' := [(2, .int (y14 + r20)), (0, .ref (hs 0)), (1, .int p1)]) F dX6_couldFree_96 rfl (Nat.le_of_ble_eq_true rfl) rfl (pc' := 97) rfl ?_
      refine wk_aload_n F dX6_couldFree_97 rfl 1 rfl (pc' := 98) rfl ?_
      refine wk_get (C := RX6) (T := TX6) (N := 12) F 0 rfl rfl k_6 3 (Nat.le_of_ble_eq_true rfl) w_3 rfl dX6_couldFree_98 (pc' := 101) rfl ?_
      refine wk_aload_n F dX6_couldFree_101 rfl 1 rfl (pc' := 102) rfl ?_
      refine wk_get (C := RX6) (T := TX6) (N := 12) F 0 rfl rfl k_6 0 (Nat.le_of_ble_eq_true rfl) w_2 rfl dX6_couldFree_102 (pc' := 105) rfl ?_
      refine wk_cp_3_0 F (va_cwS 2 F.hts gX6_couldFree_X6_copies rfl rfl rfl hdX6_copies ⟨Nat.le_of_ble_eq_true rfl, Nat.le_of_ble_eq_true rfl⟩) rfl (Nat.le_of_ble_eq_true rfl) dX6_couldFree_105 ⟨Nat.zero_le _, Nat.zero_le _⟩ (pc' := 108) rfl (fun u22 h23 => ?_)
      refine wk_iload_n F dX6_couldFree_108 rfl 0 rfl (pc' := 109) rfl ?_
      exact hret _ _ _ _ dX6_couldFree_109 rfl (by rw [f6_couldFree] <;> exact (st_neg c10 (st_let h12 (st_match h13 (st_neg c16 (st_match h21 (st_let h23 rfl)))))))
  · refine wk_iload_n F dX6_couldFree_8 rfl 1 rfl (pc' := 9) rfl ?_
    refine wk_iconst F dX6_couldFree_9 ic_m1 (pc' := 10) rfl ?_
    refine wk_icmp_eq (tgt := 22) F dX6_couldFree_10 (by decide) (pc' := 13) rfl (fun c24 => ?_) (fun c24 => ?_)
    · refine wk_aload_n F dX6_couldFree_22 rfl 0 rfl (pc' := 23) rfl ?_
      refine wk_get (C := RX6) (T := TX6) (N := 12) F 0 rfl rfl k_6 0 (Nat.le_of_ble_eq_true rfl) w_2 rfl dX6_couldFree_23 (pc' := 26) rfl ?_
      refine wk_aload_n F dX6_couldFree_26 rfl 0 rfl (pc' := 27) rfl ?_
      refine wk_get (C := RX6) (T := TX6) (N := 12) F 0 rfl rfl k_6 3 (Nat.le_of_ble_eq_true rfl) w_3 rfl dX6_couldFree_27 (pc' := 30) rfl ?_
      refine wk_cp_0_3 F (va_cwS 2 F.hts gX6_couldFree_X6_copies rfl rfl rfl hdX6_copies ⟨Nat.le_of_ble_eq_true rfl, Nat.le_of_ble_eq_true rfl⟩) rfl (Nat.le_of_ble_eq_true rfl) dX6_couldFree_30 ⟨Nat.zero_le _, Nat.zero_le _⟩ (pc' := 33) rfl (fun u25 h26 => ?_)
      refine wk_iconst F dX6_couldFree_33 ic_0 (pc' := 34) rfl ?_
      refine wk_istore_n (lv' := [(2, .int (0 : Int32)), (0, .ref (hs 0)), (1, .int p1)]) F dX6_couldFree_34 rfl (Nat.le_of_ble_eq_true rfl) rfl (pc' := 35) rfl ?_
      refine wk_iconst F dX6_couldFree_35 ic_0 (pc' := 36) rfl ?_
      refine wk_istore_n (lv' := [(3, .int (0 : Int32)), (2, .int (0 : Int32)), (0, .ref (hs 0)), (1, .int p1)]) F dX6_couldFree_36 rfl (Nat.le_of_ble_eq_true rfl) rfl (pc' := 37) rfl ?_
      refine wk_lv [2, 3, 1, 0] rfl ?_
      refine L37 8 0 (0 : Int32) u25 (by omega) (okL_cpy (by decide) h26 hs_okL) (okP_cpy (by decide) h26 hs_okP) (fun y28 u29 h27 => ?_)
      refine wk_iload_n F dX6_couldFree_82 rfl 2 rfl (pc' := 83) rfl ?_
      refine wk_iload_n F dX6_couldFree_83 rfl 1 rfl (pc' := 84) rfl ?_
      refine wk_if_ge (tgt := 94) F dX6_couldFree_84 (by decide) (pc' := 87) rfl (fun c30 => ?_) (fun c30 => ?_)
      · refine wk_iconst F dX6_couldFree_94 ic_0 (pc' := 95) rfl ?_
        refine wk_iadd F dX6_couldFree_95 (pc' := 96) rfl ?_
        refine wk_istore_n (lv' := [(2, .int (y28 + (0 : Int32))), (0, .ref (hs 0)), (1, .int p1)]) F dX6_couldFree_96 rfl (Nat.le_of_ble_eq_true rfl) rfl (pc' := 97) rfl ?_
        refine wk_aload_n F dX6_couldFree_97 rfl 1 rfl (pc' := 98) rfl ?_
        refine wk_get (C := RX6) (T := TX6) (N := 12) F 0 rfl rfl k_6 3 (Nat.le_of_ble_eq_true rfl) w_3 rfl dX6_couldFree_98 (pc' := 101) rfl ?_
        refine wk_aload_n F dX6_couldFree_101 rfl 1 rfl (pc' := 102) rfl ?_
        refine wk_get (C := RX6) (T := TX6) (N := 12) F 0 rfl rfl k_6 0 (Nat.le_of_ble_eq_true rfl) w_2 rfl dX6_couldFree_102 (pc' := 105) rfl ?_
        refine wk_cp_3_0 F (va_cwS 2 F.hts gX6_couldFree_X6_copies rfl rfl rfl hdX6_copies ⟨Nat.le_of_ble_eq_true rfl, Nat.le_of_ble_eq_true rfl⟩) rfl (Nat.le_of_ble_eq_true rfl) dX6_couldFree_105 ⟨Nat.zero_le _, Nat.zero_le _⟩ (pc' := 108) rfl (fun u31 h32 => ?_)
        refine wk_iload_n F dX6_couldFree_108 rfl 0 rfl (pc' := 109) rfl ?_
        exact hret _ _ _ _ dX6_couldFree_109 rfl (by rw [f6_couldFree] <;> exact (st_pos c10 (st_pos c24 (st_let h26 (st_match h27 (st_pos c30 (st_let h32 rfl)))))))
      · refine wk_aload_n F dX6_couldFree_87 rfl 0 rfl (pc' := 88) rfl ?_
        refine wk_same_i F (c6_merges l D cI cP hs u29 (okL_cfL h27 (okL_cpy (by decide) h26 hs_okL) (okP_cpy (by decide) h26 hs_okP))) (cwV 0 F.hts gX6_couldFree_X6_merges rfl rfl rfl hdX6_merges ⟨Nat.le_of_ble_eq_true rfl, Nat.le_of_ble_eq_true rfl⟩) 0 6 rfl rfl rfl rfl (Nat.le_of_ble_eq_true rfl) dX6_couldFree_88 ⟨Nat.zero_le _, Nat.zero_le _⟩ (pc' := 91) rfl (fun r34 u33 h35 => ?_)
        refine wk_goto (tgt := 95) F dX6_couldFree_91 (by decide) ?_
        refine wk_iadd F dX6_couldFree_95 (pc' := 96) rfl ?_
        refine wk_istore_n (lv' := [(2, .int (y28 + r34)), (0, .ref (hs 0)), (1, .int p1)]) F dX6_couldFree_96 rfl (Nat.le_of_ble_eq_true rfl) rfl (pc' := 97) rfl ?_
        refine wk_aload_n F dX6_couldFree_97 rfl 1 rfl (pc' := 98) rfl ?_
        refine wk_get (C := RX6) (T := TX6) (N := 12) F 0 rfl rfl k_6 3 (Nat.le_of_ble_eq_true rfl) w_3 rfl dX6_couldFree_98 (pc' := 101) rfl ?_
        refine wk_aload_n F dX6_couldFree_101 rfl 1 rfl (pc' := 102) rfl ?_
        refine wk_get (C := RX6) (T := TX6) (N := 12) F 0 rfl rfl k_6 0 (Nat.le_of_ble_eq_true rfl) w_2 rfl dX6_couldFree_102 (pc' := 105) rfl ?_
        refine wk_cp_3_0 F (va_cwS 2 F.hts gX6_couldFree_X6_copies rfl rfl rfl hdX6_copies ⟨Nat.le_of_ble_eq_true rfl, Nat.le_of_ble_eq_true rfl⟩) rfl (Nat.le_of_ble_eq_true rfl) dX6_couldFree_105 ⟨Nat.zero_le _, Nat.zero_le _⟩ (pc' := 108) rfl (fun u36 h37 => ?_)
        refine wk_iload_n F dX6_couldFree_108 rfl 0 rfl (pc' := 109) rfl ?_
        exact hret _ _ _ _ dX6_couldFree_109 rfl (by rw [f6_couldFree] <;> exact (st_pos c10 (st_pos c24 (st_let h26 (st_match h27 (st_neg c30 (st_match h35 (st_let h37 rfl))))))))
    · refine wk_iload_n F dX6_couldFree_13 rfl 1 rfl (pc' := 14) rfl ?_
      refine wk_bipush F dX6_couldFree_14 bp_m2 (pc' := 16) rfl ?_
      refine wk_icmp_eq (tgt := 22) F dX6_couldFree_16 (by decide) (pc' := 19) rfl (fun c38 => ?_) (fun c38 => ?_)
      · refine wk_aload_n F dX6_couldFree_22 rfl 0 rfl (pc' := 23) rfl ?_
        refine wk_get (C := RX6) (T := TX6) (N := 12) F 0 rfl rfl k_6 0 (Nat.le_of_ble_eq_true rfl) w_2 rfl dX6_couldFree_23 (pc' := 26) rfl ?_
        refine wk_aload_n F dX6_couldFree_26 rfl 0 rfl (pc' := 27) rfl ?_
        refine wk_get (C := RX6) (T := TX6) (N := 12) F 0 rfl rfl k_6 3 (Nat.le_of_ble_eq_true rfl) w_3 rfl dX6_couldFree_27 (pc' := 30) rfl ?_
        refine wk_cp_0_3 F (va_cwS 2 F.hts gX6_couldFree_X6_copies rfl rfl rfl hdX6_copies ⟨Nat.le_of_ble_eq_true rfl, Nat.le_of_ble_eq_true rfl⟩) rfl (Nat.le_of_ble_eq_true rfl) dX6_couldFree_30 ⟨Nat.zero_le _, Nat.zero_le _⟩ (pc' := 33) rfl (fun u39 h40 => ?_)
        refine wk_iconst F dX6_couldFree_33 ic_0 (pc' := 34) rfl ?_
        refine wk_istore_n (lv' := [(2, .int (0 : Int32)), (0, .ref (hs 0)), (1, .int p1)]) F dX6_couldFree_34 rfl (Nat.le_of_ble_eq_true rfl) rfl (pc' := 35) rfl ?_
        refine wk_iconst F dX6_couldFree_35 ic_0 (pc' := 36) rfl ?_
        refine wk_istore_n (lv' := [(3, .int (0 : Int32)), (2, .int (0 : Int32)), (0, .ref (hs 0)), (1, .int p1)]) F dX6_couldFree_36 rfl (Nat.le_of_ble_eq_true rfl) rfl (pc' := 37) rfl ?_
        refine wk_lv [2, 3, 1, 0] rfl ?_
        refine L37 8 0 (0 : Int32) u39 (by omega) (okL_cpy (by decide) h40 hs_okL) (okP_cpy (by decide) h40 hs_okP) (fun y42 u43 h41 => ?_)
        refine wk_iload_n F dX6_couldFree_82 rfl 2 rfl (pc' := 83) rfl ?_
        refine wk_iload_n F dX6_couldFree_83 rfl 1 rfl (pc' := 84) rfl ?_
        refine wk_if_ge (tgt := 94) F dX6_couldFree_84 (by decide) (pc' := 87) rfl (fun c44 => ?_) (fun c44 => ?_)
        · refine wk_iconst F dX6_couldFree_94 ic_0 (pc' := 95) rfl ?_
          refine wk_iadd F dX6_couldFree_95 (pc' := 96) rfl ?_
          refine wk_istore_n (lv' := [(2, .int (y42 + (0 : Int32))), (0, .ref (hs 0)), (1, .int p1)]) F dX6_couldFree_96 rfl (Nat.le_of_ble_eq_true rfl) rfl (pc' := 97) rfl ?_
          refine wk_aload_n F dX6_couldFree_97 rfl 1 rfl (pc' := 98) rfl ?_
          refine wk_get (C := RX6) (T := TX6) (N := 12) F 0 rfl rfl k_6 3 (Nat.le_of_ble_eq_true rfl) w_3 rfl dX6_couldFree_98 (pc' := 101) rfl ?_
          refine wk_aload_n F dX6_couldFree_101 rfl 1 rfl (pc' := 102) rfl ?_
          refine wk_get (C := RX6) (T := TX6) (N := 12) F 0 rfl rfl k_6 0 (Nat.le_of_ble_eq_true rfl) w_2 rfl dX6_couldFree_102 (pc' := 105) rfl ?_
          refine wk_cp_3_0 F (va_cwS 2 F.hts gX6_couldFree_X6_copies rfl rfl rfl hdX6_copies ⟨Nat.le_of_ble_eq_true rfl, Nat.le_of_ble_eq_true rfl⟩) rfl (Nat.le_of_ble_eq_true rfl) dX6_couldFree_105 ⟨Nat.zero_le _, Nat.zero_le _⟩ (pc' := 108) rfl (fun u45 h46 => ?_)
          refine wk_iload_n F dX6_couldFree_108 rfl 0 rfl (pc' := 109) rfl ?_
          exact hret _ _ _ _ dX6_couldFree_109 rfl (by rw [f6_couldFree] <;> exact (st_pos c10 (st_neg c24 (st_pos c38 (st_let h40 (st_match h41 (st_pos c44 (st_let h46 rfl))))))))
        · refine wk_aload_n F dX6_couldFree_87 rfl 0 rfl (pc' := 88) rfl ?_
          refine wk_same_i F (c6_merges l D cI cP hs u43 (okL_cfL h41 (okL_cpy (by decide) h40 hs_okL) (okP_cpy (by decide) h40 hs_okP))) (cwV 0 F.hts gX6_couldFree_X6_merges rfl rfl rfl hdX6_merges ⟨Nat.le_of_ble_eq_true rfl, Nat.le_of_ble_eq_true rfl⟩) 0 6 rfl rfl rfl rfl (Nat.le_of_ble_eq_true rfl) dX6_couldFree_88 ⟨Nat.zero_le _, Nat.zero_le _⟩ (pc' := 91) rfl (fun r48 u47 h49 => ?_)
          refine wk_goto (tgt := 95) F dX6_couldFree_91 (by decide) ?_
          refine wk_iadd F dX6_couldFree_95 (pc' := 96) rfl ?_
          refine wk_istore_n (lv' := [(2, .int (y42 + r48)), (0, .ref (hs 0)), (1, .int p1)]) F dX6_couldFree_96 rfl (Nat.le_of_ble_eq_true rfl) rfl (pc' := 97) rfl ?_
          refine wk_aload_n F dX6_couldFree_97 rfl 1 rfl (pc' := 98) rfl ?_
          refine wk_get (C := RX6) (T := TX6) (N := 12) F 0 rfl rfl k_6 3 (Nat.le_of_ble_eq_true rfl) w_3 rfl dX6_couldFree_98 (pc' := 101) rfl ?_
          refine wk_aload_n F dX6_couldFree_101 rfl 1 rfl (pc' := 102) rfl ?_
          refine wk_get (C := RX6) (T := TX6) (N := 12) F 0 rfl rfl k_6 0 (Nat.le_of_ble_eq_true rfl) w_2 rfl dX6_couldFree_102 (pc' := 105) rfl ?_
          refine wk_cp_3_0 F (va_cwS 2 F.hts gX6_couldFree_X6_copies rfl rfl rfl hdX6_copies ⟨Nat.le_of_ble_eq_true rfl, Nat.le_of_ble_eq_true rfl⟩) rfl (Nat.le_of_ble_eq_true rfl) dX6_couldFree_105 ⟨Nat.zero_le _, Nat.zero_le _⟩ (pc' := 108) rfl (fun u50 h51 => ?_)
          refine wk_iload_n F dX6_couldFree_108 rfl 0 rfl (pc' := 109) rfl ?_
          exact hret _ _ _ _ dX6_couldFree_109 rfl (by rw [f6_couldFree] <;> exact (st_pos c10 (st_neg c24 (st_pos c38 (st_let h40 (st_match h41 (st_neg c44 (st_match h49 (st_let h51 rfl)))))))))
      · refine wk_ldc F dX6_couldFree_19 w_1 (pc' := 21) rfl ?_
        exact hret _ _ _ _ dX6_couldFree_21 rfl (by rw [f6_couldFree] <;> exact (st_pos c10 (st_neg c24 (st_neg c38 rfl))))
theorem ix_spt {u : PS} (hT : okT u) (hS : okS u) (c : ¬ u 6 2 ≤ u 6 3) : vp_in (u 6 3) 60 := by
  obtain ⟨j, hj, e⟩ := vp_in_of hT (by decide)
  obtain ⟨k, hk0, e2⟩ := vp_in_of hS (by decide)
  have hk : k < 2 ^ 31 := by omega
  rw [e, e2] at c
  rw [e2]
  refine vp_in_nI ?_ (by decide)
  rcases Nat.lt_or_ge k j with q | q
  · omega
  · exact absurd (nI_le q hk) c
theorem okT_wrj {σ u : PS} {j k : Nat} {x : Int32} (hj : j ≠ 6) (h : wr σ j k x = u) (ho : okT σ) : okT u := by
  subst h; unfold okT; rw [wr_ne (Ne.symm hj)]; exact ho
theorem okS_wrj {σ u : PS} {j k : Nat} {x : Int32} (hj : j ≠ 6) (h : wr σ j k x = u) (ho : okS σ) : okS u := by
  subst h; unfold okS; rw [wr_ne (Ne.symm hj)]; exact ho
theorem okH_wrj {σ u : PS} {j k : Nat} {x : Int32} (hj : j ≠ 6) (h : wr σ j k x = u) (ho : okH σ) : okH u := by
  subst h; unfold okH; rw [wr_ne (Ne.symm hj)]; exact ho
theorem okT_wr6 {σ u : PS} {k : Nat} {x : Int32} (hk : k ≠ 2) (h : wr σ 6 k x = u) (ho : okT σ) : okT u := by
  subst h; unfold okT; rw [wr_at, if_neg (Ne.symm hk)]; exact ho
theorem okS_wr6 {σ u : PS} {k : Nat} {x : Int32} (hk : k ≠ 3) (h : wr σ 6 k x = u) (ho : okS σ) : okS u := by
  subst h; unfold okS; rw [wr_at, if_neg (Ne.symm hk)]; exact ho
theorem okH_wr6 {σ u : PS} {k : Nat} {x : Int32} (hk : k ≠ 0) (h : wr σ 6 k x = u) (ho : okH σ) : okH u := by
  subst h; unfold okH; rw [wr_at, if_neg (Ne.symm hk)]; exact ho
def f6_isAt (σ : PS) (p1 : Int32) (p2 : Int32) : Int32 := (if (σ 6 2) ≤ (σ 6 3) then (0 : Int32) else (if (f6_in (σ 4 (σ 6 3).toNatClampNeg) p1 p2) = 0 then (0 : Int32) else (1 : Int32)))
set_option maxHeartbeats 4000000 in
set_option maxRecDepth 100000 in
theorem c6_isAt (l : Launch) (D : va_G) (cI cP : ClassId) (hs : Nat → Nat) (σ : PS) (p1 : Int32) (p2 : Int32) (hs_okT : okT σ) (hs_okS : okS σ) : CP l yX6_isAt wsX6_isAt ({ frames := 1, cells := 0, slots := 0, locals := 22 } : Room) D (cty cI cP) (wMod cI hs) σ [.ref (hs 0), .int p1, .int p2] (f6_isAt σ p1 p2) := by
  refine CP.of (cc := cX6_isAt) (maxL := 3) (rt := .boolean) (own := RX6) (lv0 := [(0, .ref (hs 0)), (1, .int p1), (2, .int p2)]) pnX6 rfl rfl (Nat.le_of_ble_eq_true rfl) rfl (fun p e s m args below meth c A Q F hret => ?_)
  have w_1 := F.at (x := Cond.fieldLink RX6 153 "ThinVolumesModel" "spot" "I") 1 rfl
  have w_2 := F.at (x := Cond.fieldLink RX6 150 "ThinVolumesModel" "typed" "I") 2 rfl
  have w_3 := F.at (x := Cond.fieldLink RX6 22 "ThinVolumesModel" "text" "[I") 3 rfl
  have k_6 : ∀ w ∈ wsX60, w ∈ wsX6_isAt := fun _ h => List.mem_cons_of_mem _ (List.mem_append_right _ (h))
  refine wk_aload_n F dX6_isAt_0 rfl 0 rfl (pc' := 1) rfl ?_
  refine wk_get (C := RX6) (T := TX6) (N := 12) F 0 rfl rfl k_6 8 (Nat.le_of_ble_eq_true rfl) w_1 rfl dX6_isAt_1 (pc' := 4) rfl ?_
  refine wk_aload_n F dX6_isAt_4 rfl 0 rfl (pc' := 5) rfl ?_
  refine wk_get (C := RX6) (T := TX6) (N := 12) F 0 rfl rfl k_6 7 (Nat.le_of_ble_eq_true rfl) w_2 rfl dX6_isAt_5 (pc' := 8) rfl ?_
  refine wk_icmp_ge (tgt := 32) F dX6_isAt_8 (by decide) (pc' := 11) rfl (fun c1 => ?_) (fun c1 => ?_)
  · refine wk_iconst F dX6_isAt_32 ic_0 (pc' := 33) rfl ?_
    exact hret _ _ _ dX6_isAt_33 rfl (Eq.symm (by rw [f6_isAt] <;> exact (st_pos c1 rfl)))
  · refine wk_aload_n F dX6_isAt_11 rfl 0 rfl (pc' := 12) rfl ?_
    refine wk_get (C := RX6) (T := TX6) (N := 12) F 0 rfl rfl k_6 6 (Nat.le_of_ble_eq_true rfl) w_3 rfl dX6_isAt_12 (pc' := 15) rfl ?_
    refine wk_aload_n F dX6_isAt_15 rfl 0 rfl (pc' := 16) rfl ?_
    refine wk_get (C := RX6) (T := TX6) (N := 12) F 0 rfl rfl k_6 8 (Nat.le_of_ble_eq_true rfl) w_1 rfl dX6_isAt_16 (pc' := 19) rfl ?_
    refine wk_iald F 5 0 rfl rfl (ix_spt hs_okT hs_okS c1) dX6_isAt_19 (pc' := 20) rfl ?_
    refine wk_iload_n F dX6_isAt_20 rfl 1 rfl (pc' := 21) rfl ?_
    refine wk_iload_n F dX6_isAt_21 rfl 2 rfl (pc' := 22) rfl ?_
    refine wk_none_s F (c6_in l D cI cP (σ 4 (σ 6 3).toNatClampNeg) p1 p2) (va_cwS 3 F.hts gX6_isAt_X6_in rfl rfl rfl hdX6_in ⟨Nat.le_of_ble_eq_true rfl, Nat.le_of_ble_eq_true rfl⟩) rfl rfl (Nat.le_of_ble_eq_true rfl) dX6_isAt_22 ⟨Nat.zero_le _, Nat.zero_le _⟩ (pc' := 25) rfl ?_
    refine wk_if_eq (tgt := 32) F dX6_isAt_25 (by decide) (pc' := 28) rfl (fun c2 => ?_) (fun c2 => ?_)
    · refine wk_iconst F dX6_isAt_32 ic_0 (pc' := 33) rfl ?_
      exact hret _ _ _ dX6_isAt_33 rfl (Eq.symm (by rw [f6_isAt] <;> exact (st_neg c1 (st_pos c2 rfl))))
    · refine wk_iconst F dX6_isAt_28 ic_1 (pc' := 29) rfl ?_
      refine wk_goto (tgt := 33) F dX6_isAt_29 (by decide) ?_
      exact hret _ _ _ dX6_isAt_33 rfl (Eq.symm (by rw [f6_isAt] <;> exact (st_neg c1 (st_neg c2 rfl))))
theorem isAt_c {u : PS} {a b : Int32} (h : ¬ f6_isAt u a b = 0) : ¬ u 6 2 ≤ u 6 3 := by
  intro q
  apply h
  unfold f6_isAt
  rw [if_pos q]
theorem okS_inc {σ u : PS} (hT : okT σ) (hS : okS σ) (c : ¬ σ 6 2 ≤ σ 6 3) (h : wr σ 6 3 (σ 6 3 + 1) = u) : okS u := by
  subst h; unfold okS
  rw [wr_at, if_pos rfl]
  obtain ⟨j, hj, e⟩ := vp_in_of (ix_spt hT hS c) (by decide)
  rw [e, nI_1]
  exact vp_in_nI (by omega) (by decide)
