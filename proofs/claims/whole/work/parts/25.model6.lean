def f6_does (σ : PS) : Int32 × PS := (if (σ 4 (σ 6 3).toNatClampNeg) = (119 : Int32) then (sq2 (f6_isForm σ (σ 4 (σ 6 3).toNatClampNeg) (3 : Int32)) (fun (r62 : Int32) (u61 : PS) => (if r62 = 0 then ((1 : Int32), u61) else (if (f6_isVolume u61 (u61 5 0)) = 0 then ((2 : Int32), u61) else (if (f6_isPlace u61 (u61 5 0) (u61 5 1)) = 0 then ((2 : Int32), u61) else (sq2 (f6_write u61 (u61 5 0) (u61 5 1) (u61 5 2)) (fun (r68 : Int32) (u67 : PS) => (sq2 (f6_isDone u67 r68) (fun (r71 : Int32) (u70 : PS) => (r71, u70)))))))))) else (if (σ 4 (σ 6 3).toNatClampNeg) = (116 : Int32) then (sq2 (f6_isForm σ (σ 4 (σ 6 3).toNatClampNeg) (2 : Int32)) (fun (r50 : Int32) (u49 : PS) => (if r50 = 0 then ((1 : Int32), u49) else (if (f6_isVolume u49 (u49 5 0)) = 0 then ((2 : Int32), u49) else (if (f6_isPlace u49 (u49 5 0) (u49 5 1)) = 0 then ((2 : Int32), u49) else (sq2 (f6_trim u49 (u49 5 0) (u49 5 1)) (fun (r56 : Int32) (u55 : PS) => (sq2 (f6_isDone u55 r56) (fun (r59 : Int32) (u58 : PS) => (r59, u58)))))))))) else (if (σ 4 (σ 6 3).toNatClampNeg) = (115 : Int32) then (sq2 (f6_isForm σ (σ 4 (σ 6 3).toNatClampNeg) (1 : Int32)) (fun (r5 : Int32) (u4 : PS) => (if r5 = 0 then ((1 : Int32), u4) else (if (f6_isVolume u4 (u4 5 0)) = 0 then ((2 : Int32), u4) else (sq2 (f6_sweep u4 (u4 5 0)) (fun (r10 : Int32) (u9 : PS) => (sq2 (f6_isDone u9 r10) (fun (r13 : Int32) (u12 : PS) => (r13, u12))))))))) else (if (σ 4 (σ 6 3).toNatClampNeg) = (99 : Int32) then (sq2 (f6_isForm σ (σ 4 (σ 6 3).toNatClampNeg) (1 : Int32)) (fun (r17 : Int32) (u16 : PS) => (if r17 = 0 then ((1 : Int32), u16) else (if (f6_isVolume u16 (u16 5 0)) = 0 then ((2 : Int32), u16) else (sq2 (f6_share u16 (u16 5 0)) (fun (r22 : Int32) (u21 : PS) => (sq2 (f6_isDone u21 r22) (fun (r25 : Int32) (u24 : PS) => (r25, u24))))))))) else (if (σ 4 (σ 6 3).toNatClampNeg) = (100 : Int32) then (sq2 (f6_isForm σ (σ 4 (σ 6 3).toNatClampNeg) (1 : Int32)) (fun (r39 : Int32) (u38 : PS) => (if r39 = 0 then ((1 : Int32), u38) else (if (f6_isVolume u38 (u38 5 0)) = 0 then ((2 : Int32), u38) else (sq2 (f6_drop u38 (u38 5 0)) (fun (r44 : Int32) (u43 : PS) => (sq2 (f6_isDone u43 r44) (fun (r47 : Int32) (u46 : PS) => (r47, u46))))))))) else (sq2 (f6_isForm σ (σ 4 (σ 6 3).toNatClampNeg) (0 : Int32)) (fun (r29 : Int32) (u28 : PS) => (if r29 = 0 then ((1 : Int32), u28) else (sq2 (f6_merge u28) (fun (r33 : Int32) (u32 : PS) => (sq2 (f6_isDone u32 r33) (fun (r36 : Int32) (u35 : PS) => (r36, u35)))))))))))))
set_option maxHeartbeats 4000000 in
set_option maxRecDepth 100000 in
theorem c6_does (l : Launch) (D : va_G) (cI cP : ClassId) (hs : Nat → Nat) (σ : PS) (hs_okH : okH σ) (hs_okL : okL σ) (hs_okP : okP σ) (hs_okT : okT σ) (hs_okS : okS σ) (hlt : ¬ σ 6 2 ≤ σ 6 3) : CI l yX6_does wsX6_does ({ frames := 9, cells := 0, slots := 0, locals := 205 } : Room) D (cty cI cP) (wMod cI hs σ) (wMod cI hs) [.ref (hs 0)] 0 0 (fun r u => f6_does σ = (r, u)) := by
  refine CI.of (cc := cX6_does) (maxL := 3) (rt := .int) (own := RX6) (lv0 := [(0, .ref (hs 0))]) pnX6 rfl rfl (Nat.le_of_ble_eq_true rfl) rfl (fun p e s m args below meth c A Q F hret => ?_)
  have w_1 := F.at (x := Cond.fieldLink RX6 22 "ThinVolumesModel" "text" "[I") 1 rfl
  have w_2 := F.at (x := Cond.fieldLink RX6 153 "ThinVolumesModel" "spot" "I") 2 rfl
  have w_3 := F.at (x := Cond.fieldLink RX6 25 "ThinVolumesModel" "told" "[I") 3 rfl
  have k_6 : ∀ w ∈ wsX60, w ∈ wsX6_does := fun _ h => List.mem_cons_of_mem _ (List.mem_append_right _ (h))
  refine wk_aload_n F dX6_does_0 rfl 0 rfl (pc' := 1) rfl ?_
  refine wk_get (C := RX6) (T := TX6) (N := 12) F 0 rfl rfl k_6 6 (Nat.le_of_ble_eq_true rfl) w_1 rfl dX6_does_1 (pc' := 4) rfl ?_
  refine wk_aload_n F dX6_does_4 rfl 0 rfl (pc' := 5) rfl ?_
  refine wk_get (C := RX6) (T := TX6) (N := 12) F 0 rfl rfl k_6 8 (Nat.le_of_ble_eq_true rfl) w_2 rfl dX6_does_5 (pc' := 8) rfl ?_
  refine wk_iald F 5 0 rfl rfl (ix_spt hs_okT hs_okS hlt) dX6_does_8 (pc' := 9) rfl ?_
  refine wk_istore_n (lv' := [(1, .int (σ 4 (σ 6 3).toNatClampNeg)), (0, .ref (hs 0))]) F dX6_does_9 rfl (Nat.le_of_ble_eq_true rfl) rfl (pc' := 10) rfl ?_
  refine wk_iload_n F dX6_does_10 rfl 0 rfl (pc' := 11) rfl ?_
  refine wk_bipush F dX6_does_11 bp_119 (pc' := 13) rfl ?_
  refine wk_icmp_ne (tgt := 20) F dX6_does_13 (by decide) (pc' := 16) rfl (fun c1 => ?_) (fun c1 => ?_)
  · refine wk_iload_n F dX6_does_20 rfl 0 rfl (pc' := 21) rfl ?_
    refine wk_bipush F dX6_does_21 bp_116 (pc' := 23) rfl ?_
    refine wk_icmp_ne (tgt := 30) F dX6_does_23 (by decide) (pc' := 26) rfl (fun c2 => ?_) (fun c2 => ?_)
    · refine wk_iload_n F dX6_does_30 rfl 0 rfl (pc' := 31) rfl ?_
      refine wk_bipush F dX6_does_31 bp_115 (pc' := 33) rfl ?_
      refine wk_icmp_eq (tgt := 48) F dX6_does_33 (by decide) (pc' := 36) rfl (fun c3 => ?_) (fun c3 => ?_)
      · refine wk_iconst F dX6_does_48 ic_1 (pc' := 49) rfl ?_
        refine wk_goto (tgt := 53) F dX6_does_49 (by decide) ?_
        refine wk_istore_n (lv' := [(2, .int (1 : Int32)), (1, .int (σ 4 (σ 6 3).toNatClampNeg)), (0, .ref (hs 0))]) F dX6_does_53 rfl (Nat.le_of_ble_eq_true rfl) rfl (pc' := 54) rfl ?_
        refine wk_aload_n F dX6_does_54 rfl 2 rfl (pc' := 55) rfl ?_
        refine wk_iload_n F dX6_does_55 rfl 1 rfl (pc' := 56) rfl ?_
        refine wk_iload_n F dX6_does_56 rfl 0 rfl (pc' := 57) rfl ?_
        refine wk_same_i F (c6_isForm l D cI cP hs σ (σ 4 (σ 6 3).toNatClampNeg) (1 : Int32) hs_okT hs_okS hlt (by decide)) (cwV 2 F.hts gX6_does_X6_isForm rfl rfl rfl hdX6_isForm ⟨Nat.le_of_ble_eq_true rfl, Nat.le_of_ble_eq_true rfl⟩) 0 6 rfl rfl rfl rfl (Nat.le_of_ble_eq_true rfl) dX6_does_57 ⟨Nat.zero_le _, Nat.zero_le _⟩ (pc' := 60) rfl (fun r5 u4 h6 => ?_)
        refine wk_if_ne (tgt := 65) F dX6_does_60 (by decide) (pc' := 63) rfl (fun c7 => ?_) (fun c7 => ?_)
        · refine wk_iload_n F dX6_does_65 rfl 0 rfl (pc' := 66) rfl ?_
          refine wk_if_le (tgt := 82) F dX6_does_66 (by decide) (pc' := 69) rfl (fun c => absurd c (by decide)) (fun _ => ?_)
          refine wk_aload_n F dX6_does_69 rfl 2 rfl (pc' := 70) rfl ?_
          refine wk_aload_n F dX6_does_70 rfl 2 rfl (pc' := 71) rfl ?_
          refine wk_get (C := RX6) (T := TX6) (N := 12) F 0 rfl rfl k_6 11 (Nat.le_of_ble_eq_true rfl) w_3 rfl dX6_does_71 (pc' := 74) rfl ?_
          refine wk_iconst F dX6_does_74 ic_0 (pc' := 75) rfl ?_
          refine wk_iald_n (i := 0) F 6 0 rfl rfl (by omega) (Nat.le_of_ble_eq_true rfl) dX6_does_75 (pc' := 76) rfl ?_
          refine wk_same_p F (c6_isVolume l D cI cP hs u4 (u4 5 0)) (cwV 1 F.hts gX6_does_X6_isVolume rfl rfl rfl hdX6_isVolume ⟨Nat.le_of_ble_eq_true rfl, Nat.le_of_ble_eq_true rfl⟩) 0 6 rfl rfl rfl rfl (Nat.le_of_ble_eq_true rfl) dX6_does_76 ⟨Nat.zero_le _, Nat.zero_le _⟩ (pc' := 79) rfl ?_
          refine wk_if_eq (tgt := 106) F dX6_does_79 (by decide) (pc' := 82) rfl (fun c8 => ?_) (fun c8 => ?_)
          · refine wk_iconst F dX6_does_106 ic_2 (pc' := 107) rfl ?_
            exact hret _ _ _ _ dX6_does_107 rfl (by rw [f6_does] <;> exact (st_neg c1 (st_neg c2 (st_pos c3 (st_match h6 (st_neg c7 (st_pos c8 rfl)))))))
          · refine wk_iload_n F dX6_does_82 rfl 0 rfl (pc' := 83) rfl ?_
            refine wk_iconst F dX6_does_83 ic_1 (pc' := 84) rfl ?_
            refine wk_icmp_le (tgt := 108) F dX6_does_84 (by decide) (pc' := 87) rfl (fun _ => ?_) (fun c => absurd (by decide) c)
            refine wk_iload_n F dX6_does_108 rfl 1 rfl (pc' := 109) rfl ?_
            refine wk_top c3 ?_
            refine wk_lookup (off := 99) (tgt := 208) F dX6_does_109 (by decide) (by decide) (by decide) ?_
            refine wk_aload_n F dX6_does_208 rfl 2 rfl (pc' := 209) rfl ?_
            refine wk_aload_n F dX6_does_209 rfl 2 rfl (pc' := 210) rfl ?_
            refine wk_aload_n F dX6_does_210 rfl 2 rfl (pc' := 211) rfl ?_
            refine wk_get (C := RX6) (T := TX6) (N := 12) F 0 rfl rfl k_6 11 (Nat.le_of_ble_eq_true rfl) w_3 rfl dX6_does_211 (pc' := 214) rfl ?_
            refine wk_iconst F dX6_does_214 ic_0 (pc' := 215) rfl ?_
            refine wk_iald_n (i := 0) F 6 0 rfl rfl (by omega) (Nat.le_of_ble_eq_true rfl) dX6_does_215 (pc' := 216) rfl ?_
            refine wk_same_i F (c6_sweep l D cI cP hs u4 (u4 5 0) (okH_isForm h6 hs_okH) (okL_row0 (isForm_j h6 (by decide) (by decide)) hs_okL) (okP_row0 (isForm_j h6 (by decide) (by decide)) hs_okP)) (cwV 1 F.hts gX6_does_X6_sweep rfl rfl rfl hdX6_sweep ⟨Nat.le_of_ble_eq_true rfl, Nat.le_of_ble_eq_true rfl⟩) 0 6 rfl rfl rfl rfl (Nat.le_of_ble_eq_true rfl) dX6_does_216 ⟨Nat.zero_le _, Nat.zero_le _⟩ (pc' := 219) rfl (fun r10 u9 h11 => ?_)
            refine wk_same_i F (c6_isDone l D cI cP hs u9 r10) (cwV 1 F.hts gX6_does_X6_isDone rfl rfl rfl hdX6_isDone ⟨Nat.le_of_ble_eq_true rfl, Nat.le_of_ble_eq_true rfl⟩) 0 6 rfl rfl rfl rfl (Nat.le_of_ble_eq_true rfl) dX6_does_219 ⟨Nat.zero_le _, Nat.zero_le _⟩ (pc' := 222) rfl (fun r13 u12 h14 => ?_)
            exact hret _ _ _ _ dX6_does_222 rfl (by rw [f6_does] <;> exact (st_neg c1 (st_neg c2 (st_pos c3 (st_match h6 (st_neg c7 (st_neg c8 (st_match h11 (st_match h14 rfl)))))))))
        · refine wk_iconst F dX6_does_63 ic_1 (pc' := 64) rfl ?_
          exact hret _ _ _ _ dX6_does_64 rfl (by rw [f6_does] <;> exact (st_neg c1 (st_neg c2 (st_pos c3 (st_match h6 (st_pos c7 rfl))))))
      · refine wk_iload_n F dX6_does_36 rfl 0 rfl (pc' := 37) rfl ?_
        refine wk_bipush F dX6_does_37 bp_99 (pc' := 39) rfl ?_
        refine wk_icmp_eq (tgt := 48) F dX6_does_39 (by decide) (pc' := 42) rfl (fun c15 => ?_) (fun c15 => ?_)
        · refine wk_iconst F dX6_does_48 ic_1 (pc' := 49) rfl ?_
          refine wk_goto (tgt := 53) F dX6_does_49 (by decide) ?_
          refine wk_istore_n (lv' := [(2, .int (1 : Int32)), (1, .int (σ 4 (σ 6 3).toNatClampNeg)), (0, .ref (hs 0))]) F dX6_does_53 rfl (Nat.le_of_ble_eq_true rfl) rfl (pc' := 54) rfl ?_
          refine wk_aload_n F dX6_does_54 rfl 2 rfl (pc' := 55) rfl ?_
          refine wk_iload_n F dX6_does_55 rfl 1 rfl (pc' := 56) rfl ?_
          refine wk_iload_n F dX6_does_56 rfl 0 rfl (pc' := 57) rfl ?_
          refine wk_same_i F (c6_isForm l D cI cP hs σ (σ 4 (σ 6 3).toNatClampNeg) (1 : Int32) hs_okT hs_okS hlt (by decide)) (cwV 2 F.hts gX6_does_X6_isForm rfl rfl rfl hdX6_isForm ⟨Nat.le_of_ble_eq_true rfl, Nat.le_of_ble_eq_true rfl⟩) 0 6 rfl rfl rfl rfl (Nat.le_of_ble_eq_true rfl) dX6_does_57 ⟨Nat.zero_le _, Nat.zero_le _⟩ (pc' := 60) rfl (fun r17 u16 h18 => ?_)
          refine wk_if_ne (tgt := 65) F dX6_does_60 (by decide) (pc' := 63) rfl (fun c19 => ?_) (fun c19 => ?_)
          · refine wk_iload_n F dX6_does_65 rfl 0 rfl (pc' := 66) rfl ?_
            refine wk_if_le (tgt := 82) F dX6_does_66 (by decide) (pc' := 69) rfl (fun c => absurd c (by decide)) (fun _ => ?_)
            refine wk_aload_n F dX6_does_69 rfl 2 rfl (pc' := 70) rfl ?_
            refine wk_aload_n F dX6_does_70 rfl 2 rfl (pc' := 71) rfl ?_
            refine wk_get (C := RX6) (T := TX6) (N := 12) F 0 rfl rfl k_6 11 (Nat.le_of_ble_eq_true rfl) w_3 rfl dX6_does_71 (pc' := 74) rfl ?_
            refine wk_iconst F dX6_does_74 ic_0 (pc' := 75) rfl ?_
            refine wk_iald_n (i := 0) F 6 0 rfl rfl (by omega) (Nat.le_of_ble_eq_true rfl) dX6_does_75 (pc' := 76) rfl ?_
            refine wk_same_p F (c6_isVolume l D cI cP hs u16 (u16 5 0)) (cwV 1 F.hts gX6_does_X6_isVolume rfl rfl rfl hdX6_isVolume ⟨Nat.le_of_ble_eq_true rfl, Nat.le_of_ble_eq_true rfl⟩) 0 6 rfl rfl rfl rfl (Nat.le_of_ble_eq_true rfl) dX6_does_76 ⟨Nat.zero_le _, Nat.zero_le _⟩ (pc' := 79) rfl ?_
            refine wk_if_eq (tgt := 106) F dX6_does_79 (by decide) (pc' := 82) rfl (fun c20 => ?_) (fun c20 => ?_)
            · refine wk_iconst F dX6_does_106 ic_2 (pc' := 107) rfl ?_
              exact hret _ _ _ _ dX6_does_107 rfl (by rw [f6_does] <;> exact (st_neg c1 (st_neg c2 (st_neg c3 (st_pos c15 (st_match h18 (st_neg c19 (st_pos c20 rfl))))))))
            · refine wk_iload_n F dX6_does_82 rfl 0 rfl (pc' := 83) rfl ?_
              refine wk_iconst F dX6_does_83 ic_1 (pc' := 84) rfl ?_
              refine wk_icmp_le (tgt := 108) F dX6_does_84 (by decide) (pc' := 87) rfl (fun _ => ?_) (fun c => absurd (by decide) c)
              refine wk_iload_n F dX6_does_108 rfl 1 rfl (pc' := 109) rfl ?_
              refine wk_top c15 ?_
              refine wk_lookup (off := 114) (tgt := 223) F dX6_does_109 (by decide) (by decide) (by decide) ?_
              refine wk_aload_n F dX6_does_223 rfl 2 rfl (pc' := 224) rfl ?_
              refine wk_aload_n F dX6_does_224 rfl 2 rfl (pc' := 225) rfl ?_
              refine wk_aload_n F dX6_does_225 rfl 2 rfl (pc' := 226) rfl ?_
              refine wk_get (C := RX6) (T := TX6) (N := 12) F 0 rfl rfl k_6 11 (Nat.le_of_ble_eq_true rfl) w_3 rfl dX6_does_226 (pc' := 229) rfl ?_
              refine wk_iconst F dX6_does_229 ic_0 (pc' := 230) rfl ?_
              refine wk_iald_n (i := 0) F 6 0 rfl rfl (by omega) (Nat.le_of_ble_eq_true rfl) dX6_does_230 (pc' := 231) rfl ?_
              refine wk_same_i F (c6_share l D cI cP hs u16 (u16 5 0) (okH_isForm h18 hs_okH)) (cwV 1 F.hts gX6_does_X6_share rfl rfl rfl hdX6_share ⟨Nat.le_of_ble_eq_true rfl, Nat.le_of_ble_eq_true rfl⟩) 0 6 rfl rfl rfl rfl (Nat.le_of_ble_eq_true rfl) dX6_does_231 ⟨Nat.zero_le _, Nat.zero_le _⟩ (pc' := 234) rfl (fun r22 u21 h23 => ?_)
              refine wk_same_i F (c6_isDone l D cI cP hs u21 r22) (cwV 1 F.hts gX6_does_X6_isDone rfl rfl rfl hdX6_isDone ⟨Nat.le_of_ble_eq_true rfl, Nat.le_of_ble_eq_true rfl⟩) 0 6 rfl rfl rfl rfl (Nat.le_of_ble_eq_true rfl) dX6_does_234 ⟨Nat.zero_le _, Nat.zero_le _⟩ (pc' := 237) rfl (fun r25 u24 h26 => ?_)
              exact hret _ _ _ _ dX6_does_237 rfl (by rw [f6_does] <;> exact (st_neg c1 (st_neg c2 (st_neg c3 (st_pos c15 (st_match h18 (st_neg c19 (st_neg c20 (st_match h23 (st_match h26 rfl))))))))))
          · refine wk_iconst F dX6_does_63 ic_1 (pc' := 64) rfl ?_
            exact hret _ _ _ _ dX6_does_64 rfl (by rw [f6_does] <;> exact (st_neg c1 (st_neg c2 (st_neg c3 (st_pos c15 (st_match h18 (st_pos c19 rfl)))))))
        · refine wk_iload_n F dX6_does_42 rfl 0 rfl (pc' := 43) rfl ?_
          refine wk_bipush F dX6_does_43 bp_100 (pc' := 45) rfl ?_
          refine wk_icmp_ne (tgt := 52) F dX6_does_45 (by decide) (pc' := 48) rfl (fun c27 => ?_) (fun c27 => ?_)
          · refine wk_iconst F dX6_does_52 ic_0 (pc' := 53) rfl ?_
            refine wk_istore_n (lv' := [(2, .int (0 : Int32)), (1, .int (σ 4 (σ 6 3).toNatClampNeg)), (0, .ref (hs 0))]) F dX6_does_53 rfl (Nat.le_of_ble_eq_true rfl) rfl (pc' := 54) rfl ?_
            refine wk_aload_n F dX6_does_54 rfl 2 rfl (pc' := 55) rfl ?_
            refine wk_iload_n F dX6_does_55 rfl 1 rfl (pc' := 56) rfl ?_
            refine wk_iload_n F dX6_does_56 rfl 0 rfl (pc' := 57) rfl ?_
            refine wk_same_i F (c6_isForm l D cI cP hs σ (σ 4 (σ 6 3).toNatClampNeg) (0 : Int32) hs_okT hs_okS hlt (by decide)) (cwV 2 F.hts gX6_does_X6_isForm rfl rfl rfl hdX6_isForm ⟨Nat.le_of_ble_eq_true rfl, Nat.le_of_ble_eq_true rfl⟩) 0 6 rfl rfl rfl rfl (Nat.le_of_ble_eq_true rfl) dX6_does_57 ⟨Nat.zero_le _, Nat.zero_le _⟩ (pc' := 60) rfl (fun r29 u28 h30 => ?_)
            refine wk_if_ne (tgt := 65) F dX6_does_60 (by decide) (pc' := 63) rfl (fun c31 => ?_) (fun c31 => ?_)
            · refine wk_iload_n F dX6_does_65 rfl 0 rfl (pc' := 66) rfl ?_
              refine wk_if_le (tgt := 82) F dX6_does_66 (by decide) (pc' := 69) rfl (fun _ => ?_) (fun c => absurd (by decide) c)
              refine wk_iload_n F dX6_does_82 rfl 0 rfl (pc' := 83) rfl ?_
              refine wk_iconst F dX6_does_83 ic_1 (pc' := 84) rfl ?_
              refine wk_icmp_le (tgt := 108) F dX6_does_84 (by decide) (pc' := 87) rfl (fun _ => ?_) (fun c => absurd (by decide) c)
              refine wk_iload_n F dX6_does_108 rfl 1 rfl (pc' := 109) rfl ?_
              refine wk_lookup (off := 144) (tgt := 253) F dX6_does_109 (by decide) (by have ec1 := ti_ne (k := 119) c1 (by decide); have ec2 := ti_ne (k := 116) c2 (by decide); have ec3 := ti_ne (k := 115) c3 (by decide); have ec15 := ti_ne (k := 99) c15 (by decide); have ec27 := ti_ne (k := 100) c27 (by decide); simp [Op.lookupswitch.offset, Ne.symm ec1, Ne.symm ec2, Ne.symm ec3, Ne.symm ec15, Ne.symm ec27]) (by decide) ?_
              refine wk_aload_n F dX6_does_253 rfl 2 rfl (pc' := 254) rfl ?_
              refine wk_aload_n F dX6_does_254 rfl 2 rfl (pc' := 255) rfl ?_
              refine wk_same_i F (c6_merge l D cI cP hs u28 (okH_isForm h30 hs_okH) (okL_row0 (isForm_j h30 (by decide) (by decide)) hs_okL)) (cwV 0 F.hts gX6_does_X6_merge rfl rfl rfl hdX6_merge ⟨Nat.le_of_ble_eq_true rfl, Nat.le_of_ble_eq_true rfl⟩) 0 6 rfl rfl rfl rfl (Nat.le_of_ble_eq_true rfl) dX6_does_255 ⟨Nat.zero_le _, Nat.zero_le _⟩ (pc' := 258) rfl (fun r33 u32 h34 => ?_)
              refine wk_same_i F (c6_isDone l D cI cP hs u32 r33) (cwV 1 F.hts gX6_does_X6_isDone rfl rfl rfl hdX6_isDone ⟨Nat.le_of_ble_eq_true rfl, Nat.le_of_ble_eq_true rfl⟩) 0 6 rfl rfl rfl rfl (Nat.le_of_ble_eq_true rfl) dX6_does_258 ⟨Nat.zero_le _, Nat.zero_le _⟩ (pc' := 261) rfl (fun r36 u35 h37 => ?_)
              exact hret _ _ _ _ dX6_does_261 rfl (by rw [f6_does] <;> exact (st_neg c1 (st_neg c2 (st_neg c3 (st_neg c15 (st_neg c27 (st_match h30 (st_neg c31 (st_match h34 (st_match h37 rfl))))))))))
            · refine wk_iconst F dX6_does_63 ic_1 (pc' := 64) rfl ?_
              exact hret _ _ _ _ dX6_does_64 rfl (by rw [f6_does] <;> exact (st_neg c1 (st_neg c2 (st_neg c3 (st_neg c15 (st_neg c27 (st_match h30 (st_pos c31 rfl))))))))
          · refine wk_iconst F dX6_does_48 ic_1 (pc' := 49) rfl ?_
            refine wk_goto (tgt := 53) F dX6_does_49 (by decide) ?_
            refine wk_istore_n (lv' := [(2, .int (1 : Int32)), (1, .int (σ 4 (σ 6 3).toNatClampNeg)), (0, .ref (hs 0))]) F dX6_does_53 rfl (Nat.le_of_ble_eq_true rfl) rfl (pc' := 54) rfl ?_
            refine wk_aload_n F dX6_does_54 rfl 2 rfl (pc' := 55) rfl ?_
            refine wk_iload_n F dX6_does_55 rfl 1 rfl (pc' := 56) rfl ?_
            refine wk_iload_n F dX6_does_56 rfl 0 rfl (pc' := 57) rfl ?_
            refine wk_same_i F (c6_isForm l D cI cP hs σ (σ 4 (σ 6 3).toNatClampNeg) (1 : Int32) hs_okT hs_okS hlt (by decide)) (cwV 2 F.hts gX6_does_X6_isForm rfl rfl rfl hdX6_isForm ⟨Nat.le_of_ble_eq_true rfl, Nat.le_of_ble_eq_true rfl⟩) 0 6 rfl rfl rfl rfl (Nat.le_of_ble_eq_true rfl) dX6_does_57 ⟨Nat.zero_le _, Nat.zero_le _⟩ (pc' := 60) rfl (fun r39 u38 h40 => ?_)
            refine wk_if_ne (tgt := 65) F dX6_does_60 (by decide) (pc' := 63) rfl (fun c41 => ?_) (fun c41 => ?_)
            · refine wk_iload_n F dX6_does_65 rfl 0 rfl (pc' := 66) rfl ?_
              refine wk_if_le (tgt := 82) F dX6_does_66 (by decide) (pc' := 69) rfl (fun c => absurd c (by decide)) (fun _ => ?_)
              refine wk_aload_n F dX6_does_69 rfl 2 rfl (pc' := 70) rfl ?_
              refine wk_aload_n F dX6_does_70 rfl 2 rfl (pc' := 71) rfl ?_
              refine wk_get (C := RX6) (T := TX6) (N := 12) F 0 rfl rfl k_6 11 (Nat.le_of_ble_eq_true rfl) w_3 rfl dX6_does_71 (pc' := 74) rfl ?_
              refine wk_iconst F dX6_does_74 ic_0 (pc' := 75) rfl ?_
              refine wk_iald_n (i := 0) F 6 0 rfl rfl (by omega) (Nat.le_of_ble_eq_true rfl) dX6_does_75 (pc' := 76) rfl ?_
              refine wk_same_p F (c6_isVolume l D cI cP hs u38 (u38 5 0)) (cwV 1 F.hts gX6_does_X6_isVolume rfl rfl rfl hdX6_isVolume ⟨Nat.le_of_ble_eq_true rfl, Nat.le_of_ble_eq_true rfl⟩) 0 6 rfl rfl rfl rfl (Nat.le_of_ble_eq_true rfl) dX6_does_76 ⟨Nat.zero_le _, Nat.zero_le _⟩ (pc' := 79) rfl ?_
              refine wk_if_eq (tgt := 106) F dX6_does_79 (by decide) (pc' := 82) rfl (fun c42 => ?_) (fun c42 => ?_)
              · refine wk_iconst F dX6_does_106 ic_2 (pc' := 107) rfl ?_
                exact hret _ _ _ _ dX6_does_107 rfl (by rw [f6_does] <;> exact (st_neg c1 (st_neg c2 (st_neg c3 (st_neg c15 (st_pos c27 (st_match h40 (st_neg c41 (st_pos c42 rfl)))))))))
              · refine wk_iload_n F dX6_does_82 rfl 0 rfl (pc' := 83) rfl ?_
                refine wk_iconst F dX6_does_83 ic_1 (pc' := 84) rfl ?_
                refine wk_icmp_le (tgt := 108) F dX6_does_84 (by decide) (pc' := 87) rfl (fun _ => ?_) (fun c => absurd (by decide) c)
                refine wk_iload_n F dX6_does_108 rfl 1 rfl (pc' := 109) rfl ?_
                refine wk_top c27 ?_
                refine wk_lookup (off := 129) (tgt := 238) F dX6_does_109 (by decide) (by decide) (by decide) ?_
                refine wk_aload_n F dX6_does_238 rfl 2 rfl (pc' := 239) rfl ?_
                refine wk_aload_n F dX6_does_239 rfl 2 rfl (pc' := 240) rfl ?_
                refine wk_aload_n F dX6_does_240 rfl 2 rfl (pc' := 241) rfl ?_
                refine wk_get (C := RX6) (T := TX6) (N := 12) F 0 rfl rfl k_6 11 (Nat.le_of_ble_eq_true rfl) w_3 rfl dX6_does_241 (pc' := 244) rfl ?_
                refine wk_iconst F dX6_does_244 ic_0 (pc' := 245) rfl ?_
                refine wk_iald_n (i := 0) F 6 0 rfl rfl (by omega) (Nat.le_of_ble_eq_true rfl) dX6_does_245 (pc' := 246) rfl ?_
                refine wk_same_i F (c6_drop l D cI cP hs u38 (u38 5 0) (okH_isForm h40 hs_okH) (okL_row0 (isForm_j h40 (by decide) (by decide)) hs_okL)) (cwV 1 F.hts gX6_does_X6_drop rfl rfl rfl hdX6_drop ⟨Nat.le_of_ble_eq_true rfl, Nat.le_of_ble_eq_true rfl⟩) 0 6 rfl rfl rfl rfl (Nat.le_of_ble_eq_true rfl) dX6_does_246 ⟨Nat.zero_le _, Nat.zero_le _⟩ (pc' := 249) rfl (fun r44 u43 h45 => ?_)
                refine wk_same_i F (c6_isDone l D cI cP hs u43 r44) (cwV 1 F.hts gX6_does_X6_isDone rfl rfl rfl hdX6_isDone ⟨Nat.le_of_ble_eq_true rfl, Nat.le_of_ble_eq_true rfl⟩) 0 6 rfl rfl rfl rfl (Nat.le_of_ble_eq_true rfl) dX6_does_249 ⟨Nat.zero_le _, Nat.zero_le _⟩ (pc' := 252) rfl (fun r47 u46 h48 => ?_)
                exact hret _ _ _ _ dX6_does_252 rfl (by rw [f6_does] <;> exact (st_neg c1 (st_neg c2 (st_neg c3 (st_neg c15 (st_pos c27 (st_match h40 (st_neg c41 (st_neg c42 (st_match h45 (st_match h48 rfl)))))))))))
            · refine wk_iconst F dX6_does_63 ic_1 (pc' := 64) rfl ?_
              exact hret _ _ _ _ dX6_does_64 rfl (by rw [f6_does] <;> exact (st_neg c1 (st_neg c2 (st_neg c3 (st_neg c15 (st_pos c27 (st_match h40 (st_pos c41 rfl))))))))
    · refine wk_iconst F dX6_does_26 ic_2 (pc' := 27) rfl ?_
      refine wk_goto (tgt := 53) F dX6_does_27 (by decide) ?_
      refine wk_istore_n (lv' := [(2, .int (2 : Int32)), (1, .int (σ 4 (σ 6 3).toNatClampNeg)), (0, .ref (hs 0))]) F dX6_does_53 rfl (Nat.le_of_ble_eq_true rfl) rfl (pc' := 54) rfl ?_
      refine wk_aload_n F dX6_does_54 rfl 2 rfl (pc' := 55) rfl ?_
      refine wk_iload_n F dX6_does_55 rfl 1 rfl (pc' := 56) rfl ?_
      refine wk_iload_n F dX6_does_56 rfl 0 rfl (pc' := 57) rfl ?_
      refine wk_same_i F (c6_isForm l D cI cP hs σ (σ 4 (σ 6 3).toNatClampNeg) (2 : Int32) hs_okT hs_okS hlt (by decide)) (cwV 2 F.hts gX6_does_X6_isForm rfl rfl rfl hdX6_isForm ⟨Nat.le_of_ble_eq_true rfl, Nat.le_of_ble_eq_true rfl⟩) 0 6 rfl rfl rfl rfl (Nat.le_of_ble_eq_true rfl) dX6_does_57 ⟨Nat.zero_le _, Nat.zero_le _⟩ (pc' := 60) rfl (fun r50 u49 h51 => ?_)
      refine wk_if_ne (tgt := 65) F dX6_does_60 (by decide) (pc' := 63) rfl (fun c52 => ?_) (fun c52 => ?_)
      · refine wk_iload_n F dX6_does_65 rfl 0 rfl (pc' := 66) rfl ?_
        refine wk_if_le (tgt := 82) F dX6_does_66 (by decide) (pc' := 69) rfl (fun c => absurd c (by decide)) (fun _ => ?_)
        refine wk_aload_n F dX6_does_69 rfl 2 rfl (pc' := 70) rfl ?_
        refine wk_aload_n F dX6_does_70 rfl 2 rfl (pc' := 71) rfl ?_
        refine wk_get (C := RX6) (T := TX6) (N := 12) F 0 rfl rfl k_6 11 (Nat.le_of_ble_eq_true rfl) w_3 rfl dX6_does_71 (pc' := 74) rfl ?_
        refine wk_iconst F dX6_does_74 ic_0 (pc' := 75) rfl ?_
        refine wk_iald_n (i := 0) F 6 0 rfl rfl (by omega) (Nat.le_of_ble_eq_true rfl) dX6_does_75 (pc' := 76) rfl ?_
        refine wk_same_p F (c6_isVolume l D cI cP hs u49 (u49 5 0)) (cwV 1 F.hts gX6_does_X6_isVolume rfl rfl rfl hdX6_isVolume ⟨Nat.le_of_ble_eq_true rfl, Nat.le_of_ble_eq_true rfl⟩) 0 6 rfl rfl rfl rfl (Nat.le_of_ble_eq_true rfl) dX6_does_76 ⟨Nat.zero_le _, Nat.zero_le _⟩ (pc' := 79) rfl ?_
        refine wk_if_eq (tgt := 106) F dX6_does_79 (by decide) (pc' := 82) rfl (fun c53 => ?_) (fun c53 => ?_)
        · refine wk_iconst F dX6_does_106 ic_2 (pc' := 107) rfl ?_
          exact hret _ _ _ _ dX6_does_107 rfl (by rw [f6_does] <;> exact (st_neg c1 (st_pos c2 (st_match h51 (st_neg c52 (st_pos c53 rfl))))))
        · refine wk_iload_n F dX6_does_82 rfl 0 rfl (pc' := 83) rfl ?_
          refine wk_iconst F dX6_does_83 ic_1 (pc' := 84) rfl ?_
          refine wk_icmp_le (tgt := 108) F dX6_does_84 (by decide) (pc' := 87) rfl (fun c => absurd c (by decide)) (fun _ => ?_)
          refine wk_aload_n F dX6_does_87 rfl 2 rfl (pc' := 88) rfl ?_
          refine wk_aload_n F dX6_does_88 rfl 2 rfl (pc' := 89) rfl ?_
          refine wk_get (C := RX6) (T := TX6) (N := 12) F 0 rfl rfl k_6 11 (Nat.le_of_ble_eq_true rfl) w_3 rfl dX6_does_89 (pc' := 92) rfl ?_
          refine wk_iconst F dX6_does_92 ic_0 (pc' := 93) rfl ?_
          refine wk_iald_n (i := 0) F 6 0 rfl rfl (by omega) (Nat.le_of_ble_eq_true rfl) dX6_does_93 (pc' := 94) rfl ?_
          refine wk_aload_n F dX6_does_94 rfl 2 rfl (pc' := 95) rfl ?_
          refine wk_get (C := RX6) (T := TX6) (N := 12) F 0 rfl rfl k_6 11 (Nat.le_of_ble_eq_true rfl) w_3 rfl dX6_does_95 (pc' := 98) rfl ?_
          refine wk_iconst F dX6_does_98 ic_1 (pc' := 99) rfl ?_
          refine wk_iald_n (i := 1) F 6 0 rfl rfl (by omega) (Nat.le_of_ble_eq_true rfl) dX6_does_99 (pc' := 100) rfl ?_
          refine wk_same_p F (c6_isPlace l D cI cP hs u49 (u49 5 0) (u49 5 1)) (cwV 2 F.hts gX6_does_X6_isPlace rfl rfl rfl hdX6_isPlace ⟨Nat.le_of_ble_eq_true rfl, Nat.le_of_ble_eq_true rfl⟩) 0 6 rfl rfl rfl rfl (Nat.le_of_ble_eq_true rfl) dX6_does_100 ⟨Nat.zero_le _, Nat.zero_le _⟩ (pc' := 103) rfl ?_
          refine wk_if_ne (tgt := 108) F dX6_does_103 (by decide) (pc' := 106) rfl (fun c54 => ?_) (fun c54 => ?_)
          · refine wk_iload_n F dX6_does_108 rfl 1 rfl (pc' := 109) rfl ?_
            refine wk_top c2 ?_
            refine wk_lookup (off := 78) (tgt := 187) F dX6_does_109 (by decide) (by decide) (by decide) ?_
            refine wk_aload_n F dX6_does_187 rfl 2 rfl (pc' := 188) rfl ?_
            refine wk_aload_n F dX6_does_188 rfl 2 rfl (pc' := 189) rfl ?_
            refine wk_aload_n F dX6_does_189 rfl 2 rfl (pc' := 190) rfl ?_
            refine wk_get (C := RX6) (T := TX6) (N := 12) F 0 rfl rfl k_6 11 (Nat.le_of_ble_eq_true rfl) w_3 rfl dX6_does_190 (pc' := 193) rfl ?_
            refine wk_iconst F dX6_does_193 ic_0 (pc' := 194) rfl ?_
            refine wk_iald_n (i := 0) F 6 0 rfl rfl (by omega) (Nat.le_of_ble_eq_true rfl) dX6_does_194 (pc' := 195) rfl ?_
            refine wk_aload_n F dX6_does_195 rfl 2 rfl (pc' := 196) rfl ?_
            refine wk_get (C := RX6) (T := TX6) (N := 12) F 0 rfl rfl k_6 11 (Nat.le_of_ble_eq_true rfl) w_3 rfl dX6_does_196 (pc' := 199) rfl ?_
            refine wk_iconst F dX6_does_199 ic_1 (pc' := 200) rfl ?_
            refine wk_iald_n (i := 1) F 6 0 rfl rfl (by omega) (Nat.le_of_ble_eq_true rfl) dX6_does_200 (pc' := 201) rfl ?_
            refine wk_same_i F (c6_trim l D cI cP hs u49 (u49 5 0) (u49 5 1) (okH_isForm h51 hs_okH) (okL_row0 (isForm_j h51 (by decide) (by decide)) hs_okL)) (cwV 2 F.hts gX6_does_X6_trim rfl rfl rfl hdX6_trim ⟨Nat.le_of_ble_eq_true rfl, Nat.le_of_ble_eq_true rfl⟩) 0 6 rfl rfl rfl rfl (Nat.le_of_ble_eq_true rfl) dX6_does_201 ⟨Nat.zero_le _, Nat.zero_le _⟩ (pc' := 204) rfl (fun r56 u55 h57 => ?_)
            refine wk_same_i F (c6_isDone l D cI cP hs u55 r56) (cwV 1 F.hts gX6_does_X6_isDone rfl rfl rfl hdX6_isDone ⟨Nat.le_of_ble_eq_true rfl, Nat.le_of_ble_eq_true rfl⟩) 0 6 rfl rfl rfl rfl (Nat.le_of_ble_eq_true rfl) dX6_does_204 ⟨Nat.zero_le _, Nat.zero_le _⟩ (pc' := 207) rfl (fun r59 u58 h60 => ?_)
            exact hret _ _ _ _ dX6_does_207 rfl (by rw [f6_does] <;> exact (st_neg c1 (st_pos c2 (st_match h51 (st_neg c52 (st_neg c53 (st_neg c54 (st_match h57 (st_match h60 rfl)))))))))
          · refine wk_iconst F dX6_does_106 ic_2 (pc' := 107) rfl ?_
            exact hret _ _ _ _ dX6_does_107 rfl (by rw [f6_does] <;> exact (st_neg c1 (st_pos c2 (st_match h51 (st_neg c52 (st_neg c53 (st_pos c54 rfl)))))))
      · refine wk_iconst F dX6_does_63 ic_1 (pc' := 64) rfl ?_
        exact hret _ _ _ _ dX6_does_64 rfl (by rw [f6_does] <;> exact (st_neg c1 (st_pos c2 (st_match h51 (st_pos c52 rfl)))))
  · refine wk_iconst F dX6_does_16 ic_3 (pc' := 17) rfl ?_
    refine wk_goto (tgt := 53) F dX6_does_17 (by decide) ?_
    refine wk_istore_n (lv' := [(2, .int (3 : Int32)), (1, .int (σ 4 (σ 6 3).toNatClampNeg)), (0, .ref (hs 0))]) F dX6_does_53 rfl (Nat.le_of_ble_eq_true rfl) rfl (pc' := 54) rfl ?_
    refine wk_aload_n F dX6_does_54 rfl 2 rfl (pc' := 55) rfl ?_
    refine wk_iload_n F dX6_does_55 rfl 1 rfl (pc' := 56) rfl ?_
    refine wk_iload_n F dX6_does_56 rfl 0 rfl (pc' := 57) rfl ?_
    refine wk_same_i F (c6_isForm l D cI cP hs σ (σ 4 (σ 6 3).toNatClampNeg) (3 : Int32) hs_okT hs_okS hlt (by decide)) (cwV 2 F.hts gX6_does_X6_isForm rfl rfl rfl hdX6_isForm ⟨Nat.le_of_ble_eq_true rfl, Nat.le_of_ble_eq_true rfl⟩) 0 6 rfl rfl rfl rfl (Nat.le_of_ble_eq_true rfl) dX6_does_57 ⟨Nat.zero_le _, Nat.zero_le _⟩ (pc' := 60) rfl (fun r62 u61 h63 => ?_)
    refine wk_if_ne (tgt := 65) F dX6_does_60 (by decide) (pc' := 63) rfl (fun c64 => ?_) (fun c64 => ?_)
    · refine wk_iload_n F dX6_does_65 rfl 0 rfl (pc' := 66) rfl ?_
      refine wk_if_le (tgt := 82) F dX6_does_66 (by decide) (pc' := 69) rfl (fun c => absurd c (by decide)) (fun _ => ?_)
      refine wk_aload_n F dX6_does_69 rfl 2 rfl (pc' := 70) rfl ?_
      refine wk_aload_n F dX6_does_70 rfl 2 rfl (pc' := 71) rfl ?_
      refine wk_get (C := RX6) (T := TX6) (N := 12) F 0 rfl rfl k_6 11 (Nat.le_of_ble_eq_true rfl) w_3 rfl dX6_does_71 (pc' := 74) rfl ?_
      refine wk_iconst F dX6_does_74 ic_0 (pc' := 75) rfl ?_
      refine wk_iald_n (i := 0) F 6 0 rfl rfl (by omega) (Nat.le_of_ble_eq_true rfl) dX6_does_75 (pc' := 76) rfl ?_
      refine wk_same_p F (c6_isVolume l D cI cP hs u61 (u61 5 0)) (cwV 1 F.hts gX6_does_X6_isVolume rfl rfl rfl hdX6_isVolume ⟨Nat.le_of_ble_eq_true rfl, Nat.le_of_ble_eq_true rfl⟩) 0 6 rfl rfl rfl rfl (Nat.le_of_ble_eq_true rfl) dX6_does_76 ⟨Nat.zero_le _, Nat.zero_le _⟩ (pc' := 79) rfl ?_
      refine wk_if_eq (tgt := 106) F dX6_does_79 (by decide) (pc' := 82) rfl (fun c65 => ?_) (fun c65 => ?_)
      · refine wk_iconst F dX6_does_106 ic_2 (pc' := 107) rfl ?_
        exact hret _ _ _ _ dX6_does_107 rfl (by rw [f6_does] <;> exact (st_pos c1 (st_match h63 (st_neg c64 (st_pos c65 rfl)))))
      · refine wk_iload_n F dX6_does_82 rfl 0 rfl (pc' := 83) rfl ?_
        refine wk_iconst F dX6_does_83 ic_1 (pc' := 84) rfl ?_
        refine wk_icmp_le (tgt := 108) F dX6_does_84 (by decide) (pc' := 87) rfl (fun c => absurd c (by decide)) (fun _ => ?_)
        refine wk_aload_n F dX6_does_87 rfl 2 rfl (pc' := 88) rfl ?_
        refine wk_aload_n F dX6_does_88 rfl 2 rfl (pc' := 89) rfl ?_
        refine wk_get (C := RX6) (T := TX6) (N := 12) F 0 rfl rfl k_6 11 (Nat.le_of_ble_eq_true rfl) w_3 rfl dX6_does_89 (pc' := 92) rfl ?_
        refine wk_iconst F dX6_does_92 ic_0 (pc' := 93) rfl ?_
        refine wk_iald_n (i := 0) F 6 0 rfl rfl (by omega) (Nat.le_of_ble_eq_true rfl) dX6_does_93 (pc' := 94) rfl ?_
        refine wk_aload_n F dX6_does_94 rfl 2 rfl (pc' := 95) rfl ?_
        refine wk_get (C := RX6) (T := TX6) (N := 12) F 0 rfl rfl k_6 11 (Nat.le_of_ble_eq_true rfl) w_3 rfl dX6_does_95 (pc' := 98) rfl ?_
        refine wk_iconst F dX6_does_98 ic_1 (pc' := 99) rfl ?_
        refine wk_iald_n (i := 1) F 6 0 rfl rfl (by omega) (Nat.le_of_ble_eq_true rfl) dX6_does_99 (pc' := 100) rfl ?_
        refine wk_same_p F (c6_isPlace l D cI cP hs u61 (u61 5 0) (u61 5 1)) (cwV 2 F.hts gX6_does_X6_isPlace rfl rfl rfl hdX6_isPlace ⟨Nat.le_of_ble_eq_true rfl, Nat.le_of_ble_eq_true rfl⟩) 0 6 rfl rfl rfl rfl (Nat.le_of_ble_eq_true rfl) dX6_does_100 ⟨Nat.zero_le _, Nat.zero_le _⟩ (pc' := 103) rfl ?_
        refine wk_if_ne (tgt := 108) F dX6_does_103 (by decide) (pc' := 106) rfl (fun c66 => ?_) (fun c66 => ?_)
        · refine wk_iload_n F dX6_does_108 rfl 1 rfl (pc' := 109) rfl ?_
          refine wk_top c1 ?_
          refine wk_lookup (off := 51) (tgt := 160) F dX6_does_109 (by decide) (by decide) (by decide) ?_
          refine wk_aload_n F dX6_does_160 rfl 2 rfl (pc' := 161) rfl ?_
          refine wk_aload_n F dX6_does_161 rfl 2 rfl (pc' := 162) rfl ?_
          refine wk_aload_n F dX6_does_162 rfl 2 rfl (pc' := 163) rfl ?_
          refine wk_get (C := RX6) (T := TX6) (N := 12) F 0 rfl rfl k_6 11 (Nat.le_of_ble_eq_true rfl) w_3 rfl dX6_does_163 (pc' := 166) rfl ?_
          refine wk_iconst F dX6_does_166 ic_0 (pc' := 167) rfl ?_
          refine wk_iald_n (i := 0) F 6 0 rfl rfl (by omega) (Nat.le_of_ble_eq_true rfl) dX6_does_167 (pc' := 168) rfl ?_
          refine wk_aload_n F dX6_does_168 rfl 2 rfl (pc' := 169) rfl ?_
          refine wk_get (C := RX6) (T := TX6) (N := 12) F 0 rfl rfl k_6 11 (Nat.le_of_ble_eq_true rfl) w_3 rfl dX6_does_169 (pc' := 172) rfl ?_
          refine wk_iconst F dX6_does_172 ic_1 (pc' := 173) rfl ?_
          refine wk_iald_n (i := 1) F 6 0 rfl rfl (by omega) (Nat.le_of_ble_eq_true rfl) dX6_does_173 (pc' := 174) rfl ?_
          refine wk_aload_n F dX6_does_174 rfl 2 rfl (pc' := 175) rfl ?_
          refine wk_get (C := RX6) (T := TX6) (N := 12) F 0 rfl rfl k_6 11 (Nat.le_of_ble_eq_true rfl) w_3 rfl dX6_does_175 (pc' := 178) rfl ?_
          refine wk_iconst F dX6_does_178 ic_2 (pc' := 179) rfl ?_
          refine wk_iald_n (i := 2) F 6 0 rfl rfl (by omega) (Nat.le_of_ble_eq_true rfl) dX6_does_179 (pc' := 180) rfl ?_
          refine wk_same_i F (c6_write l D cI cP hs u61 (u61 5 0) (u61 5 1) (u61 5 2) (okH_isForm h63 hs_okH) (okL_row0 (isForm_j h63 (by decide) (by decide)) hs_okL) (okP_row0 (isForm_j h63 (by decide) (by decide)) hs_okP)) (cwV 3 F.hts gX6_does_X6_write rfl rfl rfl hdX6_write ⟨Nat.le_of_ble_eq_true rfl, Nat.le_of_ble_eq_true rfl⟩) 0 6 rfl rfl rfl rfl (Nat.le_of_ble_eq_true rfl) dX6_does_180 ⟨Nat.zero_le _, Nat.zero_le _⟩ (pc' := 183) rfl (fun r68 u67 h69 => ?_)
          refine wk_same_i F (c6_isDone l D cI cP hs u67 r68) (cwV 1 F.hts gX6_does_X6_isDone rfl rfl rfl hdX6_isDone ⟨Nat.le_of_ble_eq_true rfl, Nat.le_of_ble_eq_true rfl⟩) 0 6 rfl rfl rfl rfl (Nat.le_of_ble_eq_true rfl) dX6_does_183 ⟨Nat.zero_le _, Nat.zero_le _⟩ (pc' := 186) rfl (fun r71 u70 h72 => ?_)
          exact hret _ _ _ _ dX6_does_186 rfl (by rw [f6_does] <;> exact (st_pos c1 (st_match h63 (st_neg c64 (st_neg c65 (st_neg c66 (st_match h69 (st_match h72 rfl))))))))
        · refine wk_iconst F dX6_does_106 ic_2 (pc' := 107) rfl ?_
          exact hret _ _ _ _ dX6_does_107 rfl (by rw [f6_does] <;> exact (st_pos c1 (st_match h63 (st_neg c64 (st_neg c65 (st_pos c66 rfl))))))
    · refine wk_iconst F dX6_does_63 ic_1 (pc' := 64) rfl ?_
      exact hret _ _ _ _ dX6_does_64 rfl (by rw [f6_does] <;> exact (st_pos c1 (st_match h63 (st_pos c64 rfl))))
