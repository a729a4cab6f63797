theorem perm5 {α : Type} (R T H P W : List α) : (R ++ (T ++ (H ++ (P ++ W)))).Perm (W ++ (P ++ (H ++ (T ++ R)))) := by
  refine List.perm_append_comm.trans ?_
  refine (List.Perm.append_right R (List.perm_append_comm.trans (List.Perm.append_right T (List.perm_append_comm.trans (List.Perm.append_right H List.perm_append_comm))))).trans ?_
  simp only [List.append_assoc]; exact List.Perm.refl _
theorem wTV_mk {cI cP : ClassId} {h0 q4 : Nat} {z0 z6 z7 : Nat → Nat} {g2 hq : Nat → Nat → Nat} (v : PS) (a1 a2 : Nat) (e0 : hq 0 = z0) (e1 : hq 1 = g2 1) (e2 : hq 2 = g2 2) (e3 : hq 3 = g2 3) (e4 : hq 4 = g2 4) (e5 : hq 5 = g2 5) (e6 : hq 6 = z6) (e7 : hq 7 = z7) :
    ([(h0, .inr (5, [.ref (z0 0), .ref a1, .ref (z7 0), .ref q4]))] ++ (wPool cI z0 v ++ (([(a1, .inr (0, [.ref a2, .int 0])), (a2, .inl (cP, 5, .inr (.inr (.inr (.inr (fun i => some (hq (i + 1) 0)))))))] ++ (wPool cI (g2 1) v ++ (wPool cI (g2 2) v ++ (wPool cI (g2 3) v ++ (wPool cI (g2 4) v ++ (wPool cI (g2 5) v ++ [])))))) ++ (wText cI z7 pz ++ ([(q4, .inr (2, [.ref (z6 0), .int 0, .int 0]))] ++ wPool cI z6 v)))) : va_W) = wTV cI cP (adr [h0, a1, a2, q4]) hq (mkZ v v v v v v v pz pz pz) := by
  subst e0 e6 e7
  rw [← e1, ← e2, ← e3, ← e4, ← e5]
  show _ = wTvo (adr [h0, a1, a2, q4]) hq ++ (wPool cI (hq 0) v ++ (wHist cP (adr [h0, a1, a2, q4]) hq pz ++ (wPool cI (hq 1) v ++ (wPool cI (hq 2) v ++ (wPool cI (hq 3) v ++ (wPool cI (hq 4) v ++ (wPool cI (hq 5) v ++ (wText cI (hq 7) pz ++ (wReh (adr [h0, a1, a2, q4]) hq pz ++ (wPool cI (hq 6) v ++ []))))))))))
  simp only [List.append_assoc, List.append_nil, List.nil_append, List.cons_append, wTvo, wHist, wReh]
  rfl
def f5_init : ST := mkZ f1_init f1_init f1_init f1_init f1_init f1_init f1_init pz pz pz
set_option maxHeartbeats 4000000 in
set_option maxRecDepth 100000 in
theorem c5_init (l : Launch) (D : va_G) (cI cP : ClassId) (h0 : Nat) : CV (S := (Nat → Nat) × (Nat → Nat → Nat)) l yX5_init wsX5_init ({ frames := 4, cells := 111, slots := 3431, locals := 74 } : Room) D (cty cI cP) [(h0, .inr (5, [.null, .null, .null, .null]))] (fun z => wTV cI cP z.1 z.2 f5_init) [.ref h0] 111 3431 (fun z => z.1 0 = h0) := by
  refine CV.of (cc := cX5_init) (maxL := 1) (own := RX5) (lv0 := [(0, .ref h0)]) pnX5 rfl rfl (Nat.le_of_ble_eq_true rfl) rfl (fun p e s m args below meth c A Q F hmn hret => ?_)
  have w_1 := F.at (x := Cond.methodLink RX5 3 objectInit) 1 rfl
  have w_2 := F.at (x := Cond.instanceMethod objectInit) 2 rfl
  have w_3 := F.at (x := Cond.code objectInit ⟨#[0xb1]⟩ 1 none) 3 rfl
  have w_4 := F.at (x := Cond.classLink RX5 9 RX1) 4 rfl
  have w_5 := F.at (x := Cond.instantiable RX1 14) 5 rfl
  have w_6 := F.at (x := Cond.initialized RX1) 6 rfl
  have w_21 := F.at (x := Cond.instanceMethod yX1_init) 21 rfl
  have w_20 := F.at (x := Cond.methodLink RX5 11 yX1_init) 20 rfl
  have w_7 := F.at (x := Cond.fieldLink RX5 12 "ThinVolumes" "pool" "LThinVolumes$Pool;") 7 rfl
  have w_8 := F.at (x := Cond.classLink RX5 16 RX0) 8 rfl
  have w_9 := F.at (x := Cond.instantiable RX0 2) 9 rfl
  have w_10 := F.at (x := Cond.initialized RX0) 10 rfl
  have w_46 := F.at (x := Cond.instanceMethod yX0_init) 46 rfl
  have w_45 := F.at (x := Cond.methodLink RX5 18 yX0_init) 45 rfl
  have w_11 := F.at (x := Cond.fieldLink RX5 19 "ThinVolumes" "history" "LThinVolumes$History;") 11 rfl
  have w_12 := F.at (x := Cond.classLink RX5 23 RX3) 12 rfl
  have w_13 := F.at (x := Cond.instantiable RX3 5) 13 rfl
  have w_14 := F.at (x := Cond.initialized RX3) 14 rfl
  have w_52 := F.at (x := Cond.instanceMethod yX3_init) 52 rfl
  have w_15 := F.at (x := Cond.fieldLink RX5 26 "ThinVolumes" "text" "LThinVolumes$Text;") 15 rfl
  have w_16 := F.at (x := Cond.classLink RX5 30 RX2) 16 rfl
  have w_17 := F.at (x := Cond.instantiable RX2 3) 17 rfl
  have w_18 := F.at (x := Cond.initialized RX2) 18 rfl
  have w_57 := F.at (x := Cond.instanceMethod yX2_init) 57 rfl
  have w_19 := F.at (x := Cond.fieldLink RX5 33 "ThinVolumes" "rehearsal" "LThinVolumes$Rehearsal;") 19 rfl
  have k_0 : ∀ w ∈ wsX00, w ∈ wsX5_init := fun _ h => List.mem_cons_of_mem _ (List.mem_append_left _ (List.mem_append_left _ (List.mem_append_left _ (List.mem_append_right _ (h)))))
  have k_1 : ∀ w ∈ wsX10, w ∈ wsX5_init := fun _ h => List.mem_cons_of_mem _ (List.mem_append_left _ (List.mem_append_left _ (List.mem_append_left _ (List.mem_append_left _ (List.mem_append_left _ (List.mem_append_right _ (h)))))))
  have k_2 : ∀ w ∈ wsX20, w ∈ wsX5_init := fun _ h => List.mem_cons_of_mem _ (List.mem_append_left _ (List.mem_append_right _ (h)))
  have k_3 : ∀ w ∈ wsX30, w ∈ wsX5_init := fun _ h => List.mem_cons_of_mem _ (List.mem_append_left _ (List.mem_append_left _ (List.mem_append_right _ (h))))
  have k_5 : ∀ w ∈ wsX50, w ∈ wsX5_init := fun _ h => List.mem_cons_of_mem _ (List.mem_append_left _ (List.mem_append_left _ (List.mem_append_left _ (List.mem_append_left _ (List.mem_append_right _ (h))))))
  refine wk_aload_n F dX5_init_0 rfl 0 rfl (pc' := 1) rfl ?_
  refine wk_objInit F w_1 w_2 w_3 dX5_init_1 (Nat.le_of_ble_eq_true rfl) (Nat.le_of_ble_eq_true rfl) (pc' := 4) rfl ?_
  refine wk_aload_n F dX5_init_4 rfl 0 rfl (pc' := 5) rfl ?_
  refine wk_new (ci := 1) (fs := [.null, .null, .null, .null, .null, .null, .null, .null, .null, .null, .null, .int 0, .int 0, .int 0]) (C := RX1) (T := TX1) (N := 14) F k_1 tyX1_ok w_4 w_5 w_6 rfl (fun j hj => by rcases (show j = 0 ∨ j = 1 ∨ j = 2 ∨ j = 3 ∨ j = 4 ∨ j = 5 ∨ j = 6 ∨ j = 7 ∨ j = 8 ∨ j = 9 ∨ j = 10 ∨ j = 11 ∨ j = 12 ∨ j = 13 by omega) with rfl | rfl | rfl | rfl | rfl | rfl | rfl | rfl | rfl | rfl | rfl | rfl | rfl | rfl <;> rfl) (Nat.le_of_ble_eq_true rfl) (Nat.le_of_ble_eq_true rfl) dX5_init_5 (pc' := 8) rfl (fun q1 => ?_)
  refine wk_dup F dX5_init_8 rfl (pc' := 9) rfl ?_
  refine wk_fr_I2 F (c1_init l D cI cP q1) (cwI 0 F.hts gX5_init_X1_init rfl rfl rfl w_6 w_20 w_21 rfl hdX1_init ⟨(Nat.le_of_ble_eq_true rfl), (Nat.le_of_ble_eq_true rfl)⟩) rfl rfl (Nat.le_of_ble_eq_true rfl) dX5_init_9 ⟨(Nat.le_of_ble_eq_true rfl), (Nat.le_of_ble_eq_true rfl)⟩ (pc' := 12) rfl (fun zz hz => ?_)
  obtain ⟨z0, zb⟩ := zz
  obtain ⟨e1, e2⟩ := hz
  dsimp only at e1 e2
  subst e2
  subst e1
  refine wk_putF (w' := (wPool cI z0 f1_init) ++ ([(h0, .inr (5, [.ref (z0 0), .null, .null, .null]))])) (C := RX5) (T := TX5) (N := 4) (ty0 := tyX5) F 15 rfl rfl k_5 tyX5_ok nmX5 0 (Nat.le_of_ble_eq_true rfl) w_7 rfl hmn rfl rfl rfl (Nat.le_of_ble_eq_true rfl) rfl dX5_init_12 (pc' := 15) rfl ?_
  refine wk_aload_n F dX5_init_15 rfl 0 rfl (pc' := 16) rfl ?_
  refine wk_new (ci := 0) (fs := [.null, .int 0]) (C := RX0) (T := TX0) (N := 2) F k_0 tyX0_ok w_8 w_9 w_10 rfl (fun j hj => by rcases (show j = 0 ∨ j = 1 by omega) with rfl | rfl <;> rfl) (Nat.le_of_ble_eq_true rfl) (Nat.le_of_ble_eq_true rfl) dX5_init_16 (pc' := 19) rfl (fun q2 => ?_)
  refine wk_dup F dX5_init_19 rfl (pc' := 20) rfl ?_
  refine wk_fr_I2 F (c0_init l D cI cP q2) (cwI 0 F.hts gX5_init_X0_init rfl rfl rfl w_10 w_45 w_46 rfl hdX0_init ⟨(Nat.le_of_ble_eq_true rfl), (Nat.le_of_ble_eq_true rfl)⟩) rfl rfl (Nat.le_of_ble_eq_true rfl) dX5_init_20 ⟨(Nat.le_of_ble_eq_true rfl), (Nat.le_of_ble_eq_true rfl)⟩ (pc' := 23) rfl (fun zz hz => ?_)
  obtain ⟨g1, g2⟩ := zz
  dsimp only at hz
  subst hz
  refine wk_putF (w' := (wHist cP g1 g2 pz ++ (wPool cI (g2 1) f1_init ++ (wPool cI (g2 2) f1_init ++ (wPool cI (g2 3) f1_init ++ (wPool cI (g2 4) f1_init ++ (wPool cI (g2 5) f1_init ++ [])))))) ++ ((wPool cI z0 f1_init) ++ ([(h0, .inr (5, [.ref (z0 0), .ref (g1 1), .null, .null]))]))) (C := RX5) (T := TX5) (N := 4) (ty0 := tyX5) F 92 rfl rfl k_5 tyX5_ok nmX5 1 (Nat.le_of_ble_eq_true rfl) w_11 rfl hmn rfl rfl rfl (Nat.le_of_ble_eq_true rfl) rfl dX5_init_23 (pc' := 26) rfl ?_
  refine wk_aload_n F dX5_init_26 rfl 0 rfl (pc' := 27) rfl ?_
  refine wk_new (ci := 3) (fs := [.null, .int 0, .int 0, .null, .int 0]) (C := RX3) (T := TX3) (N := 5) F k_3 tyX3_ok w_12 w_13 w_14 rfl (fun j hj => by rcases (show j = 0 ∨ j = 1 ∨ j = 2 ∨ j = 3 ∨ j = 4 by omega) with rfl | rfl | rfl | rfl | rfl <;> rfl) (Nat.le_of_ble_eq_true rfl) (Nat.le_of_ble_eq_true rfl) dX5_init_27 (pc' := 30) rfl (fun q3 => ?_)
  refine wk_dup F dX5_init_30 rfl (pc' := 31) rfl ?_
  refine wk_fr_IN2 F (c3_init l D cI cP q3) ⟨va_cnB 0 F.hts gX5_init_X3_init_n25 rfl rfl rfl F.nw.2.1 w_14 hdX3_init ⟨(Nat.le_of_ble_eq_true rfl), (Nat.le_of_ble_eq_true rfl)⟩, rfl, w_52⟩ rfl rfl (Nat.le_of_ble_eq_true rfl) dX5_init_31 ⟨(Nat.le_of_ble_eq_true rfl), (Nat.le_of_ble_eq_true rfl)⟩ (pc' := 34) rfl (fun zz hz => ?_)
  obtain ⟨z7, zb⟩ := zz
  obtain ⟨e1, e2⟩ := hz
  dsimp only at e1 e2
  subst e2
  subst e1
  refine wk_putF (w' := (wText cI z7 pz) ++ ((wHist cP g1 g2 pz ++ (wPool cI (g2 1) f1_init ++ (wPool cI (g2 2) f1_init ++ (wPool cI (g2 3) f1_init ++ (wPool cI (g2 4) f1_init ++ (wPool cI (g2 5) f1_init ++ [])))))) ++ ((wPool cI z0 f1_init) ++ ([(h0, .inr (5, [.ref (z0 0), .ref (g1 1), .ref (z7 0), .null]))])))) (C := RX5) (T := TX5) (N := 4) (ty0 := tyX5) F 95 rfl rfl k_5 tyX5_ok nmX5 2 (Nat.le_of_ble_eq_true rfl) w_15 rfl hmn rfl rfl rfl (Nat.le_of_ble_eq_true rfl) rfl dX5_init_34 (pc' := 37) rfl ?_
  refine wk_aload_n F dX5_init_37 rfl 0 rfl (pc' := 38) rfl ?_
  refine wk_new (ci := 2) (fs := [.null, .int 0, .int 0]) (C := RX2) (T := TX2) (N := 3) F k_2 tyX2_ok w_16 w_17 w_18 rfl (fun j hj => by rcases (show j = 0 ∨ j = 1 ∨ j = 2 by omega) with rfl | rfl | rfl <;> rfl) (Nat.le_of_ble_eq_true rfl) (Nat.le_of_ble_eq_true rfl) dX5_init_38 (pc' := 41) rfl (fun q4 => ?_)
  refine wk_dup F dX5_init_41 rfl (pc' := 42) rfl ?_
  refine wk_fr_IN2 F (c2_init l D cI cP q4) ⟨va_cnB 0 F.hts gX5_init_X2_init_n32 rfl rfl rfl F.nw.2.2.1 w_18 hdX2_init ⟨(Nat.le_of_ble_eq_true rfl), (Nat.le_of_ble_eq_true rfl)⟩, rfl, w_57⟩ rfl rfl (Nat.le_of_ble_eq_true rfl) dX5_init_42 ⟨(Nat.le_of_ble_eq_true rfl), (Nat.le_of_ble_eq_true rfl)⟩ (pc' := 45) rfl (fun z6 hz => ?_)
  refine wk_putF (w' := ([(q4, .inr (2, [.ref (z6 0), .int 0, .int 0]))] ++ wPool cI z6 f1_init) ++ ((wText cI z7 pz) ++ ((wHist cP g1 g2 pz ++ (wPool cI (g2 1) f1_init ++ (wPool cI (g2 2) f1_init ++ (wPool cI (g2 3) f1_init ++ (wPool cI (g2 4) f1_init ++ (wPool cI (g2 5) f1_init ++ [])))))) ++ ((wPool cI z0 f1_init) ++ ([(h0, .inr (5, [.ref (z0 0), .ref (g1 1), .ref (z7 0), .ref q4]))]))))) (C := RX5) (T := TX5) (N := 4) (ty0 := tyX5) F 111 rfl rfl k_5 tyX5_ok nmX5 3 (Nat.le_of_ble_eq_true rfl) w_19 rfl hmn rfl rfl rfl (Nat.le_of_ble_eq_true rfl) rfl dX5_init_45 (pc' := 48) rfl ?_
  generalize hE : (fun i => match i with | 0 => z0 | 6 => z6 | 7 => z7 | i => g2 i : Nat → Nat → Nat) = hq
  refine wk_arrq (g := fun i => some (hq (i + 1) 0)) (w' := ([(q4, .inr (2, [.ref (z6 0), .int 0, .int 0]))] ++ wPool cI z6 f1_init) ++ ((wText cI z7 pz) ++ (([(g1 1, .inr (0, [.ref (g1 2), .int 0])), (g1 2, .inl (cP, 5, .inr (.inr (.inr (.inr (fun i => some (hq (i + 1) 0)))))))] ++ (wPool cI (g2 1) f1_init ++ (wPool cI (g2 2) f1_init ++ (wPool cI (g2 3) f1_init ++ (wPool cI (g2 4) f1_init ++ (wPool cI (g2 5) f1_init ++ [])))))) ++ ((wPool cI z0 f1_init) ++ ([(h0, .inr (5, [.ref (z0 0), .ref (g1 1), .ref (z7 0), .ref q4]))]))))) 20 rfl (fun j hj => by rcases (show j = 0 ∨ j = 1 ∨ j = 2 ∨ j = 3 ∨ j = 4 by omega) with rfl | rfl | rfl | rfl | rfl <;> (rw [← hE]; rfl)) rfl ?_
  refine wk_perm (perm5 _ _ _ _ _) ?_
  refine wk_w (wTV_mk f1_init (g1 1) (g1 2) (by rw [← hE]; rfl) (by rw [← hE]; rfl) (by rw [← hE]; rfl) (by rw [← hE]; rfl) (by rw [← hE]; rfl) (by rw [← hE]; rfl) (by rw [← hE]; rfl) (by rw [← hE]; rfl)) ?_
  exact hret _ _ (adr [h0, g1 1, g1 2, q4], hq) dX5_init_48 rfl
