section ARQ
variable {p : Program} {l : Launch} {e : Env} {R : Room} {s : State} {m : MethodId} {args : Array Value} {below : List Frame} {meth : Method} {c : Code} {n : Nat} {D : va_G} {A : Nat → Prop} {cells slots : Nat} {Q : State → Prop} {w : va_W} {lv : List (Nat × Value)} {pc : Nat} {st : List Value}
theorem wk_arrq (k : Nat) {a N : Nat} {cA : ClassId} {f g : Nat → Option Nat} {w' : va_W} (ha : w[k]? = some (a, .inl (cA, N, .inr (.inr (.inr (.inr f)))))) (hfg : ∀ j : Nat, j < N → f j = g j) (hw : w.set k (a, .inl (cA, N, .inr (.inr (.inr (.inr g))))) = w') (kk : Wk p l e R s m args below meth c n D A cells slots Q w' lv pc st) : Wk p l e R s m args below meth c n D A cells slots Q w lv pc st := by
  subst hw
  intro H locs ls hP hD hS hl
  refine kk H locs ls (hP.set hD ha ?_ (fun _ _ => rfl)) (hD.set ha) hS hl
  have h1 : H[a]? = some (vp_cell cA (N, .inr (.inr (.inr (.inr f))))) := hP k _ ha
  show H[a]? = some (vp_cell cA (N, .inr (.inr (.inr (.inr g)))))
  rw [h1, vp_cell_q, vp_cell_q]
  have e : (fun j : Fin N => va_rf (f j.val)) = fun j : Fin N => va_rf (g j.val) := funext fun j => by rw [hfg j.val j.isLt]
  unfold arrV
  rw [e]
end ARQ
theorem wk_fr_I2 {p : Program} {l : Launch} {e : Env} {R : Room} {s : State} {m : MethodId} {args : Array Value} {below : List Frame} {meth : Method} {c : Code} {n : Nat} {D : va_G} {A : Nat → Prop} {cells slots : Nat} {Q : State → Prop} {lv : List (Nat × Value)} {pc pc' : Nat} {st rest : List Value} {cc : ByteArray} {Ts : List Cond} {own : String} {ret : Option FieldType} {tys : List (ClassId × FieldType)} {S : Type} {y : MethodName} {ws2 : List Cond} {rm2 : Room} {w0 wr : va_W} {wf : S → va_W} {b : Nat} {As : List Value} {mc ms maxL nA index : Nat} {bytes : ByteArray} {post : S → Prop} (F : Fx p s m args meth c cc n Ts own ret D tys A) (hM : CV l y ws2 rm2 D tys w0 wf (.ref b :: As) mc ms post) (cw : CallB R s args own index y bytes maxL none ws2 rm2 mc ms nA ∧ y.name = "<init>" ∧ (Cond.instanceMethod y).before args s = true) (hn : As.length = nA) (hst : st = As.reverse ++ (.ref b :: rest)) (hsum : (rest.map fun v => v.category).sum ≤ 8) (hdg : decode cc pc = .ok (.invokespecial index, 3)) (hroom : cells + mc ≤ R.cells ∧ slots + ms ≤ R.slots) (hpc : pc + 3 = pc') (kk : ∀ u : S, post u → Wk p l e R s m args below meth c n D A (cells + mc) (slots + ms) Q (wf u ++ wr) lv pc' rest) : Wk p l e R s m args below meth c n D A cells slots Q (wr ++ w0) lv pc st := wk_perm List.perm_append_comm (wk_fr_I F hM cw hn hst hsum hdg hroom hpc kk)
theorem wk_fr_IN2 {p : Program} {l : Launch} {e : Env} {R : Room} {s : State} {m : MethodId} {args : Array Value} {below : List Frame} {meth : Method} {c : Code} {n : Nat} {D : va_G} {A : Nat → Prop} {cells slots : Nat} {Q : State → Prop} {lv : List (Nat × Value)} {pc pc' : Nat} {st rest : List Value} {cc : ByteArray} {Ts : List Cond} {own : String} {ret : Option FieldType} {tys : List (ClassId × FieldType)} {S : Type} {y : MethodName} {ws2 : List Cond} {rm2 : Room} {w0 wr : va_W} {wf : S → va_W} {b : Nat} {As : List Value} {mc ms maxL nA index : Nat} {bytes : ByteArray} {host : String} {post : S → Prop} (F : Fx p s m args meth c cc n Ts own ret D tys A) (hM : CV l y ws2 rm2 D tys w0 wf (.ref b :: As) mc ms post) (cw : va_CN R s args own index y host bytes maxL none ws2 rm2 mc ms nA ∧ y.name = "<init>" ∧ (Cond.instanceMethod y).before args s = true) (hn : As.length = nA) (hst : st = As.reverse ++ (.ref b :: rest)) (hsum : (rest.map fun v => v.category).sum ≤ 8) (hdg : decode cc pc = .ok (.invokespecial index, 3)) (hroom : cells + mc ≤ R.cells ∧ slots + ms ≤ R.slots) (hpc : pc + 3 = pc') (kk : ∀ u : S, post u → Wk p l e R s m args below meth c n D A (cells + mc) (slots + ms) Q (wf u ++ wr) lv pc' rest) : Wk p l e R s m args below meth c n D A cells slots Q (wr ++ w0) lv pc st := wk_perm List.perm_append_comm (wk_callvIN_fr F hM cw hn hst hsum hdg hroom hpc kk)
set_option maxHeartbeats 4000000 in
set_option maxRecDepth 100000 in
theorem c2_init (l : Launch) (D : va_G) (cI cP : ClassId) (h0 : Nat) : CV (S := Nat → Nat) l yX2_init wsX2_init ({ frames := 3, cells := 15, slots := 479, locals := 53 } : Room) D (cty cI cP) [(h0, .inr (2, [.null, .int 0, .int 0]))] (fun z => [(h0, .inr (2, [.ref (z 0), .int 0, .int 0]))] ++ wPool cI z f1_init) [.ref h0] 15 479 (fun z => True) := by
  refine CV.of (cc := cX2_init) (maxL := 1) (own := RX2) (lv0 := [(0, .ref h0)]) pnX2 rfl rfl (Nat.le_of_ble_eq_true rfl) rfl (fun p e s m args below meth c A Q F hmn hret => ?_)
  have w_1 := F.at (x := Cond.methodLink RX2 3 objectInit) 1 rfl
  have w_2 := F.at (x := Cond.instanceMethod objectInit) 2 rfl
  have w_3 := F.at (x := Cond.code objectInit ⟨#[0xb1]⟩ 1 none) 3 rfl
  have w_4 := F.at (x := Cond.classLink RX2 9 RX1) 4 rfl
  have w_5 := F.at (x := Cond.instantiable RX1 14) 5 rfl
  have w_6 := F.at (x := Cond.initialized RX1) 6 rfl
  have w_9 := F.at (x := Cond.instanceMethod yX1_init) 9 rfl
  have w_8 := F.at (x := Cond.methodLink RX2 11 yX1_init) 8 rfl
  have w_7 := F.at (x := Cond.fieldLink RX2 12 "ThinVolumes$Rehearsal" "trial" "LThinVolumes$Pool;") 7 rfl
  have k_1 : ∀ w ∈ wsX10, w ∈ wsX2_init := fun _ h => List.mem_cons_of_mem _ (List.mem_append_left _ (List.mem_append_left _ (List.mem_append_right _ (h))))
  have k_2 : ∀ w ∈ wsX20, w ∈ wsX2_init := fun _ h => List.mem_cons_of_mem _ (List.mem_append_left _ (List.mem_append_right _ (h)))
  refine wk_aload_n F dX2_init_0 rfl 0 rfl (pc' := 1) rfl ?_
  refine wk_objInit F w_1 w_2 w_3 dX2_init_1 (Nat.le_of_ble_eq_true rfl) (Nat.le_of_ble_eq_true rfl) (pc' := 4) rfl ?_
  refine wk_aload_n F dX2_init_4 rfl 0 rfl (pc' := 5) rfl ?_
  refine wk_new (ci := 1) (fs := [.null, .null, .null, .null, .null, .null, .null, .null, .null, .null, .null, .int 0, .int 0, .int 0]) (C := RX1) (T := TX1) (N := 14) F k_1 tyX1_ok w_4 w_5 w_6 rfl (fun j hj => by rcases (show j = 0 ∨ j = 1 ∨ j = 2 ∨ j = 3 ∨ j = 4 ∨ j = 5 ∨ j = 6 ∨ j = 7 ∨ j = 8 ∨ j = 9 ∨ j = 10 ∨ j = 11 ∨ j = 12 ∨ j = 13 by omega) with rfl | rfl | rfl | rfl | rfl | rfl | rfl | rfl | rfl | rfl | rfl | rfl | rfl | rfl <;> rfl) (Nat.le_of_ble_eq_true rfl) (Nat.le_of_ble_eq_true rfl) dX2_init_5 (pc' := 8) rfl (fun q1 => ?_)
  refine wk_dup F dX2_init_8 rfl (pc' := 9) rfl ?_
  refine wk_fr_I2 F (c1_init l D cI cP q1) (cwI 0 F.hts gX2_init_X1_init rfl rfl rfl w_6 w_8 w_9 rfl hdX1_init ⟨(Nat.le_of_ble_eq_true rfl), (Nat.le_of_ble_eq_true rfl)⟩) rfl rfl (Nat.le_of_ble_eq_true rfl) dX2_init_9 ⟨(Nat.le_of_ble_eq_true rfl), (Nat.le_of_ble_eq_true rfl)⟩ (pc' := 12) rfl (fun zz hz => ?_)
  obtain ⟨z1, z2⟩ := zz
  obtain ⟨e1, e2⟩ := hz
  dsimp only at e1 e2
  subst e2
  subst e1
  refine wk_perm List.perm_append_comm ?_
  refine wk_putF (w' := [(h0, .inr (2, [.ref (z1 0), .int 0, .int 0]))] ++ (wPool cI z1 f1_init)) (C := RX2) (T := TX2) (N := 3) (ty0 := tyX2) F 0 rfl rfl k_2 tyX2_ok nmX2 0 (Nat.le_of_ble_eq_true rfl) w_7 rfl hmn rfl rfl rfl (Nat.le_of_ble_eq_true rfl) rfl dX2_init_12 (pc' := 15) rfl ?_
  exact hret _ _ z1 dX2_init_15 trivial
set_option maxHeartbeats 4000000 in
set_option maxRecDepth 100000 in
theorem c0_init (l : Launch) (D : va_G) (cI cP : ClassId) (h0 : Nat) : CV (S := (Nat → Nat) × (Nat → Nat → Nat)) l yX0_init wsX0_init ({ frames := 3, cells := 76, slots := 2400, locals := 53 } : Room) D (cty cI cP) [(h0, .inr (0, [.null, .int 0]))] (fun z => wHist cP z.1 z.2 pz ++ (wPool cI (z.2 1) f1_init ++ (wPool cI (z.2 2) f1_init ++ (wPool cI (z.2 3) f1_init ++ (wPool cI (z.2 4) f1_init ++ (wPool cI (z.2 5) f1_init ++ [])))))) [.ref h0] 76 2400 (fun z => z.1 1 = h0) := by
  refine CV.of (cc := cX0_init) (maxL := 2) (own := RX0) (lv0 := [(0, .ref h0)]) pnX0 rfl rfl (Nat.le_of_ble_eq_true rfl) rfl (fun p e s m args below meth c A Q F hmn hret => ?_)
  have w_1 := F.at (x := Cond.methodLink RX0 3 objectInit) 1 rfl
  have w_2 := F.at (x := Cond.instanceMethod objectInit) 2 rfl
  have w_3 := F.at (x := Cond.code objectInit ⟨#[0xb1]⟩ 1 none) 3 rfl
  have w_4 := F.at (x := Cond.classLink RX0 9 RX1) 4 rfl
  have w_5 := F.at (x := Cond.fieldLink RX0 11 "ThinVolumes$History" "states" "[LThinVolumes$Pool;") 5 rfl
  have w_6 := F.at (x := Cond.instantiable RX1 14) 6 rfl
  have w_7 := F.at (x := Cond.initialized RX1) 7 rfl
  have w_9 := F.at (x := Cond.instanceMethod yX1_init) 9 rfl
  have w_8 := F.at (x := Cond.methodLink RX0 17 yX1_init) 8 rfl
  have k_0 : ∀ w ∈ wsX00, w ∈ wsX0_init := fun _ h => List.mem_cons_of_mem _ (List.mem_append_left _ (List.mem_append_left _ (List.mem_append_right _ (h))))
  have k_1 : ∀ w ∈ wsX10, w ∈ wsX0_init := fun _ h => List.mem_cons_of_mem _ (List.mem_append_left _ (List.mem_append_right _ (h)))
  refine wk_aload_n F dX0_init_0 rfl 0 rfl (pc' := 1) rfl ?_
  refine wk_objInit F w_1 w_2 w_3 dX0_init_1 (Nat.le_of_ble_eq_true rfl) (Nat.le_of_ble_eq_true rfl) (pc' := 4) rfl ?_
  refine wk_aload_n F dX0_init_4 rfl 0 rfl (pc' := 5) rfl ?_
  refine wk_iconst F dX0_init_5 ic_5 (pc' := 6) rfl ?_
  refine wk_newq F w_4 5 (by decide) (by decide) (Nat.le_of_ble_eq_true rfl) (Nat.le_of_ble_eq_true rfl) (Nat.le_of_ble_eq_true rfl) dX0_init_6 (pc' := 9) rfl (fun q1 => ?_)
  refine wk_putF (w' := [(h0, .inr (0, [.ref q1, .int 0])), (q1, .inl (cP, 5, .inr (.inr (.inr (.inr (fun _ => none))))))]) (C := RX0) (T := TX0) (N := 2) (ty0 := tyX0) F 0 rfl rfl k_0 tyX0_ok nmX0 0 (Nat.le_of_ble_eq_true rfl) w_5 rfl hmn rfl rfl rfl (Nat.le_of_ble_eq_true rfl) rfl dX0_init_9 (pc' := 12) rfl ?_
  refine wk_iconst F dX0_init_12 ic_0 (pc' := 13) rfl ?_
  refine wk_istore_n (lv' := [(1, .int (0 : Int32)), (0, .ref h0)]) F dX0_init_13 rfl (Nat.le_of_ble_eq_true rfl) rfl (pc' := 14) rfl ?_
  refine wk_iload_n F dX0_init_14 rfl 0 rfl (pc' := 15) rfl ?_
  refine wk_iconst F dX0_init_15 ic_4 (pc' := 16) rfl ?_
  refine wk_icmp_gt (tgt := 38) F dX0_init_16 (by decide) (pc' := 19) rfl (fun c => absurd c (by decide)) (fun _ => ?_)
  refine wk_aload_n F dX0_init_19 rfl 1 rfl (pc' := 20) rfl ?_
  refine wk_get (C := RX0) (T := TX0) (N := 2) F 0 rfl rfl k_0 0 (Nat.le_of_ble_eq_true rfl) w_5 rfl dX0_init_20 (pc' := 23) rfl ?_
  refine wk_iload_n F dX0_init_23 rfl 0 rfl (pc' := 24) rfl ?_
  refine wk_new (ci := 1) (fs := [.null, .null, .null, .null, .null, .null, .null, .null, .null, .null, .null, .int 0, .int 0, .int 0]) (C := RX1) (T := TX1) (N := 14) F k_1 tyX1_ok w_4 w_6 w_7 rfl (fun j hj => by rcases (show j = 0 ∨ j = 1 ∨ j = 2 ∨ j = 3 ∨ j = 4 ∨ j = 5 ∨ j = 6 ∨ j = 7 ∨ j = 8 ∨ j = 9 ∨ j = 10 ∨ j = 11 ∨ j = 12 ∨ j = 13 by omega) with rfl | rfl | rfl | rfl | rfl | rfl | rfl | rfl | rfl | rfl | rfl | rfl | rfl | rfl <;> rfl) (Nat.le_of_ble_eq_true rfl) (Nat.le_of_ble_eq_true rfl) dX0_init_24 (pc' := 27) rfl (fun p0 => ?_)
  refine wk_dup F dX0_init_27 rfl (pc' := 28) rfl ?_
  refine wk_fr_I2 F (c1_init l D cI cP p0) (cwI 0 F.hts gX0_init_X1_init rfl rfl rfl w_7 w_8 w_9 rfl hdX1_init ⟨(Nat.le_of_ble_eq_true rfl), (Nat.le_of_ble_eq_true rfl)⟩) rfl rfl (Nat.le_of_ble_eq_true rfl) dX0_init_28 ⟨(Nat.le_of_ble_eq_true rfl), (Nat.le_of_ble_eq_true rfl)⟩ (pc' := 31) rfl (fun zz hz => ?_)
  obtain ⟨z1, zb⟩ := zz
  obtain ⟨e1, e2⟩ := hz
  dsimp only at e1 e2
  subst e2
  subst e1
  refine wk_astq (g := va_up (fun _ => none) 0 (some (z1 0))) (w' := (wPool cI z1 f1_init) ++ ([(h0, .inr (0, [.ref q1, .int 0])), (q1, .inl (cP, 5, .inr (.inr (.inr (.inr (va_up (fun _ => none) 0 (some (z1 0))))))))])) F 16 0 1 rfl rfl rfl (vp_in_nI (n := 0) (N := 5) (Nat.le_of_ble_eq_true rfl) (Nat.le_of_ble_eq_true rfl)) (by rw [show ((0 : Int32)).toNatClampNeg = 0 from by decide]) rfl dX0_init_31 (pc' := 32) rfl ?_
  refine wk_iinc (k := 0) (v := (1 : Int32)) (lv' := [(1, .int (1 : Int32)), (0, .ref h0)]) F dX0_init_32 rfl (by decide) (Nat.le_of_ble_eq_true rfl) rfl (pc' := 35) rfl ?_
  refine wk_goto (tgt := 14) F dX0_init_35 (by decide) ?_
  refine wk_iload_n F dX0_init_14 rfl 0 rfl (pc' := 15) rfl ?_
  refine wk_iconst F dX0_init_15 ic_4 (pc' := 16) rfl ?_
  refine wk_icmp_gt (tgt := 38) F dX0_init_16 (by decide) (pc' := 19) rfl (fun c => absurd c (by decide)) (fun _ => ?_)
  refine wk_aload_n F dX0_init_19 rfl 1 rfl (pc' := 20) rfl ?_
  refine wk_get (C := RX0) (T := TX0) (N := 2) F 15 rfl rfl k_0 0 (Nat.le_of_ble_eq_true rfl) w_5 rfl dX0_init_20 (pc' := 23) rfl ?_
  refine wk_iload_n F dX0_init_23 rfl 0 rfl (pc' := 24) rfl ?_
  refine wk_new (ci := 1) (fs := [.null, .null, .null, .null, .null, .null, .null, .null, .null, .null, .null, .int 0, .int 0, .int 0]) (C := RX1) (T := TX1) (N := 14) F k_1 tyX1_ok w_4 w_6 w_7 rfl (fun j hj => by rcases (show j = 0 ∨ j = 1 ∨ j = 2 ∨ j = 3 ∨ j = 4 ∨ j = 5 ∨ j = 6 ∨ j = 7 ∨ j = 8 ∨ j = 9 ∨ j = 10 ∨ j = 11 ∨ j = 12 ∨ j = 13 by omega) with rfl | rfl | rfl | rfl | rfl | rfl | rfl | rfl | rfl | rfl | rfl | rfl | rfl | rfl <;> rfl) (Nat.le_of_ble_eq_true rfl) (Nat.le_of_ble_eq_true rfl) dX0_init_24 (pc' := 27) rfl (fun p1 => ?_)
  refine wk_dup F dX0_init_27 rfl (pc' := 28) rfl ?_
  refine wk_fr_I2 F (c1_init l D cI cP p1) (cwI 0 F.hts gX0_init_X1_init rfl rfl rfl w_7 w_8 w_9 rfl hdX1_init ⟨(Nat.le_of_ble_eq_true rfl), (Nat.le_of_ble_eq_true rfl)⟩) rfl rfl (Nat.le_of_ble_eq_true rfl) dX0_init_28 ⟨(Nat.le_of_ble_eq_true rfl), (Nat.le_of_ble_eq_true rfl)⟩ (pc' := 31) rfl (fun zz hz => ?_)
  obtain ⟨z2, zb⟩ := zz
  obtain ⟨e1, e2⟩ := hz
  dsimp only at e1 e2
  subst e2
  subst e1
  refine wk_astq (g := va_up (va_up (fun _ => none) 0 (some (z1 0))) 1 (some (z2 0))) (w' := (wPool cI z2 f1_init) ++ ((wPool cI z1 f1_init) ++ ([(h0, .inr (0, [.ref q1, .int 0])), (q1, .inl (cP, 5, .inr (.inr (.inr (.inr (va_up (va_up (fun _ => none) 0 (some (z1 0))) 1 (some (z2 0))))))))]))) F 31 0 1 rfl rfl rfl (vp_in_nI (n := 1) (N := 5) (Nat.le_of_ble_eq_true rfl) (Nat.le_of_ble_eq_true rfl)) (by rw [show ((1 : Int32)).toNatClampNeg = 1 from by decide]) rfl dX0_init_31 (pc' := 32) rfl ?_
  refine wk_iinc (k := 0) (v := (2 : Int32)) (lv' := [(1, .int (2 : Int32)), (0, .ref h0)]) F dX0_init_32 rfl (by decide) (Nat.le_of_ble_eq_true rfl) rfl (pc' := 35) rfl ?_
  refine wk_goto (tgt := 14) F dX0_init_35 (by decide) ?_
  refine wk_iload_n F dX0_init_14 rfl 0 rfl (pc' := 15) rfl ?_
  refine wk_iconst F dX0_init_15 ic_4 (pc' := 16) rfl ?_
  refine wk_icmp_gt (tgt := 38) F dX0_init_16 (by decide) (pc' := 19) rfl (fun c => absurd c (by decide)) (fun _ => ?_)
  refine wk_aload_n F dX0_init_19 rfl 1 rfl (pc' := 20) rfl ?_
  refine wk_get (C := RX0) (T := TX0) (N := 2) F 30 rfl rfl k_0 0 (Nat.le_of_ble_eq_true rfl) w_5 rfl dX0_init_20 (pc' := 23) rfl ?_
  refine wk_iload_n F dX0_init_23 rfl 0 rfl (pc' := 24) rfl ?_
  refine wk_new (ci := 1) (fs := [.null, .null, .null, .null, .null, .null, .null, .null, .null, .null, .null, .int 0, .int 0, .int 0]) (C := RX1) (T := TX1) (N := 14) F k_1 tyX1_ok w_4 w_6 w_7 rfl (fun j hj => by rcases (show j = 0 ∨ j = 1 ∨ j = 2 ∨ j = 3 ∨ j = 4 ∨ j = 5 ∨ j = 6 ∨ j = 7 ∨ j = 8 ∨ j = 9 ∨ j = 10 ∨ j = 11 ∨ j = 12 ∨ j = 13 by omega) with rfl | rfl | rfl | rfl | rfl | rfl | rfl | rfl | rfl | rfl | rfl | rfl | rfl | rfl <;> rfl) (Nat.le_of_ble_eq_true rfl) (Nat.le_of_ble_eq_true rfl) dX0_init_24 (pc' := 27) rfl (fun p2 => ?_)
  refine wk_dup F dX0_init_27 rfl (pc' := 28) rfl ?_
  refine wk_fr_I2 F (c1_init l D cI cP p2) (cwI 0 F.hts gX0_init_X1_init rfl rfl rfl w_7 w_8 w_9 rfl hdX1_init ⟨(Nat.le_of_ble_eq_true rfl), (Nat.le_of_ble_eq_true rfl)⟩) rfl rfl (Nat.le_of_ble_eq_true rfl) dX0_init_28 ⟨(Nat.le_of_ble_eq_true rfl), (Nat.le_of_ble_eq_true rfl)⟩ (pc' := 31) rfl (fun zz hz => ?_)
  obtain ⟨z3, zb⟩ := zz
  obtain ⟨e1, e2⟩ := hz
  dsimp only at e1 e2
  subst e2
  subst e1
  refine wk_astq (g := va_up (va_up (va_up (fun _ => none) 0 (some (z1 0))) 1 (some (z2 0))) 2 (some (z3 0))) (w' := (wPool cI z3 f1_init) ++ ((wPool cI z2 f1_init) ++ ((wPool cI z1 f1_init) ++ ([(h0, .inr (0, [.ref q1, .int 0])), (q1, .inl (cP, 5, .inr (.inr (.inr (.inr (va_up (va_up (va_up (fun _ => none) 0 (some (z1 0))) 1 (some (z2 0))) 2 (some (z3 0))))))))])))) F 46 0 1 rfl rfl rfl (vp_in_nI (n := 2) (N := 5) (Nat.le_of_ble_eq_true rfl) (Nat.le_of_ble_eq_true rfl)) (by rw [show ((2 : Int32)).toNatClampNeg = 2 from by decide]) rfl dX0_init_31 (pc' := 32) rfl ?_
  refine wk_iinc (k := 0) (v := (3 : Int32)) (lv' := [(1, .int (3 : Int32)), (0, .ref h0)]) F dX0_init_32 rfl (by decide) (Nat.le_of_ble_eq_true rfl) rfl (pc' := 35) rfl ?_
  refine wk_goto (tgt := 14) F dX0_init_35 (by decide) ?_
  refine wk_iload_n F dX0_init_14 rfl 0 rfl (pc' := 15) rfl ?_
  refine wk_iconst F dX0_init_15 ic_4 (pc' := 16) rfl ?_
  refine wk_icmp_gt (tgt := 38) F dX0_init_16 (by decide) (pc' := 19) rfl (fun c => absurd c (by decide)) (fun _ => ?_)
  refine wk_aload_n F dX0_init_19 rfl 1 rfl (pc' := 20) rfl ?_
  refine wk_get (C := RX0) (T := TX0) (N := 2) F 45 rfl rfl k_0 0 (Nat.le_of_ble_eq_true rfl) w_5 rfl dX0_init_20 (pc' := 23) rfl ?_
  refine wk_iload_n F dX0_init_23 rfl 0 rfl (pc' := 24) rfl ?_
  refine wk_new (ci := 1) (fs := [.null, .null, .null, .null, .null, .null, .null, .null, .null, .null, .null, .int 0, .int 0, .int 0]) (C := RX1) (T := TX1) (N := 14) F k_1 tyX1_ok w_4 w_6 w_7 rfl (fun j hj => by rcases (show j = 0 ∨ j = 1 ∨ j = 2 ∨ j = 3 ∨ j = 4 ∨ j = 5 ∨ j = 6 ∨ j = 7 ∨ j = 8 ∨ j = 9 ∨ j = 10 ∨ j = 11 ∨ j = 12 ∨ j = 13 by omega) with rfl | rfl | rfl | rfl | rfl | rfl | rfl | rfl | rfl | rfl | rfl | rfl | rfl | rfl <;> rfl) (Nat.le_of_ble_eq_true rfl) (Nat.le_of_ble_eq_true rfl) dX0_init_24 (pc' := 27) rfl (fun p3 => ?_)
  refine wk_dup F dX0_init_27 rfl (pc' := 28) rfl ?_
  refine wk_fr_I2 F (c1_init l D cI cP p3) (cwI 0 F.hts gX0_init_X1_init rfl rfl rfl w_7 w_8 w_9 rfl hdX1_init ⟨(Nat.le_of_ble_eq_true rfl), (Nat.le_of_ble_eq_true rfl)⟩) rfl rfl (Nat.le_of_ble_eq_true rfl) dX0_init_28 ⟨(Nat.le_of_ble_eq_true rfl), (Nat.le_of_ble_eq_true rfl)⟩ (pc' := 31) rfl (fun zz hz => ?_)
  obtain ⟨z4, zb⟩ := zz
  obtain ⟨e1, e2⟩ := hz
  dsimp only at e1 e2
  subst e2
  subst e1
  refine wk_astq (g := va_up (va_up (va_up (va_up (fun _ => none) 0 (some (z1 0))) 1 (some (z2 0))) 2 (some (z3 0))) 3 (some (z4 0))) (w' := (wPool cI z4 f1_init) ++ ((wPool cI z3 f1_init) ++ ((wPool cI z2 f1_init) ++ ((wPool cI z1 f1_init) ++ ([(h0, .inr (0, [.ref q1, .int 0])), (q1, .inl (cP, 5, .inr (.inr (.inr (.inr (va_up (va_up (va_up (va_up (fun _ => none) 0 (some (z1 0))) 1 (some (z2 0))) 2 (some (z3 0))) 3 (some (z4 0))))))))]))))) F 61 0 1 rfl rfl rfl (vp_in_nI (n := 3) (N := 5) (Nat.le_of_ble_eq_true rfl) (Nat.le_of_ble_eq_true rfl)) (by rw [show ((3 : Int32)).toNatClampNeg = 3 from by decide]) rfl dX0_init_31 (pc' := 32) rfl ?_
  refine wk_iinc (k := 0) (v := (4 : Int32)) (lv' := [(1, .int (4 : Int32)), (0, .ref h0)]) F dX0_init_32 rfl (by decide) (Nat.le_of_ble_eq_true rfl) rfl (pc' := 35) rfl ?_
  refine wk_goto (tgt := 14) F dX0_init_35 (by decide) ?_
  refine wk_iload_n F dX0_init_14 rfl 0 rfl (pc' := 15) rfl ?_
  refine wk_iconst F dX0_init_15 ic_4 (pc' := 16) rfl ?_
  refine wk_icmp_gt (tgt := 38) F dX0_init_16 (by decide) (pc' := 19) rfl (fun c => absurd c (by decide)) (fun _ => ?_)
  refine wk_aload_n F dX0_init_19 rfl 1 rfl (pc' := 20) rfl ?_
  refine wk_get (C := RX0) (T := TX0) (N := 2) F 60 rfl rfl k_0 0 (Nat.le_of_ble_eq_true rfl) w_5 rfl dX0_init_20 (pc' := 23) rfl ?_
  refine wk_iload_n F dX0_init_23 rfl 0 rfl (pc' := 24) rfl ?_
  refine wk_new (ci := 1) (fs := [.null, .null, .null, .null, .null, .null, .null, .null, .null, .null, .null, .int 0, .int 0, .int 0]) (C := RX1) (T := TX1) (N := 14) F k_1 tyX1_ok w_4 w_6 w_7 rfl (fun j hj => by rcases (show j = 0 ∨ j = 1 ∨ j = 2 ∨ j = 3 ∨ j = 4 ∨ j = 5 ∨ j = 6 ∨ j = 7 ∨ j = 8 ∨ j = 9 ∨ j = 10 ∨ j = 11 ∨ j = 12 ∨ j = 13 by omega) with rfl | rfl | rfl | rfl | rfl | rfl | rfl | rfl | rfl | rfl | rfl | rfl | rfl | rfl <;> rfl) (Nat.le_of_ble_eq_true rfl) (Nat.le_of_ble_eq_true rfl) dX0_init_24 (pc' := 27) rfl (fun p4 => ?_)
  refine wk_dup F dX0_init_27 rfl (pc' := 28) rfl ?_
  refine wk_fr_I2 F (c1_init l D cI cP p4) (cwI 0 F.hts gX0_init_X1_init rfl rfl rfl w_7 w_8 w_9 rfl hdX1_init ⟨(Nat.le_of_ble_eq_true rfl), (Nat.le_of_ble_eq_true rfl)⟩) rfl rfl (Nat.le_of_ble_eq_true rfl) dX0_init_28 ⟨(Nat.le_of_ble_eq_true rfl), (Nat.le_of_ble_eq_true rfl)⟩ (pc' := 31) rfl (fun zz hz => ?_)
  obtain ⟨z5, zb⟩ := zz
  obtain ⟨e1, e2⟩ := hz
  dsimp only at e1 e2
  subst e2
  subst e1
  refine wk_astq (g := va_up (va_up (va_up (va_up (va_up (fun _ => none) 0 (some (z1 0))) 1 (some (z2 0))) 2 (some (z3 0))) 3 (some (z4 0))) 4 (some (z5 0))) (w' := (wPool cI z5 f1_init) ++ ((wPool cI z4 f1_init) ++ ((wPool cI z3 f1_init) ++ ((wPool cI z2 f1_init) ++ ((wPool cI z1 f1_init) ++ ([(h0, .inr (0, [.ref q1, .int 0])), (q1, .inl (cP, 5, .inr (.inr (.inr (.inr (va_up (va_up (va_up (va_up (va_up (fun _ => none) 0 (some (z1 0))) 1 (some (z2 0))) 2 (some (z3 0))) 3 (some (z4 0))) 4 (some (z5 0))))))))])))))) F 76 0 1 rfl rfl rfl (vp_in_nI (n := 4) (N := 5) (Nat.le_of_ble_eq_true rfl) (Nat.le_of_ble_eq_true rfl)) (by rw [show ((4 : Int32)).toNatClampNeg = 4 from by decide]) rfl dX0_init_31 (pc' := 32) rfl ?_
  refine wk_iinc (k := 0) (v := (5 : Int32)) (lv' := [(1, .int (5 : Int32)), (0, .ref h0)]) F dX0_init_32 rfl (by decide) (Nat.le_of_ble_eq_true rfl) rfl (pc' := 35) rfl ?_
  refine wk_goto (tgt := 14) F dX0_init_35 (by decide) ?_
  refine wk_iload_n F dX0_init_14 rfl 0 rfl (pc' := 15) rfl ?_
  refine wk_iconst F dX0_init_15 ic_4 (pc' := 16) rfl ?_
  refine wk_icmp_gt (tgt := 38) F dX0_init_16 (by decide) (pc' := 19) rfl (fun _ => ?_) (fun c => absurd (by decide) c)
  generalize hE : (fun i => match i with | 1 => z1 | 2 => z2 | 3 => z3 | 4 => z4 | _ => z5 : Nat → Nat → Nat) = hq
  refine wk_arrq (g := fun i => some (hq (i + 1) 0)) (w' := (wPool cI z5 f1_init) ++ ((wPool cI z4 f1_init) ++ ((wPool cI z3 f1_init) ++ ((wPool cI z2 f1_init) ++ ((wPool cI z1 f1_init) ++ ([(h0, .inr (0, [.ref q1, .int 0])), (q1, .inl (cP, 5, .inr (.inr (.inr (.inr (fun i => some (hq (i + 1) 0)))))))])))))) 76 rfl (fun j hj => by rcases (show j = 0 ∨ j = 1 ∨ j = 2 ∨ j = 3 ∨ j = 4 by omega) with rfl | rfl | rfl | rfl | rfl <;> (rw [← hE]; rfl)) rfl ?_
  refine wk_w (w' := (wPool cI z5 f1_init) ++ ((wPool cI z4 f1_init) ++ ((wPool cI z3 f1_init) ++ ((wPool cI z2 f1_init) ++ ((wPool cI z1 f1_init) ++ ([(h0, .inr (0, [.ref q1, .int 0])), (q1, .inl (cP, 5, .inr (.inr (.inr (.inr (fun i => some (hq (i + 1) 0)))))))] ++ [])))))) (by simp only [List.append_nil]) ?_
  refine wk_perm (w' := (wPool cI z4 f1_init) ++ ((wPool cI z5 f1_init) ++ ((wPool cI z3 f1_init) ++ ((wPool cI z2 f1_init) ++ ((wPool cI z1 f1_init) ++ ([(h0, .inr (0, [.ref q1, .int 0])), (q1, .inl (cP, 5, .inr (.inr (.inr (.inr (fun i => some (hq (i + 1) 0)))))))] ++ ([]))))))) ((List.Perm.append_left _ (List.Perm.refl _)).trans (List.perm_append_comm_assoc _ _ _)) ?_
  refine wk_perm (w' := (wPool cI z3 f1_init) ++ ((wPool cI z4 f1_init) ++ ((wPool cI z5 f1_init) ++ ((wPool cI z2 f1_init) ++ ((wPool cI z1 f1_init) ++ ([(h0, .inr (0, [.ref q1, .int 0])), (q1, .inl (cP, 5, .inr (.inr (.inr (.inr (fun i => some (hq (i + 1) 0)))))))] ++ ([]))))))) ((List.Perm.append_left _ ((List.Perm.append_left _ (List.Perm.refl _)).trans (List.perm_append_comm_assoc _ _ _))).trans (List.perm_append_comm_assoc _ _ _)) ?_
  refine wk_perm (w' := (wPool cI z2 f1_init) ++ ((wPool cI z3 f1_init) ++ ((wPool cI z4 f1_init) ++ ((wPool cI z5 f1_init) ++ ((wPool cI z1 f1_init) ++ ([(h0, .inr (0, [.ref q1, .int 0])), (q1, .inl (cP, 5, .inr (.inr (.inr (.inr (fun i => some (hq (i + 1) 0)))))))] ++ ([]))))))) ((List.Perm.append_left _ ((List.Perm.append_left _ ((List.Perm.append_left _ (List.Perm.refl _)).trans (List.perm_append_comm_assoc _ _ _))).trans (List.perm_append_comm_assoc _ _ _))).trans (List.perm_append_comm_assoc _ _ _)) ?_
  refine wk_perm (w' := (wPool cI z1 f1_init) ++ ((wPool cI z2 f1_init) ++ ((wPool cI z3 f1_init) ++ ((wPool cI z4 f1_init) ++ ((wPool cI z5 f1_init) ++ ([(h0, .inr (0, [.ref q1, .int 0])), (q1, .inl (cP, 5, .inr (.inr (.inr (.inr (fun i => some (hq (i + 1) 0)))))))] ++ ([]))))))) ((List.Perm.append_left _ ((List.Perm.append_left _ ((List.Perm.append_left _ ((List.Perm.append_left _ (List.Perm.refl _)).trans (List.perm_append_comm_assoc _ _ _))).trans (List.perm_append_comm_assoc _ _ _))).trans (List.perm_append_comm_assoc _ _ _))).trans (List.perm_append_comm_assoc _ _ _)) ?_
  refine wk_perm (w' := [(h0, .inr (0, [.ref q1, .int 0])), (q1, .inl (cP, 5, .inr (.inr (.inr (.inr (fun i => some (hq (i + 1) 0)))))))] ++ ((wPool cI z1 f1_init) ++ ((wPool cI z2 f1_init) ++ ((wPool cI z3 f1_init) ++ ((wPool cI z4 f1_init) ++ ((wPool cI z5 f1_init) ++ ([]))))))) ((List.Perm.append_left _ ((List.Perm.append_left _ ((List.Perm.append_left _ ((List.Perm.append_left _ ((List.Perm.append_left _ (List.Perm.refl _)).trans (List.perm_append_comm_assoc _ _ _))).trans (List.perm_append_comm_assoc _ _ _))).trans (List.perm_append_comm_assoc _ _ _))).trans (List.perm_append_comm_assoc _ _ _))).trans (List.perm_append_comm_assoc _ _ _)) ?_
  refine wk_w (w' := wHist cP (adr [0, h0, q1]) hq pz ++ (wPool cI (hq 1) f1_init ++ (wPool cI (hq 2) f1_init ++ (wPool cI (hq 3) f1_init ++ (wPool cI (hq 4) f1_init ++ (wPool cI (hq 5) f1_init ++ [])))))) (by subst hE; rfl) ?_
  exact hret _ _ (adr [0, h0, q1], hq) dX0_init_38 rfl
