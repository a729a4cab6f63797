section CW2
variable {p : Program} {l : Launch} {e : Env} {R : Room} {s : State} {m : MethodId} {args : Array Value} {below : List Frame} {meth : Method} {c : Code} {n : Nat} {D : va_G} {A : Nat → Prop} {cells slots : Nat} {Q : State → Prop} {w : va_W} {lv : List (Nat × Value)} {pc pc' : Nat} {st rest : List Value} {cc : ByteArray} {Ts : List Cond} {own : String} {ret : Option FieldType} {tys : List (ClassId × FieldType)}
variable {S : Type} {y : MethodName} {ws2 : List Cond} {rm2 : Room} {w0 wr : va_W} {wf : S → va_W} {b : Nat} {As : List Value} {mc ms maxL nA index : Nat} {bytes : ByteArray} {C : String}
theorem wk_sub_v2 {f : S} {w' : S → va_W} (F : Fx p s m args meth c cc n Ts own ret D tys A) (hM : CV l y ws2 rm2 D tys w0 wf (.ref b :: As) 0 0 (fun u => f = u)) (cw : CallW R s args own C index y bytes maxL none ws2 rm2 0 0 nA) (isC isR : List Nat) (hC : isC.map (fun i => w[i]?) = w0.map some) (hR : isR.map (fun i => w[i]?) = wr.map some) (hnC : va_nd isC = true) (hnR : va_nd isR = true) (hdis : ∀ i ∈ isR, i ∉ isC) (q0 ci : Nat) {fs : List Value} {T : u_T} {N : Nat} (hrec : w0[q0]? = some (b, .inr (ci, fs))) (hcl : vwCl[ci]? = some (C, T, N)) (hn : As.length = nA) (hst : st = As.reverse ++ (.ref b :: rest)) (hsum : (rest.map fun v => v.category).sum ≤ 8) (hdg : decode cc pc = .ok (.invokevirtual index, 3)) (hroom : cells ≤ R.cells ∧ slots ≤ R.slots) (hpc : pc + 3 = pc') (perm : List Nat) (hnp : va_nd perm = true) (hp : perm.map (fun i => (wr ++ wf f)[i]?) = (w' f).map some) (kk : ∀ u : S, f = u → Wk p l e R s m args below meth c n D A cells slots Q (w' u) lv pc' rest) : Wk p l e R s m args below meth c n D A cells slots Q w lv pc st :=
  wk_callvV F hM cw isC isR hC hR hnC hnR hdis q0 ci hrec hcl hn hst hsum hdg hroom hpc (fun u h => by rw [← h]; exact wk_pick perm hnp hp (kk f rfl))
end CW2
def f4_copyFrom (σ : PS) (τ : PS) : PS := (sq (setA σ 10 (va_cpy (τ 10) (σ 10) 0 0 10)) (fun (u1 : PS) => (sq (setA u1 11 (va_cpy (τ 11) (u1 11) 0 0 10)) (fun (u3 : PS) => (sq (setA u3 12 (va_cpy (τ 12) (u3 12) 0 0 10)) (fun (u5 : PS) => (sq (wr u5 13 3 (τ 13 3)) (fun (u7 : PS) => u7))))))))
set_option maxHeartbeats 4000000 in
set_option maxRecDepth 100000 in
theorem c4_copyFrom (l : Launch) (D : va_G) (cI cP : ClassId) (hs : Nat → Nat) (ht : Nat → Nat) (σ : PS) (τ : PS) : CV l yX4_copyFrom wsX4_copyFrom ({ frames := 1, cells := 0, slots := 0, locals := 60 } : Room) D (cty cI cP) ((wWarn cI hs σ) ++ (wWarn cI ht τ)) (fun u => wWarn cI hs u ++ wWarn cI ht τ) [.ref (hs 11), .ref (ht 11)] 0 0 (fun u => f4_copyFrom σ τ = u) := by
  refine CV.of (cc := cX4_copyFrom) (maxL := 2) (own := RX4) (lv0 := [(0, .ref (hs 11)), (1, .ref (ht 11))]) pnX4 rfl rfl (Nat.le_of_ble_eq_true rfl) rfl (fun p e s m args below meth c A Q F hmn hret => ?_)
  have w_1 := F.at (x := Cond.fieldLink RX4 9 "ThinVolumes$Warnings" "kinds" "[I") 1 rfl
  have w_2 := F.at (x := Cond.methodLink RX4 21 arraycopyName) 2 rfl
  have w_3 := F.at (x := Cond.native arraycopyName) 3 rfl
  have w_4 := F.at (x := Cond.static arraycopyName) 4 rfl
  have w_5 := F.at (x := Cond.initialized "java/lang/System") 5 rfl
  have w_6 := F.at (x := Cond.fieldLink RX4 15 "ThinVolumes$Warnings" "volumes" "[I") 6 rfl
  have w_7 := F.at (x := Cond.fieldLink RX4 18 "ThinVolumes$Warnings" "available" "[I") 7 rfl
  have w_8 := F.at (x := Cond.fieldLink RX4 27 "ThinVolumes$Warnings" "kept" "I") 8 rfl
  have k_4 : ∀ w ∈ wsX40, w ∈ wsX4_copyFrom := fun _ h => List.mem_cons_of_mem _ (List.mem_append_right _ (h))
  refine wk_aload_n F dX4_copyFrom_0 rfl 1 rfl (pc' := 1) rfl ?_
  refine wk_get (C := RX4) (T := TX4) (N := 4) F 4 rfl rfl k_4 0 (Nat.le_of_ble_eq_true rfl) w_1 rfl dX4_copyFrom_1 (pc' := 4) rfl ?_
  refine wk_iconst F dX4_copyFrom_4 ic_0 (pc' := 5) rfl ?_
  refine wk_aload_n F dX4_copyFrom_5 rfl 0 rfl (pc' := 6) rfl ?_
  refine wk_get (C := RX4) (T := TX4) (N := 4) F 0 rfl rfl k_4 0 (Nat.le_of_ble_eq_true rfl) w_1 rfl dX4_copyFrom_6 (pc' := 9) rfl ?_
  refine wk_iconst F dX4_copyFrom_9 ic_0 (pc' := 10) rfl ?_
  refine wk_bipush F dX4_copyFrom_10 bp_10 (pc' := 12) rfl ?_
  refine wk_copyiu (wg := fun z => (wWarn cI hs z) ++ (wWarn cI ht τ)) (f0 := setA σ 10 (va_cpy (τ 10) (σ 10) 0 0 10)) F 5 1 0 0 w_2 w_3 w_4 w_5 rfl rfl rfl rfl (by decide) (by decide) (by decide) (Nat.le_of_ble_eq_true rfl) (Nat.le_of_ble_eq_true rfl) (Nat.le_of_ble_eq_true rfl) (Nat.le_of_ble_eq_true rfl) rfl dX4_copyFrom_12 (pc' := 15) rfl (fun u1 h2 => ?_)
  refine wk_aload_n F dX4_copyFrom_15 rfl 1 rfl (pc' := 16) rfl ?_
  refine wk_get (C := RX4) (T := TX4) (N := 4) F 4 rfl rfl k_4 1 (Nat.le_of_ble_eq_true rfl) w_6 rfl dX4_copyFrom_16 (pc' := 19) rfl ?_
  refine wk_iconst F dX4_copyFrom_19 ic_0 (pc' := 20) rfl ?_
  refine wk_aload_n F dX4_copyFrom_20 rfl 0 rfl (pc' := 21) rfl ?_
  refine wk_get (C := RX4) (T := TX4) (N := 4) F 0 rfl rfl k_4 1 (Nat.le_of_ble_eq_true rfl) w_6 rfl dX4_copyFrom_21 (pc' := 24) rfl ?_
  refine wk_iconst F dX4_copyFrom_24 ic_0 (pc' := 25) rfl ?_
  refine wk_bipush F dX4_copyFrom_25 bp_10 (pc' := 27) rfl ?_
  refine wk_copyiu (wg := fun z => (wWarn cI hs z) ++ (wWarn cI ht τ)) (f0 := setA u1 11 (va_cpy (τ 11) (u1 11) 0 0 10)) F 6 2 0 0 w_2 w_3 w_4 w_5 rfl rfl rfl rfl (by decide) (by decide) (by decide) (Nat.le_of_ble_eq_true rfl) (Nat.le_of_ble_eq_true rfl) (Nat.le_of_ble_eq_true rfl) (Nat.le_of_ble_eq_true rfl) rfl dX4_copyFrom_27 (pc' := 30) rfl (fun u3 h4 => ?_)
  refine wk_aload_n F dX4_copyFrom_30 rfl 1 rfl (pc' := 31) rfl ?_
  refine wk_get (C := RX4) (T := TX4) (N := 4) F 4 rfl rfl k_4 2 (Nat.le_of_ble_eq_true rfl) w_7 rfl dX4_copyFrom_31 (pc' := 34) rfl ?_
  refine wk_iconst F dX4_copyFrom_34 ic_0 (pc' := 35) rfl ?_
  refine wk_aload_n F dX4_copyFrom_35 rfl 0 rfl (pc' := 36) rfl ?_
  refine wk_get (C := RX4) (T := TX4) (N := 4) F 0 rfl rfl k_4 2 (Nat.le_of_ble_eq_true rfl) w_7 rfl dX4_copyFrom_36 (pc' := 39) rfl ?_
  refine wk_iconst F dX4_copyFrom_39 ic_0 (pc' := 40) rfl ?_
  refine wk_bipush F dX4_copyFrom_40 bp_10 (pc' := 42) rfl ?_
  refine wk_copyiu (wg := fun z => (wWarn cI hs z) ++ (wWarn cI ht τ)) (f0 := setA u3 12 (va_cpy (τ 12) (u3 12) 0 0 10)) F 7 3 0 0 w_2 w_3 w_4 w_5 rfl rfl rfl rfl (by decide) (by decide) (by decide) (Nat.le_of_ble_eq_true rfl) (Nat.le_of_ble_eq_true rfl) (Nat.le_of_ble_eq_true rfl) (Nat.le_of_ble_eq_true rfl) rfl dX4_copyFrom_42 (pc' := 45) rfl (fun u5 h6 => ?_)
  refine wk_aload_n F dX4_copyFrom_45 rfl 0 rfl (pc' := 46) rfl ?_
  refine wk_aload_n F dX4_copyFrom_46 rfl 1 rfl (pc' := 47) rfl ?_
  refine wk_get (C := RX4) (T := TX4) (N := 4) F 4 rfl rfl k_4 3 (Nat.le_of_ble_eq_true rfl) w_8 rfl dX4_copyFrom_47 (pc' := 50) rfl ?_
  refine wk_putu (wg := fun z => (wWarn cI hs z) ++ (wWarn cI ht τ)) (f0 := wr u5 13 3 (τ 13 3)) (C := RX4) (T := TX4) (N := 4) (ty0 := tyX4) F 0 rfl rfl k_4 tyX4_ok nmX4 3 (Nat.le_of_ble_eq_true rfl) w_8 rfl rfl rfl (Nat.le_of_ble_eq_true rfl) rfl dX4_copyFrom_50 (pc' := 53) rfl (fun u7 h8 => ?_)
  exact hret _ _ _ dX4_copyFrom_53 (by rw [f4_copyFrom] <;> exact (st_let h2 (st_let h4 (st_let h6 (st_let h8 rfl)))))
theorem hCW2 {cI : ClassId} {hs ht : Nat → Nat} {u v : PS} : [11, 12, 13, 14, 26, 27, 28, 29].map (fun i => (wPool cI hs u ++ wPool cI ht v)[i]?) = (wWarn cI hs u ++ wWarn cI ht v).map some := rfl
theorem hRW2 {cI : ClassId} {hs ht : Nat → Nat} {u v : PS} : [0, 1, 2, 3, 4, 5, 6, 7, 8, 9, 10, 15, 16, 17, 18, 19, 20, 21, 22, 23, 24, 25].map (fun i => (wPool cI hs u ++ wPool cI ht v)[i]?) = (wPool11 cI hs u ++ wPool11 cI ht v).map some := rfl
theorem hw_cpw {cI : ClassId} {hs ht : Nat → Nat} {u v : PS} : [0, 1, 2, 3, 4, 5, 6, 7, 8, 9, 10, 22, 23, 24, 25, 11, 12, 13, 14, 15, 16, 17, 18, 19, 20, 21, 26, 27, 28, 29].map (fun i => ((wPool11 cI hs u ++ wPool11 cI ht v) ++ (wWarn cI hs (f4_copyFrom u v) ++ wWarn cI ht v))[i]?) = (wPool cI hs (f4_copyFrom u v) ++ wPool cI ht v).map some := rfl
def f1_copyFrom (σ : PS) (τ : PS) : PS := (sq (setA σ 0 (va_cpy (τ 0) (σ 0) 0 0 8)) (fun (u1 : PS) => (sq (setA u1 1 (va_cpy (τ 1) (u1 1) 0 0 8)) (fun (u3 : PS) => (sq (setA u3 2 (va_cpy (τ 2) (u3 2) 0 0 8)) (fun (u5 : PS) => (sq (setA u5 3 (va_cpy (τ 3) (u5 3) 0 0 8)) (fun (u7 : PS) => (sq (setA u7 4 (va_cpy (τ 4) (u7 4) 0 0 8)) (fun (u9 : PS) => (sq (setA u9 5 (va_cpy (τ 5) (u9 5) 0 0 8)) (fun (u11 : PS) => (sq (setA u11 6 (va_cpy (τ 6) (u11 6) 0 0 320)) (fun (u13 : PS) => (sq (setA u13 7 (va_cpy (τ 7) (u13 7) 0 0 30)) (fun (u15 : PS) => (sq (setA u15 8 (va_cpy (τ 8) (u15 8) 0 0 30)) (fun (u17 : PS) => (sq (setA u17 9 (va_cpy (τ 9) (u17 9) 0 0 3)) (fun (u19 : PS) => (sq (f4_copyFrom u19 τ) (fun (u21 : PS) => (sq (wr u21 13 0 (τ 13 0)) (fun (u23 : PS) => (sq (wr u23 13 1 (τ 13 1)) (fun (u25 : PS) => (sq (wr u25 13 2 (τ 13 2)) (fun (u27 : PS) => u27))))))))))))))))))))))))))))
set_option maxHeartbeats 4000000 in
set_option maxRecDepth 100000 in
theorem c1_copyFrom (l : Launch) (D : va_G) (cI cP : ClassId) (hs : Nat → Nat) (ht : Nat → Nat) (σ : PS) (τ : PS) : CV l yX1_copyFrom wsX1_copyFrom ({ frames := 2, cells := 0, slots := 0, locals := 81 } : Room) D (cty cI cP) ((wPool cI hs σ) ++ (wPool cI ht τ)) (fun u => wPool cI hs u ++ wPool cI ht τ) [.ref (hs 0), .ref (ht 0)] 0 0 (fun u => f1_copyFrom σ τ = u) := by
  refine CV.of (cc := cX1_copyFrom) (maxL := 2) (own := RX1) (lv0 := [(0, .ref (hs 0)), (1, .ref (ht 0))]) pnX1 rfl rfl (Nat.le_of_ble_eq_true rfl) rfl (fun p e s m args below meth c A Q F hmn hret => ?_)
  have w_1 := F.at (x := Cond.fieldLink RX1 9 "ThinVolumes$Pool" "sizes" "[I") 1 rfl
  have w_2 := F.at (x := Cond.methodLink RX1 49 arraycopyName) 2 rfl
  have w_3 := F.at (x := Cond.native arraycopyName) 3 rfl
  have w_4 := F.at (x := Cond.static arraycopyName) 4 rfl
  have w_5 := F.at (x := Cond.initialized "java/lang/System") 5 rfl
  have w_6 := F.at (x := Cond.fieldLink RX1 15 "ThinVolumes$Pool" "manners" "[I") 6 rfl
  have w_7 := F.at (x := Cond.fieldLink RX1 18 "ThinVolumes$Pool" "promises" "[I") 7 rfl
  have w_8 := F.at (x := Cond.fieldLink RX1 21 "ThinVolumes$Pool" "parents" "[I") 8 rfl
  have w_9 := F.at (x := Cond.fieldLink RX1 24 "ThinVolumes$Pool" "refusalsOf" "[I") 9 rfl
  have w_10 := F.at (x := Cond.fieldLink RX1 27 "ThinVolumes$Pool" "piecesGotBy" "[I") 10 rfl
  have w_11 := F.at (x := Cond.fieldLink RX1 30 "ThinVolumes$Pool" "spots" "[I") 11 rfl
  have w_12 := F.at (x := Cond.fieldLink RX1 33 "ThinVolumes$Pool" "values" "[I") 12 rfl
  have w_13 := F.at (x := Cond.fieldLink RX1 36 "ThinVolumes$Pool" "owners" "[I") 13 rfl
  have w_14 := F.at (x := Cond.fieldLink RX1 39 "ThinVolumes$Pool" "settings" "[I") 14 rfl
  have w_15 := F.at (x := Cond.fieldLink RX1 45 "ThinVolumes$Pool" "warnings" "LThinVolumes$Warnings;") 15 rfl
  have w_16 := F.at (x := Cond.fieldLink RX1 59 "ThinVolumes$Pool" "refusals" "I") 16 rfl
  have w_17 := F.at (x := Cond.fieldLink RX1 63 "ThinVolumes$Pool" "piecesGot" "I") 17 rfl
  have w_18 := F.at (x := Cond.fieldLink RX1 66 "ThinVolumes$Pool" "piecesFreed" "I") 18 rfl
  have k_1 : ∀ w ∈ wsX10, w ∈ wsX1_copyFrom := fun _ h => List.mem_cons_of_mem _ (List.mem_append_left _ (List.mem_append_right _ (h)))
  refine wk_aload_n F dX1_copyFrom_0 rfl 1 rfl (pc' := 1) rfl ?_
  refine wk_get (C := RX1) (T := TX1) (N := 14) F 15 rfl rfl k_1 0 (Nat.le_of_ble_eq_true rfl) w_1 rfl dX1_copyFrom_1 (pc' := 4) rfl ?_
  refine wk_iconst F dX1_copyFrom_4 ic_0 (pc' := 5) rfl ?_
  refine wk_aload_n F dX1_copyFrom_5 rfl 0 rfl (pc' := 6) rfl ?_
  refine wk_get (C := RX1) (T := TX1) (N := 14) F 0 rfl rfl k_1 0 (Nat.le_of_ble_eq_true rfl) w_1 rfl dX1_copyFrom_6 (pc' := 9) rfl ?_
  refine wk_iconst F dX1_copyFrom_9 ic_0 (pc' := 10) rfl ?_
  refine wk_bipush F dX1_copyFrom_10 bp_8 (pc' := 12) rfl ?_
  refine wk_copyiu (wg := fun z => (wPool cI hs z) ++ (wPool cI ht τ)) (f0 := setA σ 0 (va_cpy (τ 0) (σ 0) 0 0 8)) F 16 1 0 0 w_2 w_3 w_4 w_5 rfl rfl rfl rfl (by decide) (by decide) (by decide) (Nat.le_of_ble_eq_true rfl) (Nat.le_of_ble_eq_true rfl) (Nat.le_of_ble_eq_true rfl) (Nat.le_of_ble_eq_true rfl) rfl dX1_copyFrom_12 (pc' := 15) rfl (fun u1 h2 => ?_)
  refine wk_aload_n F dX1_copyFrom_15 rfl 1 rfl (pc' := 16) rfl ?_
  refine wk_get (C := RX1) (T := TX1) (N := 14) F 15 rfl rfl k_1 1 (Nat.le_of_ble_eq_true rfl) w_6 rfl dX1_copyFrom_16 (pc' := 19) rfl ?_
  refine wk_iconst F dX1_copyFrom_19 ic_0 (pc' := 20) rfl ?_
  refine wk_aload_n F dX1_copyFrom_20 rfl 0 rfl (pc' := 21) rfl ?_
  refine wk_get (C := RX1) (T := TX1) (N := 14) F 0 rfl rfl k_1 1 (Nat.le_of_ble_eq_true rfl) w_6 rfl dX1_copyFrom_21 (pc' := 24) rfl ?_
  refine wk_iconst F dX1_copyFrom_24 ic_0 (pc' := 25) rfl ?_
  refine wk_bipush F dX1_copyFrom_25 bp_8 (pc' := 27) rfl ?_
  refine wk_copyiu (wg := fun z => (wPool cI hs z) ++ (wPool cI ht τ)) (f0 := setA u1 1 (va_cpy (τ 1) (u1 1) 0 0 8)) F 17 2 0 0 w_2 w_3 w_4 w_5 rfl rfl rfl rfl (by decide) (by decide) (by decide) (Nat.le_of_ble_eq_true rfl) (Nat.le_of_ble_eq_true rfl) (Nat.le_of_ble_eq_true rfl) (Nat.le_of_ble_eq_true rfl) rfl dX1_copyFrom_27 (pc' := 30) rfl (fun u3 h4 => ?_)
  refine wk_aload_n F dX1_copyFrom_30 rfl 1 rfl (pc' := 31) rfl ?_
  refine wk_get (C := RX1) (T := TX1) (N := 14) F 15 rfl rfl k_1 2 (Nat.le_of_ble_eq_true rfl) w_7 rfl dX1_copyFrom_31 (pc' := 34) rfl ?_
  refine wk_iconst F dX1_copyFrom_34 ic_0 (pc' := 35) rfl ?_
  refine wk_aload_n F dX1_copyFrom_35 rfl 0 rfl (pc' := 36) rfl ?_
  refine wk_get (C := RX1) (T := TX1) (N := 14) F 0 rfl rfl k_1 2 (Nat.le_of_ble_eq_true rfl) w_7 rfl dX1_copyFrom_36 (pc' := 39) rfl ?_
  refine wk_iconst F dX1_copyFrom_39 ic_0 (pc' := 40) rfl ?_
  refine wk_bipush F dX1_copyFrom_40 bp_8 (pc' := 42) rfl ?_
  refine wk_copyiu (wg := fun z => (wPool cI hs z) ++ (wPool cI ht τ)) (f0 := setA u3 2 (va_cpy (τ 2) (u3 2) 0 0 8)) F 18 3 0 0 w_2 w_3 w_4 w_5 rfl rfl rfl rfl (by decide) (by decide) (by decide) (Nat.le_of_ble_eq_true rfl) (Nat.le_of_ble_eq_true rfl) (Nat.le_of_ble_eq_true rfl) (Nat.le_of_ble_eq_true rfl) rfl dX1_copyFrom_42 (pc' := 45) rfl (fun u5 h6 => ?_)
  refine wk_aload_n F dX1_copyFrom_45 rfl 1 rfl (pc' := 46) rfl ?_
  refine wk_get (C := RX1) (T := TX1) (N := 14) F 15 rfl rfl k_1 3 (Nat.le_of_ble_eq_true rfl) w_8 rfl dX1_copyFrom_46 (pc' := 49) rfl ?_
  refine wk_iconst F dX1_copyFrom_49 ic_0 (pc' := 50) rfl ?_
  refine wk_aload_n F dX1_copyFrom_50 rfl 0 rfl (pc' := 51) rfl ?_
  refine wk_get (C := RX1) (T := TX1) (N := 14) F 0 rfl rfl k_1 3 (Nat.le_of_ble_eq_true rfl) w_8 rfl dX1_copyFrom_51 (pc' := 54) rfl ?_
  refine wk_iconst F dX1_copyFrom_54 ic_0 (pc' := 55) rfl ?_
  refine wk_bipush F dX1_copyFrom_55 bp_8 (pc' := 57) rfl ?_
  refine wk_copyiu (wg := fun z => (wPool cI hs z) ++ (wPool cI ht τ)) (f0 := setA u5 3 (va_cpy (τ 3) (u5 3) 0 0 8)) F 19 4 0 0 w_2 w_3 w_4 w_5 rfl rfl rfl rfl (by decide) (by decide) (by decide) (Nat.le_of_ble_eq_true rfl) (Nat.le_of_ble_eq_true rfl) (Nat.le_of_ble_eq_true rfl) (Nat.le_of_ble_eq_true rfl) rfl dX1_copyFrom_57 (pc' := 60) rfl (fun u7 h8 => ?_)
  refine wk_aload_n F dX1_copyFrom_60 rfl 1 rfl (pc' := 61) rfl ?_
  refine wk_get (C := RX1) (T := TX1) (N := 14) F 15 rfl rfl k_1 4 (Nat.le_of_ble_eq_true rfl) w_9 rfl dX1_copyFrom_61 (pc' := 64) rfl ?_
  refine wk_iconst F dX1_copyFrom_64 ic_0 (pc' := 65) rfl ?_
  refine wk_aload_n F dX1_copyFrom_65 rfl 0 rfl (pc' := 66) rfl ?_
  refine wk_get (C := RX1) (T := TX1) (N := 14) F 0 rfl rfl k_1 4 (Nat.le_of_ble_eq_true rfl) w_9 rfl dX1_copyFrom_66 (pc' := 69) rfl ?_
  refine wk_iconst F dX1_copyFrom_69 ic_0 (pc' := 70) rfl ?_
  refine wk_bipush F dX1_copyFrom_70 bp_8 (pc' := 72) rfl ?_
  refine wk_copyiu (wg := fun z => (wPool cI hs z) ++ (wPool cI ht τ)) (f0 := setA u7 4 (va_cpy (τ 4) (u7 4) 0 0 8)) F 20 5 0 0 w_2 w_3 w_4 w_5 rfl rfl rfl rfl (by decide) (by decide) (by decide) (Nat.le_of_ble_eq_true rfl) (Nat.le_of_ble_eq_true rfl) (Nat.le_of_ble_eq_true rfl) (Nat.le_of_ble_eq_true rfl) rfl dX1_copyFrom_72 (pc' := 75) rfl (fun u9 h10 => ?_)
  refine wk_aload_n F dX1_copyFrom_75 rfl 1 rfl (pc' := 76) rfl ?_
  refine wk_get (C := RX1) (T := TX1) (N := 14) F 15 rfl rfl k_1 5 (Nat.le_of_ble_eq_true rfl) w_10 rfl dX1_copyFrom_76 (pc' := 79) rfl ?_
  refine wk_iconst F dX1_copyFrom_79 ic_0 (pc' := 80) rfl ?_
  refine wk_aload_n F dX1_copyFrom_80 rfl 0 rfl (pc' := 81) rfl ?_
  refine wk_get (C := RX1) (T := TX1) (N := 14) F 0 rfl rfl k_1 5 (Nat.le_of_ble_eq_true rfl) w_10 rfl dX1_copyFrom_81 (pc' := 84) rfl ?_
  refine wk_iconst F dX1_copyFrom_84 ic_0 (pc' := 85) rfl ?_
  refine wk_bipush F dX1_copyFrom_85 bp_8 (pc' := 87) rfl ?_
  refine wk_copyiu (wg := fun z => (wPool cI hs z) ++ (wPool cI ht τ)) (f0 := setA u9 5 (va_cpy (τ 5) (u9 5) 0 0 8)) F 21 6 0 0 w_2 w_3 w_4 w_5 rfl rfl rfl rfl (by decide) (by decide) (by decide) (Nat.le_of_ble_eq_true rfl) (Nat.le_of_ble_eq_true rfl) (Nat.le_of_ble_eq_true rfl) (Nat.le_of_ble_eq_true rfl) rfl dX1_copyFrom_87 (pc' := 90) rfl (fun u11 h12 => ?_)
  refine wk_aload_n F dX1_copyFrom_90 rfl 1 rfl (pc' := 91) rfl ?_
  refine wk_get (C := RX1) (T := TX1) (N := 14) F 15 rfl rfl k_1 6 (Nat.le_of_ble_eq_true rfl) w_11 rfl dX1_copyFrom_91 (pc' := 94) rfl ?_
  refine wk_iconst F dX1_copyFrom_94 ic_0 (pc' := 95) rfl ?_
  refine wk_aload_n F dX1_copyFrom_95 rfl 0 rfl (pc' := 96) rfl ?_
  refine wk_get (C := RX1) (T := TX1) (N := 14) F 0 rfl rfl k_1 6 (Nat.le_of_ble_eq_true rfl) w_11 rfl dX1_copyFrom_96 (pc' := 99) rfl ?_
  refine wk_iconst F dX1_copyFrom_99 ic_0 (pc' := 100) rfl ?_
  refine wk_sipush F dX1_copyFrom_100 sp_320 (pc' := 103) rfl ?_
  refine wk_copyiu (wg := fun z => (wPool cI hs z) ++ (wPool cI ht τ)) (f0 := setA u11 6 (va_cpy (τ 6) (u11 6) 0 0 320)) F 22 7 0 0 w_2 w_3 w_4 w_5 rfl rfl rfl rfl (by decide) (by decide) (by decide) (Nat.le_of_ble_eq_true rfl) (Nat.le_of_ble_eq_true rfl) (Nat.le_of_ble_eq_true rfl) (Nat.le_of_ble_eq_true rfl) rfl dX1_copyFrom_103 (pc' := 106) rfl (fun u13 h14 => ?_)
  refine wk_aload_n F dX1_copyFrom_106 rfl 1 rfl (pc' := 107) rfl ?_
  refine wk_get (C := RX1) (T := TX1) (N := 14) F 15 rfl rfl k_1 7 (Nat.le_of_ble_eq_true rfl) w_12 rfl dX1_copyFrom_107 (pc' := 110) rfl ?_
  refine wk_iconst F dX1_copyFrom_110 ic_0 (pc' := 111) rfl ?_
  refine wk_aload_n F dX1_copyFrom_111 rfl 0 rfl (pc' := 112) rfl ?_
  refine wk_get (C := RX1) (T := TX1) (N := 14) F 0 rfl rfl k_1 7 (Nat.le_of_ble_eq_true rfl) w_12 rfl dX1_copyFrom_112 (pc' := 115) rfl ?_
  refine wk_iconst F dX1_copyFrom_115 ic_0 (pc' := 116) rfl ?_
  refine wk_bipush F dX1_copyFrom_116 bp_30 (pc' := 118) rfl ?_
  refine wk_copyiu (wg := fun z => (wPool cI hs z) ++ (wPool cI ht τ)) (f0 := setA u13 7 (va_cpy (τ 7) (u13 7) 0 0 30)) F 23 8 0 0 w_2 w_3 w_4 w_5 rfl rfl rfl rfl (by decide) (by decide) (by decide) (Nat.le_of_ble_eq_true rfl) (Nat.le_of_ble_eq_true rfl) (Nat.le_of_ble_eq_true rfl) (Nat.le_of_ble_eq_true rfl) rfl dX1_copyFrom_118 (pc' := 121) rfl (fun u15 h16 => ?_)
  refine wk_aload_n F dX1_copyFrom_121 rfl 1 rfl (pc' := 122) rfl ?_
  refine wk_get (C := RX1) (T := TX1) (N := 14) F 15 rfl rfl k_1 8 (Nat.le_of_ble_eq_true rfl) w_13 rfl dX1_copyFrom_122 (pc' := 125) rfl ?_
  refine wk_iconst F dX1_copyFrom_125 ic_0 (pc' := 126) rfl ?_
  refine wk_aload_n F dX1_copyFrom_126 rfl 0 rfl (pc' := 127) rfl ?_
  refine wk_get (C := RX1) (T := TX1) (N := 14) F 0 rfl rfl k_1 8 (Nat.le_of_ble_eq_true rfl) w_13 rfl dX1_copyFrom_127 (pc' := 130) rfl ?_
  refine wk_iconst F dX1_copyFrom_130 ic_0 (pc' := 131) rfl ?_
  refine wk_bipush F dX1_copyFrom_131 bp_30 (pc' := 133) rfl ?_
  refine wk_copyiu (wg := fun z => (wPool cI hs z) ++ (wPool cI ht τ)) (f0 := setA u15 8 (va_cpy (τ 8) (u15 8) 0 0 30)) F 24 9 0 0 w_2 w_3 w_4 w_5 rfl rfl rfl rfl (by decide) (by decide) (by decide) (Nat.le_of_ble_eq_true rfl) (Nat.le_of_ble_eq_true rfl) (Nat.le_of_ble_eq_true rfl) (Nat.le_of_ble_eq_true rfl) rfl dX1_copyFrom_133 (pc' := 136) rfl (fun u17 h18 => ?_)
  refine wk_aload_n F dX1_copyFrom_136 rfl 1 rfl (pc' := 137) rfl ?_
  refine wk_get (C := RX1) (T := TX1) (N := 14) F 15 rfl rfl k_1 9 (Nat.le_of_ble_eq_true rfl) w_14 rfl dX1_copyFrom_137 (pc' := 140) rfl ?_
  refine wk_iconst F dX1_copyFrom_140 ic_0 (pc' := 141) rfl ?_
  refine wk_aload_n F dX1_copyFrom_141 rfl 0 rfl (pc' := 142) rfl ?_
  refine wk_get (C := RX1) (T := TX1) (N := 14) F 0 rfl rfl k_1 9 (Nat.le_of_ble_eq_true rfl) w_14 rfl dX1_copyFrom_142 (pc' := 145) rfl ?_
  refine wk_iconst F dX1_copyFrom_145 ic_0 (pc' := 146) rfl ?_
  refine wk_iconst F dX1_copyFrom_146 ic_3 (pc' := 147) rfl ?_
  refine wk_copyiu (wg := fun z => (wPool cI hs z) ++ (wPool cI ht τ)) (f0 := setA u17 9 (va_cpy (τ 9) (u17 9) 0 0 3)) F 25 10 0 0 w_2 w_3 w_4 w_5 rfl rfl rfl rfl (by decide) (by decide) (by decide) (Nat.le_of_ble_eq_true rfl) (Nat.le_of_ble_eq_true rfl) (Nat.le_of_ble_eq_true rfl) (Nat.le_of_ble_eq_true rfl) rfl dX1_copyFrom_147 (pc' := 150) rfl (fun u19 h20 => ?_)
  refine wk_aload_n F dX1_copyFrom_150 rfl 0 rfl (pc' := 151) rfl ?_
  refine wk_get (C := RX1) (T := TX1) (N := 14) F 0 rfl rfl k_1 10 (Nat.le_of_ble_eq_true rfl) w_15 rfl dX1_copyFrom_151 (pc' := 154) rfl ?_
  refine wk_aload_n F dX1_copyFrom_154 rfl 1 rfl (pc' := 155) rfl ?_
  refine wk_get (C := RX1) (T := TX1) (N := 14) F 15 rfl rfl k_1 10 (Nat.le_of_ble_eq_true rfl) w_15 rfl dX1_copyFrom_155 (pc' := 158) rfl ?_
  refine wk_sub_v2 (w' := fun z => wPool cI hs z ++ wPool cI ht τ) (wr := wPool11 cI hs u19 ++ wPool11 cI ht τ) F (c4_copyFrom l D cI cP hs ht u19 τ) (cwV 1 F.hts gX1_copyFrom_X4_copyFrom rfl rfl rfl hdX4_copyFrom ⟨Nat.le_of_ble_eq_true rfl, Nat.le_of_ble_eq_true rfl⟩) [11, 12, 13, 14, 26, 27, 28, 29] [0, 1, 2, 3, 4, 5, 6, 7, 8, 9, 10, 15, 16, 17, 18, 19, 20, 21, 22, 23, 24, 25] hCW2 hRW2 rfl rfl (by decide) 0 4 rfl rfl rfl rfl (Nat.le_of_ble_eq_true rfl) dX1_copyFrom_158 ⟨Nat.zero_le _, Nat.zero_le _⟩ (pc' := 161) rfl [0, 1, 2, 3, 4, 5, 6, 7, 8, 9, 10, 22, 23, 24, 25, 11, 12, 13, 14, 15, 16, 17, 18, 19, 20, 21, 26, 27, 28, 29] rfl hw_cpw (fun u21 h22 => ?_)
  refine wk_aload_n F dX1_copyFrom_161 rfl 0 rfl (pc' := 162) rfl ?_
  refine wk_aload_n F dX1_copyFrom_162 rfl 1 rfl (pc' := 163) rfl ?_
  refine wk_get (C := RX1) (T := TX1) (N := 14) F 15 rfl rfl k_1 11 (Nat.le_of_ble_eq_true rfl) w_16 rfl dX1_copyFrom_163 (pc' := 166) rfl ?_
  refine wk_putu (wg := fun z => (wPool cI hs z) ++ (wPool cI ht τ)) (f0 := wr u21 13 0 (τ 13 0)) (C := RX1) (T := TX1) (N := 14) (ty0 := tyX1) F 0 rfl rfl k_1 tyX1_ok nmX1 11 (Nat.le_of_ble_eq_true rfl) w_16 rfl rfl rfl (Nat.le_of_ble_eq_true rfl) rfl dX1_copyFrom_166 (pc' := 169) rfl (fun u23 h24 => ?_)
  refine wk_aload_n F dX1_copyFrom_169 rfl 0 rfl (pc' := 170) rfl ?_
  refine wk_aload_n F dX1_copyFrom_170 rfl 1 rfl (pc' := 171) rfl ?_
  refine wk_get (C := RX1) (T := TX1) (N := 14) F 15 rfl rfl k_1 12 (Nat.le_of_ble_eq_true rfl) w_17 rfl dX1_copyFrom_171 (pc' := 174) rfl ?_
  refine wk_putu (wg := fun z => (wPool cI hs z) ++ (wPool cI ht τ)) (f0 := wr u23 13 1 (τ 13 1)) (C := RX1) (T := TX1) (N := 14) (ty0 := tyX1) F 0 rfl rfl k_1 tyX1_ok nmX1 12 (Nat.le_of_ble_eq_true rfl) w_17 rfl rfl rfl (Nat.le_of_ble_eq_true rfl) rfl dX1_copyFrom_174 (pc' := 177) rfl (fun u25 h26 => ?_)
  refine wk_aload_n F dX1_copyFrom_177 rfl 0 rfl (pc' := 178) rfl ?_
  refine wk_aload_n F dX1_copyFrom_178 rfl 1 rfl (pc' := 179) rfl ?_
  refine wk_get (C := RX1) (T := TX1) (N := 14) F 15 rfl rfl k_1 13 (Nat.le_of_ble_eq_true rfl) w_18 rfl dX1_copyFrom_179 (pc' := 182) rfl ?_
  refine wk_putu (wg := fun z => (wPool cI hs z) ++ (wPool cI ht τ)) (f0 := wr u25 13 2 (τ 13 2)) (C := RX1) (T := TX1) (N := 14) (ty0 := tyX1) F 0 rfl rfl k_1 tyX1_ok nmX1 13 (Nat.le_of_ble_eq_true rfl) w_18 rfl rfl rfl (Nat.le_of_ble_eq_true rfl) rfl dX1_copyFrom_182 (pc' := 185) rfl (fun u27 h28 => ?_)
  exact hret _ _ _ dX1_copyFrom_185 (by rw [f1_copyFrom] <;> exact (st_let h2 (st_let h4 (st_let h6 (st_let h8 (st_let h10 (st_let h12 (st_let h14 (st_let h16 (st_let h18 (st_let h20 (st_let h22 (st_let h24 (st_let h26 (st_let h28 rfl)))))))))))))))
