section NEWS
variable {p : Program} {l : Launch} {e : Env} {R : Room} {s : State} {m : MethodId} {args : Array Value} {below : List Frame} {meth : Method} {c : Code} {n : Nat} {D : va_G} {A : Nat → Prop} {cells slots : Nat} {Q : State → Prop} {w : va_W} {lv : List (Nat × Value)} {pc pc' : Nat} {rest : List Value} {cc : ByteArray} {Ts : List Cond} {own : String} {ret : Option FieldType} {cI cP : ClassId}
theorem wk_newi (F : Fx p s m args meth c cc n Ts own ret D (cty cI cP) A) (harr : (Cond.arrayClass .int).before args s = true) {k : Int32} (N' : Nat) (hn : ¬ k < 0) (hN : k.toNatClampNeg = N') (hby : N' * 4 ≤ 536870912) (hcells : cells + 1 ≤ R.cells) (hslots : slots + N' ≤ R.slots) (hdg : decode cc pc = .ok (.newarray .int, 2)) (hpc : pc + 2 = pc') (kk : ∀ q : Nat, Wk p l e R s m args below meth c n D A (cells + 1) (slots + N') Q (w ++ [(q, .inl (cI, N', .inl (fun _ => 0)))]) lv pc' (.ref q :: rest)) : Wk p l e R s m args below meth c n D A cells slots Q w lv pc (.int k :: rest) := by
  subst hpc
  intro H locs ls hP hD hS hl
  refine va_newa (atype := .int) (a0 := (N', .inl (fun _ => 0))) F.1 F.2.1 harr rfl F.hK hP hD hS F.hA (fun _ => rfl) hn hN hby hcells hslots hdg (fun q cA H1 hK1 hP1 hD1 hS1 => ?_)
  have h1 := (F.hK.2 0 (cI, .int) rfl).2
  have h2 := (hK1.2 2 (cA, .int) rfl).2
  have e : cA = cI := Option.some.inj (h2.symm.trans h1)
  subst e
  exact kk q H1 locs ls hP1 hD1 hS1 hl
theorem wk_new (F : Fx p s m args meth c cc n Ts own ret D (cty cI cP) A) {C : String} {T : u_T} {N ci index : Nat} {ty0 : Nat → FieldType} {fs : List Value} (hin : ∀ w ∈ u_ws C T N, w ∈ Ts) (hty : ∀ k, k < N → parseFieldDescriptor (T k).2.2.1 = some (ty0 k)) (hcl : (Cond.classLink own index C).before args s = true) (hinst : (Cond.instantiable C N).before args s = true) (hini : (Cond.initialized C).before args s = true) (hc : vwCl[ci]? = some (C, T, N)) (hfs : ∀ j, j < N → defaultValue (ty0 j) = vp_V fs j) (hcells : cells + 1 ≤ R.cells) (hslots : slots + N ≤ R.slots) (hdg : decode cc pc = .ok (.new index, 3)) (hpc : pc + 3 = pc') (kk : ∀ q : Nat, Wk p l e R s m args below meth c n D A (cells + 1) (slots + N) Q (w ++ [(q, .inr (ci, fs))]) lv pc' (.ref q :: rest)) : Wk p l e R s m args below meth c n D A cells slots Q w lv pc rest := by
  subst hpc
  exact fun H locs ls hP hD hS hl => va_new F.1 F.2.1 F.hts hin ty0 hty F.hown hcl hinst hini F.hK hP hD hS F.hA hc hfs hcells hslots hdg (fun q H1 hP1 hD1 hS1 => kk q H1 locs ls hP1 hD1 hS1 hl)
theorem wk_newq (F : Fx p s m args meth c cc n Ts own ret D (cty cI cP) A) {index : Nat} (hcl : (Cond.classLink own index "ThinVolumes$Pool").before args s = true) {k : Int32} (N' : Nat) (hn : ¬ k < 0) (hN : k.toNatClampNeg = N') (hby : N' * 4 ≤ 536870912) (hcells : cells + 1 ≤ R.cells) (hslots : slots + N' ≤ R.slots) (hdg : decode cc pc = .ok (.anewarray index, 3)) (hpc : pc + 3 = pc') (kk : ∀ q : Nat, Wk p l e R s m args below meth c n D A (cells + 1) (slots + N') Q (w ++ [(q, .inl (cP, N', .inr (.inr (.inr (.inr (fun _ => none))))))]) lv pc' (.ref q :: rest)) : Wk p l e R s m args below meth c n D A cells slots Q w lv pc (.int k :: rest) := by
  subst hpc
  intro H locs ls hP hD hS hl
  refine va_newq F.1 F.2.1 F.hown hcl F.nw.2.2.2.2 F.hK hP hD hS F.hA hn hN hby hcells hslots hdg (fun q cA H1 hK1 hP1 hD1 hS1 => ?_)
  obtain ⟨kA, comp, -, -, -, h1⟩ := (F.hK.2 1 (cP, .object "ThinVolumes$Pool") rfl).2
  obtain ⟨kA2, comp2, -, -, -, h2⟩ := (hK1.2 2 (cA, .object "ThinVolumes$Pool") rfl).2
  have e : cA = cP := Option.some.inj (h2.symm.trans h1)
  subst e
  exact kk q H1 locs ls hP1 hD1 hS1 hl
theorem wk_astq (F : Fx p s m args meth c cc n Ts own ret D (cty cI cP) A) (q0 qk ci : Nat) {a v N : Nat} {vs : List Value} {T : u_T} {NN : Nat} {f g : Nat → Option Nat} {w' : va_W} (ha : w[q0]? = some (a, .inl (cP, N, .inr (.inr (.inr (.inr f)))))) (hv : w[qk]? = some (v, .inr (ci, vs))) (hc : vwCl[ci]? = some ("ThinVolumes$Pool", T, NN)) {i : Int32} (hin : vp_in i N) (hg : va_up f i.toNatClampNeg (some v) = g) (hw : w.set q0 (a, .inl (cP, N, .inr (.inr (.inr (.inr g))))) = w') (hdg : decode cc pc = .ok (.aastore, 1)) (hpc : pc + 1 = pc') (kk : Wk p l e R s m args below meth c n D A cells slots Q w' lv pc' rest) : Wk p l e R s m args below meth c n D A cells slots Q w lv pc (.ref v :: .int i :: .ref a :: rest) := by
  subst hpc hg hw
  exact fun H locs ls hP hD hS hl => va_astq (r := ("ThinVolumes$Pool", T, NN)) F.1 F.2.1 F.hK hP hD hS q0 1 qk ci ha rfl hv hc hin hdg (fun H1 locs1 hP hD hS => kk H1 locs1 ls hP hD hS hl)
theorem wk_widen {k z : Nat} (h1 : cells ≤ k) (h2 : slots ≤ z) (kk : Wk p l e R s m args below meth c n D A k z Q w lv pc rest) : Wk p l e R s m args below meth c n D A cells slots Q w lv pc rest := fun H locs ls hP hD hS hl => W.widen h1 h2 (kk H locs ls hP hD hS hl)
end NEWS
/-- the addresses of a block, in their order -/
def adr (L : List Nat) : Nat → Nat := fun k => L.getD k 0
def pz : PS := fun _ _ => 0
section INF
variable {p : Program} {l : Launch} {e : Env} {R : Room} {s : State} {m : MethodId} {args : Array Value} {below : List Frame} {meth : Method} {c : Code} {n : Nat} {D : va_G} {A : Nat → Prop} {cells slots : Nat} {Q : State → Prop} {lv : List (Nat × Value)} {pc pc' : Nat} {st rest : List Value} {cc : ByteArray} {Ts : List Cond} {own : String} {ret : Option FieldType} {tys : List (ClassId × FieldType)}
theorem wk_callvIN_fr {S : Type} {y : MethodName} {ws2 : List Cond} {rm2 : Room} {w0 wr : va_W} {wf : S → va_W} {b : Nat} {As : List Value} {mc ms maxL nA index : Nat} {bytes : ByteArray} {host : String} (F : Fx p s m args meth c cc n Ts own ret D tys A) {post : S → Prop} (hM : CV l y ws2 rm2 D tys w0 wf (.ref b :: As) mc ms post) (cw : va_CN R s args own index y host bytes maxL none ws2 rm2 mc ms nA ∧ y.name = "<init>" ∧ (Cond.instanceMethod y).before args s = true) (hn : As.length = nA) (hst : st = As.reverse ++ (.ref b :: rest)) (hsum : (rest.map fun v => v.category).sum ≤ 8) (hdg : decode cc pc = .ok (.invokespecial index, 3)) (hroom : cells + mc ≤ R.cells ∧ slots + ms ≤ R.slots) (hpc : pc + 3 = pc') (kk : ∀ u : S, post u → Wk p l e R s m args below meth c n D A (cells + mc) (slots + ms) Q (wf u ++ wr) lv pc' rest) : Wk p l e R s m args below meth c n D A cells slots Q (w0 ++ wr) lv pc st :=
  wk_callvIN (wr := wr) F hM cw (List.range w0.length) (List.range' w0.length wr.length) (fr_C _ _) (fr_R _ _) (nd_range _) (nd_range' _ _) (fr_dis _ _) hn hst hsum hdg hroom hpc (fun u h => wk_perm List.perm_append_comm (kk u h))
end INF
set_option maxHeartbeats 4000000 in
set_option maxRecDepth 100000 in
theorem c4_init (l : Launch) (D : va_G) (cI cP : ClassId) (h0 : Nat) : CV (S := (Nat → Nat) × PS) l yX4_init wsX4_init ({ frames := 1, cells := 3, slots := 30, locals := 12 } : Room) D (cty cI cP) [(h0, .inr (4, [.null, .null, .null, .int 0]))] (fun z => wWarn cI z.1 z.2) [.ref h0] 3 30 (fun z => z.1 11 = h0 ∧ z.2 = pz) := by
  refine CV.of (cc := cX4_init) (maxL := 1) (own := RX4) (lv0 := [(0, .ref h0)]) pnX4 rfl rfl (Nat.le_of_ble_eq_true rfl) rfl (fun p e s m args below meth c A Q F hmn hret => ?_)
  have w_1 := F.at (x := Cond.methodLink RX4 3 objectInit) 1 rfl
  have w_2 := F.at (x := Cond.instanceMethod objectInit) 2 rfl
  have w_3 := F.at (x := Cond.code objectInit ⟨#[0xb1]⟩ 1 none) 3 rfl
  have w_4 := F.at (x := Cond.arrayClass .int) 4 rfl
  have w_5 := F.at (x := Cond.fieldLink RX4 9 "ThinVolumes$Warnings" "kinds" "[I") 5 rfl
  have w_6 := F.at (x := Cond.fieldLink RX4 15 "ThinVolumes$Warnings" "volumes" "[I") 6 rfl
  have w_7 := F.at (x := Cond.fieldLink RX4 18 "ThinVolumes$Warnings" "available" "[I") 7 rfl
  have k_4 : ∀ w ∈ wsX40, w ∈ wsX4_init := fun _ h => List.mem_cons_of_mem _ (List.mem_append_right _ (h))
  refine wk_aload_n F dX4_init_0 rfl 0 rfl (pc' := 1) rfl ?_
  refine wk_objInit F w_1 w_2 w_3 dX4_init_1 (Nat.le_of_ble_eq_true rfl) (Nat.le_of_ble_eq_true rfl) (pc' := 4) rfl ?_
  refine wk_aload_n F dX4_init_4 rfl 0 rfl (pc' := 5) rfl ?_
  refine wk_bipush F dX4_init_5 bp_10 (pc' := 7) rfl ?_
  refine wk_newi F w_4 10 (by decide) (by decide) (Nat.le_of_ble_eq_true rfl) (Nat.le_of_ble_eq_true rfl) (Nat.le_of_ble_eq_true rfl) dX4_init_7 (pc' := 9) rfl (fun q1 => ?_)
  refine wk_w (w' := [(h0, .inr (4, [.null, .null, .null, .int 0])), (q1, .inl (cI, 10, .inl (fun _ => 0)))]) rfl ?_
  refine wk_widen (k := 1) (z := 10) (Nat.le_of_ble_eq_true rfl) (Nat.le_of_ble_eq_true rfl) ?_
  refine wk_putF (w' := [(h0, .inr (4, [.ref q1, .null, .null, .int 0])), (q1, .inl (cI, 10, .inl (fun _ => 0)))]) (C := RX4) (T := TX4) (N := 4) (ty0 := tyX4) F 0 rfl rfl k_4 tyX4_ok nmX4 0 (Nat.le_of_ble_eq_true rfl) w_5 rfl hmn rfl rfl rfl (Nat.le_of_ble_eq_true rfl) rfl dX4_init_9 (pc' := 12) rfl ?_
  refine wk_aload_n F dX4_init_12 rfl 0 rfl (pc' := 13) rfl ?_
  refine wk_bipush F dX4_init_13 bp_10 (pc' := 15) rfl ?_
  refine wk_newi F w_4 10 (by decide) (by decide) (Nat.le_of_ble_eq_true rfl) (Nat.le_of_ble_eq_true rfl) (Nat.le_of_ble_eq_true rfl) dX4_init_15 (pc' := 17) rfl (fun q2 => ?_)
  refine wk_w (w' := [(h0, .inr (4, [.ref q1, .null, .null, .int 0])), (q1, .inl (cI, 10, .inl (fun _ => 0))), (q2, .inl (cI, 10, .inl (fun _ => 0)))]) rfl ?_
  refine wk_widen (k := 2) (z := 20) (Nat.le_of_ble_eq_true rfl) (Nat.le_of_ble_eq_true rfl) ?_
  refine wk_putF (w' := [(h0, .inr (4, [.ref q1, .ref q2, .null, .int 0])), (q1, .inl (cI, 10, .inl (fun _ => 0))), (q2, .inl (cI, 10, .inl (fun _ => 0)))]) (C := RX4) (T := TX4) (N := 4) (ty0 := tyX4) F 0 rfl rfl k_4 tyX4_ok nmX4 1 (Nat.le_of_ble_eq_true rfl) w_6 rfl hmn rfl rfl rfl (Nat.le_of_ble_eq_true rfl) rfl dX4_init_17 (pc' := 20) rfl ?_
  refine wk_aload_n F dX4_init_20 rfl 0 rfl (pc' := 21) rfl ?_
  refine wk_bipush F dX4_init_21 bp_10 (pc' := 23) rfl ?_
  refine wk_newi F w_4 10 (by decide) (by decide) (Nat.le_of_ble_eq_true rfl) (Nat.le_of_ble_eq_true rfl) (Nat.le_of_ble_eq_true rfl) dX4_init_23 (pc' := 25) rfl (fun q3 => ?_)
  refine wk_w (w' := [(h0, .inr (4, [.ref q1, .ref q2, .null, .int 0])), (q1, .inl (cI, 10, .inl (fun _ => 0))), (q2, .inl (cI, 10, .inl (fun _ => 0))), (q3, .inl (cI, 10, .inl (fun _ => 0)))]) rfl ?_
  refine wk_widen (k := 3) (z := 30) (Nat.le_of_ble_eq_true rfl) (Nat.le_of_ble_eq_true rfl) ?_
  refine wk_putF (w' := [(h0, .inr (4, [.ref q1, .ref q2, .ref q3, .int 0])), (q1, .inl (cI, 10, .inl (fun _ => 0))), (q2, .inl (cI, 10, .inl (fun _ => 0))), (q3, .inl (cI, 10, .inl (fun _ => 0)))]) (C := RX4) (T := TX4) (N := 4) (ty0 := tyX4) F 0 rfl rfl k_4 tyX4_ok nmX4 2 (Nat.le_of_ble_eq_true rfl) w_7 rfl hmn rfl rfl rfl (Nat.le_of_ble_eq_true rfl) rfl dX4_init_25 (pc' := 28) rfl ?_
  refine wk_w (w' := wWarn cI (fun k => adr [h0, q1, q2, q3] (k - 11)) pz) rfl ?_
  exact hret _ _ (fun k => adr [h0, q1, q2, q3] (k - 11), pz) dX4_init_28 ⟨rfl, rfl⟩
set_option maxHeartbeats 4000000 in
set_option maxRecDepth 100000 in
theorem c3_init (l : Launch) (D : va_G) (cI cP : ClassId) (h0 : Nat) : CV (S := (Nat → Nat) × PS) l yX3_init wsX3_init ({ frames := 1, cells := 2, slots := 63, locals := 12 } : Room) D (cty cI cP) [(h0, .inr (3, [.null, .int 0, .int 0, .null, .int 0]))] (fun z => wText cI z.1 z.2) [.ref h0] 2 63 (fun z => z.1 0 = h0 ∧ z.2 = pz) := by
  refine CV.of (cc := cX3_init) (maxL := 1) (own := RX3) (lv0 := [(0, .ref h0)]) pnX3 rfl rfl (Nat.le_of_ble_eq_true rfl) rfl (fun p e s m args below meth c A Q F hmn hret => ?_)
  have w_1 := F.at (x := Cond.methodLink RX3 3 objectInit) 1 rfl
  have w_2 := F.at (x := Cond.instanceMethod objectInit) 2 rfl
  have w_3 := F.at (x := Cond.code objectInit ⟨#[0xb1]⟩ 1 none) 3 rfl
  have w_4 := F.at (x := Cond.arrayClass .int) 4 rfl
  have w_5 := F.at (x := Cond.fieldLink RX3 9 "ThinVolumes$Text" "signs" "[I") 5 rfl
  have w_6 := F.at (x := Cond.fieldLink RX3 15 "ThinVolumes$Text" "numbers" "[I") 6 rfl
  have k_3 : ∀ w ∈ wsX30, w ∈ wsX3_init := fun _ h => List.mem_cons_of_mem _ (List.mem_append_right _ (h))
  refine wk_aload_n F dX3_init_0 rfl 0 rfl (pc' := 1) rfl ?_
  refine wk_objInit F w_1 w_2 w_3 dX3_init_1 (Nat.le_of_ble_eq_true rfl) (Nat.le_of_ble_eq_true rfl) (pc' := 4) rfl ?_
  refine wk_aload_n F dX3_init_4 rfl 0 rfl (pc' := 5) rfl ?_
  refine wk_bipush F dX3_init_5 bp_60 (pc' := 7) rfl ?_
  refine wk_newi F w_4 60 (by decide) (by decide) (Nat.le_of_ble_eq_true rfl) (Nat.le_of_ble_eq_true rfl) (Nat.le_of_ble_eq_true rfl) dX3_init_7 (pc' := 9) rfl (fun q1 => ?_)
  refine wk_w (w' := [(h0, .inr (3, [.null, .int 0, .int 0, .null, .int 0])), (q1, .inl (cI, 60, .inl (fun _ => 0)))]) rfl ?_
  refine wk_widen (k := 1) (z := 60) (Nat.le_of_ble_eq_true rfl) (Nat.le_of_ble_eq_true rfl) ?_
  refine wk_putF (w' := [(h0, .inr (3, [.ref q1, .int 0, .int 0, .null, .int 0])), (q1, .inl (cI, 60, .inl (fun _ => 0)))]) (C := RX3) (T := TX3) (N := 5) (ty0 := tyX3) F 0 rfl rfl k_3 tyX3_ok nmX3 0 (Nat.le_of_ble_eq_true rfl) w_5 rfl hmn rfl rfl rfl (Nat.le_of_ble_eq_true rfl) rfl dX3_init_9 (pc' := 12) rfl ?_
  refine wk_aload_n F dX3_init_12 rfl 0 rfl (pc' := 13) rfl ?_
  refine wk_iconst F dX3_init_13 ic_3 (pc' := 14) rfl ?_
  refine wk_newi F w_4 3 (by decide) (by decide) (Nat.le_of_ble_eq_true rfl) (Nat.le_of_ble_eq_true rfl) (Nat.le_of_ble_eq_true rfl) dX3_init_14 (pc' := 16) rfl (fun q2 => ?_)
  refine wk_w (w' := [(h0, .inr (3, [.ref q1, .int 0, .int 0, .null, .int 0])), (q1, .inl (cI, 60, .inl (fun _ => 0))), (q2, .inl (cI, 3, .inl (fun _ => 0)))]) rfl ?_
  refine wk_widen (k := 2) (z := 63) (Nat.le_of_ble_eq_true rfl) (Nat.le_of_ble_eq_true rfl) ?_
  refine wk_putF (w' := [(h0, .inr (3, [.ref q1, .int 0, .int 0, .ref q2, .int 0])), (q1, .inl (cI, 60, .inl (fun _ => 0))), (q2, .inl (cI, 3, .inl (fun _ => 0)))]) (C := RX3) (T := TX3) (N := 5) (ty0 := tyX3) F 0 rfl rfl k_3 tyX3_ok nmX3 3 (Nat.le_of_ble_eq_true rfl) w_6 rfl hmn rfl rfl rfl (Nat.le_of_ble_eq_true rfl) rfl dX3_init_16 (pc' := 19) rfl ?_
  refine wk_w (w' := wText cI (adr [h0, q1, q2]) pz) rfl ?_
  exact hret _ _ (adr [h0, q1, q2], pz) dX3_init_19 ⟨rfl, rfl⟩
def f6_init : PS := (sq (wr pz 0 0 (10 : Int32)) (fun (u1 : PS) => (sq (wr u1 0 1 (4 : Int32)) (fun (u3 : PS) => (sq (wr u3 0 2 (40 : Int32)) (fun (u5 : PS) => u5))))))
set_option maxHeartbeats 4000000 in
set_option maxRecDepth 100000 in
theorem c6_init (l : Launch) (D : va_G) (cI cP : ClassId) (h0 : Nat) : CV (S := (Nat → Nat) × PS) l yX6_init wsX6_init ({ frames := 1, cells := 6, slots := 3164, locals := 12 } : Room) D (cty cI cP) [(h0, .inr (6, [.null, .null, .null, .null, .int 0, .int 0, .null, .int 0, .int 0, .int 0, .int 0, .null]))] (fun z => wMod cI z.1 z.2) [.ref h0] 6 3164 (fun z => z.1 0 = h0 ∧ z.2 = f6_init) := by
  refine CV.of (cc := cX6_init) (maxL := 1) (own := RX6) (lv0 := [(0, .ref h0)]) pnX6 rfl rfl (Nat.le_of_ble_eq_true rfl) rfl (fun p e s m args below meth c A Q F hmn hret => ?_)
  have w_1 := F.at (x := Cond.methodLink RX6 1 objectInit) 1 rfl
  have w_2 := F.at (x := Cond.instanceMethod objectInit) 2 rfl
  have w_3 := F.at (x := Cond.code objectInit ⟨#[0xb1]⟩ 1 none) 3 rfl
  have w_4 := F.at (x := Cond.arrayClass .int) 4 rfl
  have w_5 := F.at (x := Cond.fieldLink RX6 7 "ThinVolumesModel" "s" "[I") 5 rfl
  have w_6 := F.at (x := Cond.fieldLink RX6 13 "ThinVolumesModel" "past" "[I") 6 rfl
  have w_7 := F.at (x := Cond.fieldLink RX6 16 "ThinVolumesModel" "held" "[I") 7 rfl
  have w_8 := F.at (x := Cond.fieldLink RX6 19 "ThinVolumesModel" "tried" "[I") 8 rfl
  have w_9 := F.at (x := Cond.fieldLink RX6 22 "ThinVolumesModel" "text" "[I") 9 rfl
  have w_10 := F.at (x := Cond.fieldLink RX6 25 "ThinVolumesModel" "told" "[I") 10 rfl
  have k_6 : ∀ w ∈ wsX60, w ∈ wsX6_init := fun _ h => List.mem_cons_of_mem _ (List.mem_append_right _ (h))
  refine wk_aload_n F dX6_init_0 rfl 0 rfl (pc' := 1) rfl ?_
  refine wk_objInit F w_1 w_2 w_3 dX6_init_1 (Nat.le_of_ble_eq_true rfl) (Nat.le_of_ble_eq_true rfl) (pc' := 4) rfl ?_
  refine wk_aload_n F dX6_init_4 rfl 0 rfl (pc' := 5) rfl ?_
  refine wk_sipush F dX6_init_5 sp_443 (pc' := 8) rfl ?_
  refine wk_newi F w_4 443 (by decide) (by decide) (Nat.le_of_ble_eq_true rfl) (Nat.le_of_ble_eq_true rfl) (Nat.le_of_ble_eq_true rfl) dX6_init_8 (pc' := 10) rfl (fun q1 => ?_)
  refine wk_w (w' := [(h0, .inr (6, [.null, .null, .null, .null, .int 0, .int 0, .null, .int 0, .int 0, .int 0, .int 0, .null])), (q1, .inl (cI, 443, .inl (fun _ => 0)))]) rfl ?_
  refine wk_widen (k := 1) (z := 443) (Nat.le_of_ble_eq_true rfl) (Nat.le_of_ble_eq_true rfl) ?_
  refine wk_putF (w' := [(h0, .inr (6, [.ref q1, .null, .null, .null, .int 0, .int 0, .null, .int 0, .int 0, .int 0, .int 0, .null])), (q1, .inl (cI, 443, .inl (fun _ => 0)))]) (C := RX6) (T := TX6) (N := 12) (ty0 := tyX6) F 0 rfl rfl k_6 tyX6_ok nmX6 0 (Nat.le_of_ble_eq_true rfl) w_5 rfl hmn rfl rfl rfl (Nat.le_of_ble_eq_true rfl) rfl dX6_init_10 (pc' := 13) rfl ?_
  refine wk_aload_n F dX6_init_13 rfl 0 rfl (pc' := 14) rfl ?_
  refine wk_sipush F dX6_init_14 sp_1772 (pc' := 17) rfl ?_
  refine wk_newi F w_4 1772 (by decide) (by decide) (Nat.le_of_ble_eq_true rfl) (Nat.le_of_ble_eq_true rfl) (Nat.le_of_ble_eq_true rfl) dX6_init_17 (pc' := 19) rfl (fun q2 => ?_)
  refine wk_w (w' := [(h0, .inr (6, [.ref q1, .null, .null, .null, .int 0, .int 0, .null, .int 0, .int 0, .int 0, .int 0, .null])), (q1, .inl (cI, 443, .inl (fun _ => 0))), (q2, .inl (cI, 1772, .inl (fun _ => 0)))]) rfl ?_
  refine wk_widen (k := 2) (z := 2215) (Nat.le_of_ble_eq_true rfl) (Nat.le_of_ble_eq_true rfl) ?_
  refine wk_putF (w' := [(h0, .inr (6, [.ref q1, .ref q2, .null, .null, .int 0, .int 0, .null, .int 0, .int 0, .int 0, .int 0, .null])), (q1, .inl (cI, 443, .inl (fun _ => 0))), (q2, .inl (cI, 1772, .inl (fun _ => 0)))]) (C := RX6) (T := TX6) (N := 12) (ty0 := tyX6) F 0 rfl rfl k_6 tyX6_ok nmX6 1 (Nat.le_of_ble_eq_true rfl) w_6 rfl hmn rfl rfl rfl (Nat.le_of_ble_eq_true rfl) rfl dX6_init_19 (pc' := 22) rfl ?_
  refine wk_aload_n F dX6_init_22 rfl 0 rfl (pc' := 23) rfl ?_
  refine wk_sipush F dX6_init_23 sp_443 (pc' := 26) rfl ?_
  refine wk_newi F w_4 443 (by decide) (by decide) (Nat.le_of_ble_eq_true rfl) (Nat.le_of_ble_eq_true rfl) (Nat.le_of_ble_eq_true rfl) dX6_init_26 (pc' := 28) rfl (fun q3 => ?_)
  refine wk_w (w' := [(h0, .inr (6, [.ref q1, .ref q2, .null, .null, .int 0, .int 0, .null, .int 0, .int 0, .int 0, .int 0, .null])), (q1, .inl (cI, 443, .inl (fun _ => 0))), (q2, .inl (cI, 1772, .inl (fun _ => 0))), (q3, .inl (cI, 443, .inl (fun _ => 0)))]) rfl ?_
  refine wk_widen (k := 3) (z := 2658) (Nat.le_of_ble_eq_true rfl) (Nat.le_of_ble_eq_true rfl) ?_
  refine wk_putF (w' := [(h0, .inr (6, [.ref q1, .ref q2, .ref q3, .null, .int 0, .int 0, .null, .int 0, .int 0, .int 0, .int 0, .null])), (q1, .inl (cI, 443, .inl (fun _ => 0))), (q2, .inl (cI, 1772, .inl (fun _ => 0))), (q3, .inl (cI, 443, .inl (fun _ => 0)))]) (C := RX6) (T := TX6) (N := 12) (ty0 := tyX6) F 0 rfl rfl k_6 tyX6_ok nmX6 2 (Nat.le_of_ble_eq_true rfl) w_7 rfl hmn rfl rfl rfl (Nat.le_of_ble_eq_true rfl) rfl dX6_init_28 (pc' := 31) rfl ?_
  refine wk_aload_n F dX6_init_31 rfl 0 rfl (pc' := 32) rfl ?_
  refine wk_sipush F dX6_init_32 sp_443 (pc' := 35) rfl ?_
  refine wk_newi F w_4 443 (by decide) (by decide) (Nat.le_of_ble_eq_true rfl) (Nat.le_of_ble_eq_true rfl) (Nat.le_of_ble_eq_true rfl) dX6_init_35 (pc' := 37) rfl (fun q4 => ?_)
  refine wk_w (w' := [(h0, .inr (6, [.ref q1, .ref q2, .ref q3, .null, .int 0, .int 0, .null, .int 0, .int 0, .int 0, .int 0, .null])), (q1, .inl (cI, 443, .inl (fun _ => 0))), (q2, .inl (cI, 1772, .inl (fun _ => 0))), (q3, .inl (cI, 443, .inl (fun _ => 0))), (q4, .inl (cI, 443, .inl (fun _ => 0)))]) rfl ?_
  refine wk_widen (k := 4) (z := 3101) (Nat.le_of_ble_eq_true rfl) (Nat.le_of_ble_eq_true rfl) ?_
  refine wk_putF (w' := [(h0, .inr (6, [.ref q1, .ref q2, .ref q3, .ref q4, .int 0, .int 0, .null, .int 0, .int 0, .int 0, .int 0, .null])), (q1, .inl (cI, 443, .inl (fun _ => 0))), (q2, .inl (cI, 1772, .inl (fun _ => 0))), (q3, .inl (cI, 443, .inl (fun _ => 0))), (q4, .inl (cI, 443, .inl (fun _ => 0)))]) (C := RX6) (T := TX6) (N := 12) (ty0 := tyX6) F 0 rfl rfl k_6 tyX6_ok nmX6 3 (Nat.le_of_ble_eq_true rfl) w_8 rfl hmn rfl rfl rfl (Nat.le_of_ble_eq_true rfl) rfl dX6_init_37 (pc' := 40) rfl ?_
  refine wk_aload_n F dX6_init_40 rfl 0 rfl (pc' := 41) rfl ?_
  refine wk_bipush F dX6_init_41 bp_60 (pc' := 43) rfl ?_
  refine wk_newi F w_4 60 (by decide) (by decide) (Nat.le_of_ble_eq_true rfl) (Nat.le_of_ble_eq_true rfl) (Nat.le_of_ble_eq_true rfl) dX6_init_43 (pc' := 45) rfl (fun q5 => ?_)
  refine wk_w (w' := [(h0, .inr (6, [.ref q1, .ref q2, .ref q3, .ref q4, .int 0, .int 0, .null, .int 0, .int 0, .int 0, .int 0, .null])), (q1, .inl (cI, 443, .inl (fun _ => 0))), (q2, .inl (cI, 1772, .inl (fun _ => 0))), (q3, .inl (cI, 443, .inl (fun _ => 0))), (q4, .inl (cI, 443, .inl (fun _ => 0))), (q5, .inl (cI, 60, .inl (fun _ => 0)))]) rfl ?_
  refine wk_widen (k := 5) (z := 3161) (Nat.le_of_ble_eq_true rfl) (Nat.le_of_ble_eq_true rfl) ?_
  refine wk_putF (w' := [(h0, .inr (6, [.ref q1, .ref q2, .ref q3, .ref q4, .int 0, .int 0, .ref q5, .int 0, .int 0, .int 0, .int 0, .null])), (q1, .inl (cI, 443, .inl (fun _ => 0))), (q2, .inl (cI, 1772, .inl (fun _ => 0))), (q3, .inl (cI, 443, .inl (fun _ => 0))), (q4, .inl (cI, 443, .inl (fun _ => 0))), (q5, .inl (cI, 60, .inl (fun _ => 0)))]) (C := RX6) (T := TX6) (N := 12) (ty0 := tyX6) F 0 rfl rfl k_6 tyX6_ok nmX6 6 (Nat.le_of_ble_eq_true rfl) w_9 rfl hmn rfl rfl rfl (Nat.le_of_ble_eq_true rfl) rfl dX6_init_45 (pc' := 48) rfl ?_
  refine wk_aload_n F dX6_init_48 rfl 0 rfl (pc' := 49) rfl ?_
  refine wk_iconst F dX6_init_49 ic_3 (pc' := 50) rfl ?_
  refine wk_newi F w_4 3 (by decide) (by decide) (Nat.le_of_ble_eq_true rfl) (Nat.le_of_ble_eq_true rfl) (Nat.le_of_ble_eq_true rfl) dX6_init_50 (pc' := 52) rfl (fun q6 => ?_)
  refine wk_w (w' := [(h0, .inr (6, [.ref q1, .ref q2, .ref q3, .ref q4, .int 0, .int 0, .ref q5, .int 0, .int 0, .int 0, .int 0, .null])), (q1, .inl (cI, 443, .inl (fun _ => 0))), (q2, .inl (cI, 1772, .inl (fun _ => 0))), (q3, .inl (cI, 443, .inl (fun _ => 0))), (q4, .inl (cI, 443, .inl (fun _ => 0))), (q5, .inl (cI, 60, .inl (fun _ => 0))), (q6, .inl (cI, 3, .inl (fun _ => 0)))]) rfl ?_
  refine wk_widen (k := 6) (z := 3164) (Nat.le_of_ble_eq_true rfl) (Nat.le_of_ble_eq_true rfl) ?_
  refine wk_putF (w' := [(h0, .inr (6, [.ref q1, .ref q2, .ref q3, .ref q4, .int 0, .int 0, .ref q5, .int 0, .int 0, .int 0, .int 0, .ref q6])), (q1, .inl (cI, 443, .inl (fun _ => 0))), (q2, .inl (cI, 1772, .inl (fun _ => 0))), (q3, .inl (cI, 443, .inl (fun _ => 0))), (q4, .inl (cI, 443, .inl (fun _ => 0))), (q5, .inl (cI, 60, .inl (fun _ => 0))), (q6, .inl (cI, 3, .inl (fun _ => 0)))]) (C := RX6) (T := TX6) (N := 12) (ty0 := tyX6) F 0 rfl rfl k_6 tyX6_ok nmX6 11 (Nat.le_of_ble_eq_true rfl) w_10 rfl hmn rfl rfl rfl (Nat.le_of_ble_eq_true rfl) rfl dX6_init_52 (pc' := 55) rfl ?_
  refine wk_w (w' := wMod cI (adr [h0, q1, q2, q3, q4, q5, q6]) pz) rfl ?_
  generalize hE : (adr [h0, q1, q2, q3, q4, q5, q6]) = hs
  have e0 : h0 = hs 0 := by rw [← hE]; rfl
  clear hE
  subst e0
  refine wk_aload_n F dX6_init_55 rfl 0 rfl (pc' := 56) rfl ?_
  refine wk_get (C := RX6) (T := TX6) (N := 12) F 0 rfl rfl k_6 0 (Nat.le_of_ble_eq_true rfl) w_5 rfl dX6_init_56 (pc' := 59) rfl ?_
  refine wk_iconst F dX6_init_59 ic_0 (pc' := 60) rfl ?_
  refine wk_bipush F dX6_init_60 bp_10 (pc' := 62) rfl ?_
  refine wk_iastu_n (wg := wMod cI hs) (f0 := wr pz 0 0 (10 : Int32)) (i := 0) F 1 0 rfl rfl aM_0 (by omega) (Nat.le_of_ble_eq_true rfl) dX6_init_62 (pc' := 63) rfl (fun u1 h2 => ?_)
  refine wk_aload_n F dX6_init_63 rfl 0 rfl (pc' := 64) rfl ?_
  refine wk_get (C := RX6) (T := TX6) (N := 12) F 0 rfl rfl k_6 0 (Nat.le_of_ble_eq_true rfl) w_5 rfl dX6_init_64 (pc' := 67) rfl ?_
  refine wk_iconst F dX6_init_67 ic_1 (pc' := 68) rfl ?_
  refine wk_iconst F dX6_init_68 ic_4 (pc' := 69) rfl ?_
  refine wk_iastu_n (wg := wMod cI hs) (f0 := wr u1 0 1 (4 : Int32)) (i := 1) F 1 0 rfl rfl aM_0 (by omega) (Nat.le_of_ble_eq_true rfl) dX6_init_69 (pc' := 70) rfl (fun u3 h4 => ?_)
  refine wk_aload_n F dX6_init_70 rfl 0 rfl (pc' := 71) rfl ?_
  refine wk_get (C := RX6) (T := TX6) (N := 12) F 0 rfl rfl k_6 0 (Nat.le_of_ble_eq_true rfl) w_5 rfl dX6_init_71 (pc' := 74) rfl ?_
  refine wk_iconst F dX6_init_74 ic_2 (pc' := 75) rfl ?_
  refine wk_bipush F dX6_init_75 bp_40 (pc' := 77) rfl ?_
  refine wk_iastu_n (wg := wMod cI hs) (f0 := wr u3 0 2 (40 : Int32)) (i := 2) F 1 0 rfl rfl aM_0 (by omega) (Nat.le_of_ble_eq_true rfl) dX6_init_77 (pc' := 78) rfl (fun u5 h6 => ?_)
  exact hret _ _ (hs, u5) dX6_init_78 ⟨rfl, Eq.symm (by rw [f6_init] <;> exact (st_let h2 (st_let h4 (st_let h6 rfl))))⟩
def f1_init_L120 : Nat → Nat → PS → PS
  | 0, i, u => u
  | n + 1, i, u => (sq (wr u 3 i (-1 : Int32)) (fun (u1 : PS) => f1_init_L120 n (i + 1) u1))
def f1_init_L141 : Nat → Nat → PS → PS
  | 0, i, u => u
  | n + 1, i, u => (sq (wr u 6 i (-1 : Int32)) (fun (u3 : PS) => f1_init_L141 n (i + 1) u3))
def f1_init : PS := (sq (wr pz 9 0 (10 : Int32)) (fun (u5 : PS) => (sq (wr u5 9 1 (4 : Int32)) (fun (u7 : PS) => (sq (wr u7 9 2 (40 : Int32)) (fun (u9 : PS) => (sq (f1_init_L120 8 0 u9) (fun (u12 : PS) => (sq (f1_init_L141 320 0 u12) (fun (u14 : PS) => u14))))))))))
set_option maxHeartbeats 4000000 in
set_option maxRecDepth 100000 in
theorem c1_init (l : Launch) (D : va_G) (cI cP : ClassId) (h0 : Nat) : CV (S := (Nat → Nat) × PS) l yX1_init wsX1_init ({ frames := 2, cells := 14, slots := 465, locals := 32 } : Room) D (cty cI cP) [(h0, .inr (1, [.null, .null, .null, .null, .null, .null, .null, .null, .null, .null, .null, .int 0, .int 0, .int 0]))] (fun z => wPool cI z.1 z.2) [.ref h0] 14 465 (fun z => z.1 0 = h0 ∧ z.2 = f1_init) := by
  refine CV.of (cc := cX1_init) (maxL := 2) (own := RX1) (lv0 := [(0, .ref h0)]) pnX1 rfl rfl (Nat.le_of_ble_eq_true rfl) rfl (fun p e s m args below meth c A Q F hmn hret => ?_)
  have w_1 := F.at (x := Cond.methodLink RX1 3 objectInit) 1 rfl
  have w_2 := F.at (x := Cond.instanceMethod objectInit) 2 rfl
  have w_3 := F.at (x := Cond.code objectInit ⟨#[0xb1]⟩ 1 none) 3 rfl
  have w_4 := F.at (x := Cond.arrayClass .int) 4 rfl
  have w_5 := F.at (x := Cond.fieldLink RX1 9 "ThinVolumes$Pool" "sizes" "[I") 5 rfl
  have w_6 := F.at (x := Cond.fieldLink RX1 15 "ThinVolumes$Pool" "manners" "[I") 6 rfl
  have w_7 := F.at (x := Cond.fieldLink RX1 18 "ThinVolumes$Pool" "promises" "[I") 7 rfl
  have w_8 := F.at (x := Cond.fieldLink RX1 21 "ThinVolumes$Pool" "parents" "[I") 8 rfl
  have w_9 := F.at (x := Cond.fieldLink RX1 24 "ThinVolumes$Pool" "refusalsOf" "[I") 9 rfl
  have w_10 := F.at (x := Cond.fieldLink RX1 27 "ThinVolumes$Pool" "piecesGotBy" "[I") 10 rfl
  have w_11 := F.at (x := Cond.fieldLink RX1 30 "ThinVolumes$Pool" "spots" "[I") 11 rfl
  have w_12 := F.at (x := Cond.fieldLink RX1 33 "ThinVolumes$Pool" "values" "[I") 12 rfl
  have w_13 := F.at (x := Cond.fieldLink RX1 36 "ThinVolumes$Pool" "owners" "[I") 13 rfl
  have w_14 := F.at (x := Cond.fieldLink RX1 39 "ThinVolumes$Pool" "settings" "[I") 14 rfl
  have w_15 := F.at (x := Cond.classLink RX1 42 RX4) 15 rfl
  have w_16 := F.at (x := Cond.instantiable RX4 4) 16 rfl
  have w_17 := F.at (x := Cond.initialized RX4) 17 rfl
  have w_19 := F.at (x := Cond.instanceMethod yX4_init) 19 rfl
  have w_18 := F.at (x := Cond.fieldLink RX1 45 "ThinVolumes$Pool" "warnings" "LThinVolumes$Warnings;") 18 rfl
  have k_1 : ∀ w ∈ wsX10, w ∈ wsX1_init := fun _ h => List.mem_cons_of_mem _ (List.mem_append_left _ (List.mem_append_right _ (h)))
  have k_4 : ∀ w ∈ wsX40, w ∈ wsX1_init := fun _ h => List.mem_cons_of_mem _ (List.mem_append_right _ (h))
  refine wk_aload_n F dX1_init_0 rfl 0 rfl (pc' := 1) rfl ?_
  refine wk_objInit F w_1 w_2 w_3 dX1_init_1 (Nat.le_of_ble_eq_true rfl) (Nat.le_of_ble_eq_true rfl) (pc' := 4) rfl ?_
  refine wk_aload_n F dX1_init_4 rfl 0 rfl (pc' := 5) rfl ?_
  refine wk_bipush F dX1_init_5 bp_8 (pc' := 7) rfl ?_
  refine wk_newi F w_4 8 (by decide) (by decide) (Nat.le_of_ble_eq_true rfl) (Nat.le_of_ble_eq_true rfl) (Nat.le_of_ble_eq_true rfl) dX1_init_7 (pc' := 9) rfl (fun q1 => ?_)
  refine wk_w (w' := [(h0, .inr (1, [.null, .null, .null, .null, .null, .null, .null, .null, .null, .null, .null, .int 0, .int 0, .int 0])), (q1, .inl (cI, 8, .inl (fun _ => 0)))]) rfl ?_
  refine wk_widen (k := 1) (z := 8) (Nat.le_of_ble_eq_true rfl) (Nat.le_of_ble_eq_true rfl) ?_
  refine wk_putF (w' := [(h0, .inr (1, [.ref q1, .null, .null, .null, .null, .null, .null, .null, .null, .null, .null, .int 0, .int 0, .int 0])), (q1, .inl (cI, 8, .inl (fun _ => 0)))]) (C := RX1) (T := TX1) (N := 14) (ty0 := tyX1) F 0 rfl rfl k_1 tyX1_ok nmX1 0 (Nat.le_of_ble_eq_true rfl) w_5 rfl hmn rfl rfl rfl (Nat.le_of_ble_eq_true rfl) rfl dX1_init_9 (pc' := 12) rfl ?_
  refine wk_aload_n F dX1_init_12 rfl 0 rfl (pc' := 13) rfl ?_
  refine wk_bipush F dX1_init_13 bp_8 (pc' := 15) rfl ?_
  refine wk_newi F w_4 8 (by decide) (by decide) (Nat.le_of_ble_eq_true rfl) (Nat.le_of_ble_eq_true rfl) (Nat.le_of_ble_eq_true rfl) dX1_init_15 (pc' := 17) rfl (fun q2 => ?_)
  refine wk_w (w' := [(h0, .inr (1, [.ref q1, .null, .null, .null, .null, .null, .null, .null, .null, .null, .null, .int 0, .int 0, .int 0])), (q1, .inl (cI, 8, .inl (fun _ => 0))), (q2, .inl (cI, 8, .inl (fun _ => 0)))]) rfl ?_
  refine wk_widen (k := 2) (z := 16) (Nat.le_of_ble_eq_true rfl) (Nat.le_of_ble_eq_true rfl) ?_
  refine wk_putF (w' := [(h0, .inr (1, [.ref q1, .ref q2, .null, .null, .null, .null, .null, .null, .null, .null, .null, .int 0, .int 0, .int 0])), (q1, .inl (cI, 8, .inl (fun _ => 0))), (q2, .inl (cI, 8, .inl (fun _ => 0)))]) (C := RX1) (T := TX1) (N := 14) (ty0 := tyX1) F 0 rfl rfl k_1 tyX1_ok nmX1 1 (Nat.le_of_ble_eq_true rfl) w_6 rfl hmn rfl rfl rfl (Nat.le_of_ble_eq_true rfl) rfl dX1_init_17 (pc' := 20) rfl ?_
  refine wk_aload_n F dX1_init_20 rfl 0 rfl (pc' := 21) rfl ?_
  refine wk_bipush F dX1_init_21 bp_8 (pc' := 23) rfl ?_
  refine wk_newi F w_4 8 (by decide) (by decide) (Nat.le_of_ble_eq_true rfl) (Nat.le_of_ble_eq_true rfl) (Nat.le_of_ble_eq_true rfl) dX1_init_23 (pc' := 25) rfl (fun q3 => ?_)
  refine wk_w (w' := [(h0, .inr (1, [.ref q1, .ref q2, .null, .null, .null, .null, .null, .null, .null, .null, .null, .int 0, .int 0, .int 0])), (q1, .inl (cI, 8, .inl (fun _ => 0))), (q2, .inl (cI, 8, .inl (fun _ => 0))), (q3, .inl (cI, 8, .inl (fun _ => 0)))]) rfl ?_
  refine wk_widen (k := 3) (z := 24) (Nat.le_of_ble_eq_true rfl) (Nat.le_of_ble_eq_true rfl) ?_
  refine wk_putF (w' := [(h0, .inr (1, [.ref q1, .ref q2, .ref q3, .null, .null, .null, .null, .null, .null, .null, .null, .int 0, .int 0, .int 0])), (q1, .inl (cI, 8, .inl (fun _ => 0))), (q2, .inl (cI, 8, .inl (fun _ => 0))), (q3, .inl (cI, 8, .inl (fun _ => 0)))]) (C := RX1) (T := TX1) (N := 14) (ty0 := tyX1) F 0 rfl rfl k_1 tyX1_ok nmX1 2 (Nat.le_of_ble_eq_true rfl) w_7 rfl hmn rfl rfl rfl (Nat.le_of_ble_eq_true rfl) rfl dX1_init_25 (pc' := 28) rfl ?_
  refine wk_aload_n F dX1_init_28 rfl 0 rfl (pc' := 29) rfl ?_
  refine wk_bipush F dX1_init_29 bp_8 (pc' := 31) rfl ?_
  refine wk_newi F w_4 8 (by decide) (by decide) (Nat.le_of_ble_eq_true rfl) (Nat.le_of_ble_eq_true rfl) (Nat.le_of_ble_eq_true rfl) dX1_init_31 (pc' := 33) rfl (fun q4 => ?_)
  refine wk_w (w' := [(h0, .inr (1, [.ref q1, .ref q2, .ref q3, .null, .null, .null, .null, .null, .null, .null, .null, .int 0, .int 0, .int 0])), (q1, .inl (cI, 8, .inl (fun _ => 0))), (q2, .inl (cI, 8, .inl (fun _ => 0))), (q3, .inl (cI, 8, .inl (fun _ => 0))), (q4, .inl (cI, 8, .inl (fun _ => 0)))]) rfl ?_
  refine wk_widen (k := 4) (z := 32) (Nat.le_of_ble_eq_true rfl) (Nat.le_of_ble_eq_true rfl) ?_
  refine wk_putF (w' := [(h0, .inr (1, [.ref q1, .ref q2, .ref q3, .ref q4, .null, .null, .null, .null, .null, .null, .null, .int 0, .int 0, .int 0])), (q1, .inl (cI, 8, .inl (fun _ => 0))), (q2, .inl (cI, 8, .inl (fun _ => 0))), (q3, .inl (cI, 8, .inl (fun _ => 0))), (q4, .inl (cI, 8, .inl (fun _ => 0)))]) (C := RX1) (T := TX1) (N := 14) (ty0 := tyX1) F 0 rfl rfl k_1 tyX1_ok nmX1 3 (Nat.le_of_ble_eq_true rfl) w_8 rfl hmn rfl rfl rfl (Nat.le_of_ble_eq_true rfl) rfl dX1_init_33 (pc' := 36) rfl ?_
  refine wk_aload_n F dX1_init_36 rfl 0 rfl (pc' := 37) rfl ?_
  refine wk_bipush F dX1_init_37 bp_8 (pc' := 39) rfl ?_
  refine wk_newi F w_4 8 (by decide) (by decide) (Nat.le_of_ble_eq_true rfl) (Nat.le_of_ble_eq_true rfl) (Nat.le_of_ble_eq_true rfl) dX1_init_39 (pc' := 41) rfl (fun q5 => ?_)
  refine wk_w (w' := [(h0, .inr (1, [.ref q1, .ref q2, .ref q3, .ref q4, .null, .null, .null, .null, .null, .null, .null, .int 0, .int 0, .int 0])), (q1, .inl (cI, 8, .inl (fun _ => 0))), (q2, .inl (cI, 8, .inl (fun _ => 0))), (q3, .inl (cI, 8, .inl (fun _ => 0))), (q4, .inl (cI, 8, .inl (fun _ => 0))), (q5, .inl (cI, 8, .inl (fun _ => 0)))]) rfl ?_
  refine wk_widen (k := 5) (z := 40) (Nat.le_of_ble_eq_true rfl) (Nat.le_of_ble_eq_true rfl) ?_
  refine wk_putF (w' := [(h0, .inr (1, [.ref q1, .ref q2, .ref q3, .ref q4, .ref q5, .null, .null, .null, .null, .null, .null, .int 0, .int 0, .int 0])), (q1, .inl (cI, 8, .inl (fun _ => 0))), (q2, .inl (cI, 8, .inl (fun _ => 0))), (q3, .inl (cI, 8, .inl (fun _ => 0))), (q4, .inl (cI, 8, .inl (fun _ => 0))), (q5, .inl (cI, 8, .inl (fun _ => 0)))]) (C := RX1) (T := TX1) (N := 14) (ty0 := tyX1) F 0 rfl rfl k_1 tyX1_ok nmX1 4 (Nat.le_of_ble_eq_true rfl) w_9 rfl hmn rfl rfl rfl (Nat.le_of_ble_eq_true rfl) rfl dX1_init_41 (pc' := 44) rfl ?_
  refine wk_aload_n F dX1_init_44 rfl 0 rfl (pc' := 45) rfl ?_
  refine wk_bipush F dX1_init_45 bp_8 (pc' := 47) rfl ?_
  refine wk_newi F w_4 8 (by decide) (by decide) (Nat.le_of_ble_eq_true rfl) (Nat.le_of_ble_eq_true rfl) (Nat.le_of_ble_eq_true rfl) dX1_init_47 (pc' := 49) rfl (fun q6 => ?_)
  refine wk_w (w' := [(h0, .inr (1, [.ref q1, .ref q2, .ref q3, .ref q4, .ref q5, .null, .null, .null, .null, .null, .null, .int 0, .int 0, .int 0])), (q1, .inl (cI, 8, .inl (fun _ => 0))), (q2, .inl (cI, 8, .inl (fun _ => 0))), (q3, .inl (cI, 8, .inl (fun _ => 0))), (q4, .inl (cI, 8, .inl (fun _ => 0))), (q5, .inl (cI, 8, .inl (fun _ => 0))), (q6, .inl (cI, 8, .inl (fun _ => 0)))]) rfl ?_
  refine wk_widen (k := 6) (z := 48) (Nat.le_of_ble_eq_true rfl) (Nat.le_of_ble_eq_true rfl) ?_
  refine wk_putF (w' := [(h0, .inr (1, [.ref q1, .ref q2, .ref q3, .ref q4, .ref q5, .ref q6, .null, .null, .null, .null, .null, .int 0, .int 0, .int 0])), (q1, .inl (cI, 8, .inl (fun _ => 0))), (q2, .inl (cI, 8, .inl (fun _ => 0))), (q3, .inl (cI, 8, .inl (fun _ => 0))), (q4, .inl (cI, 8, .inl (fun _ => 0))), (q5, .inl (cI, 8, .inl (fun _ => 0))), (q6, .inl (cI, 8, .inl (fun _ => 0)))]) (C := RX1) (T := TX1) (N := 14) (ty0 := tyX1) F 0 rfl rfl k_1 tyX1_ok nmX1 5 (Nat.le_of_ble_eq_true rfl) w_10 rfl hmn rfl rfl rfl (Nat.le_of_ble_eq_true rfl) rfl dX1_init_49 (pc' := 52) rfl ?_
  refine wk_aload_n F dX1_init_52 rfl 0 rfl (pc' := 53) rfl ?_
  refine wk_sipush F dX1_init_53 sp_320 (pc' := 56) rfl ?_
  refine wk_newi F w_4 320 (by decide) (by decide) (Nat.le_of_ble_eq_true rfl) (Nat.le_of_ble_eq_true rfl) (Nat.le_of_ble_eq_true rfl) dX1_init_56 (pc' := 58) rfl (fun q7 => ?_)
  refine wk_w (w' := [(h0, .inr (1, [.ref q1, .ref q2, .ref q3, .ref q4, .ref q5, .ref q6, .null, .null, .null, .null, .null, .int 0, .int 0, .int 0])), (q1, .inl (cI, 8, .inl (fun _ => 0))), (q2, .inl (cI, 8, .inl (fun _ => 0))), (q3, .inl (cI, 8, .inl (fun _ => 0))), (q4, .inl (cI, 8, .inl (fun _ => 0))), (q5, .inl (cI, 8, .inl (fun _ => 0))), (q6, .inl (cI, 8, .inl (fun _ => 0))), (q7, .inl (cI, 320, .inl (fun _ => 0)))]) rfl ?_
  refine wk_widen (k := 7) (z := 368) (Nat.le_of_ble_eq_true rfl) (Nat.le_of_ble_eq_true rfl) ?_
  refine wk_putF (w' := [(h0, .inr (1, [.ref q1, .ref q2, .ref q3, .ref q4, .ref q5, .ref q6, .ref q7, .null, .null, .null, .null, .int 0, .int 0, .int 0])), (q1, .inl (cI, 8, .inl (fun _ => 0))), (q2, .inl (cI, 8, .inl (fun _ => 0))), (q3, .inl (cI, 8, .inl (fun _ => 0))), (q4, .inl (cI, 8, .inl (fun _ => 0))), (q5, .inl (cI, 8, .inl (fun _ => 0))), (q6, .inl (cI, 8, .inl (fun _ => 0))), (q7, .inl (cI, 320, .inl (fun _ => 0)))]) (C := RX1) (T := TX1) (N := 14) (ty0 := tyX1) F 0 rfl rfl k_1 tyX1_ok nmX1 6 (Nat.le_of_ble_eq_true rfl) w_11 rfl hmn rfl rfl rfl (Nat.le_of_ble_eq_true rfl) rfl dX1_init_58 (pc' := 61) rfl ?_
  refine wk_aload_n F dX1_init_61 rfl 0 rfl (pc' := 62) rfl ?_
  refine wk_bipush F dX1_init_62 bp_30 (pc' := 64) rfl ?_
  refine wk_newi F w_4 30 (by decide) (by decide) (Nat.le_of_ble_eq_true rfl) (Nat.le_of_ble_eq_true rfl) (Nat.le_of_ble_eq_true rfl) dX1_init_64 (pc' := 66) rfl (fun q8 => ?_)
  refine wk_w (w' := [(h0, .inr (1, [.ref q1, .ref q2, .ref q3, .ref q4, .ref q5, .ref q6, .ref q7, .null, .null, .null, .null, .int 0, .int 0, .int 0])), (q1, .inl (cI, 8, .inl (fun _ => 0))), (q2, .inl (cI, 8, .inl (fun _ => 0))), (q3, .inl (cI, 8, .inl (fun _ => 0))), (q4, .inl (cI, 8, .inl (fun _ => 0))), (q5, .inl (cI, 8, .inl (fun _ => 0))), (q6, .inl (cI, 8, .inl (fun _ => 0))), (q7, .inl (cI, 320, .inl (fun _ => 0))), (q8, .inl (cI, 30, .inl (fun _ => 0)))]) rfl ?_
  refine wk_widen (k := 8) (z := 398) (Nat.le_of_ble_eq_true rfl) (Nat.le_of_ble_eq_true rfl) ?_
  refine wk_putF (w' := [(h0, .inr (1, [.ref q1, .ref q2, .ref q3, .ref q4, .ref q5, .ref q6, .ref q7, .ref q8, .null, .null, .null, .int 0, .int 0, .int 0])), (q1, .inl (cI, 8, .inl (fun _ => 0))), (q2, .inl (cI, 8, .inl (fun _ => 0))), (q3, .inl (cI, 8, .inl (fun _ => 0))), (q4, .inl (cI, 8, .inl (fun _ => 0))), (q5, .inl (cI, 8, .inl (fun _ => 0))), (q6, .inl (cI, 8, .inl (fun _ => 0))), (q7, .inl (cI, 320, .inl (fun _ => 0))), (q8, .inl (cI, 30, .inl (fun _ => 0)))]) (C := RX1) (T := TX1) (N := 14) (ty0 := tyX1) F 0 rfl rfl k_1 tyX1_ok nmX1 7 (Nat.le_of_ble_eq_true rfl) w_12 rfl hmn rfl rfl rfl (Nat.le_of_ble_eq_true rfl) rfl dX1_init_66 (pc' := 69) rfl ?_
  refine wk_aload_n F dX1_init_69 rfl 0 rfl (pc' := 70) rfl ?_
  refine wk_bipush F dX1_init_70 bp_30 (pc' := 72) rfl ?_
  refine wk_newi F w_4 30 (by decide) (by decide) (Nat.le_of_ble_eq_true rfl) (Nat.le_of_ble_eq_true rfl) (Nat.le_of_ble_eq_true rfl) dX1_init_72 (pc' := 74) rfl (fun q9 => ?_)
  refine wk_w (w' := [(h0, .inr (1, [.ref q1, .ref q2, .ref q3, .ref q4, .ref q5, .ref q6, .ref q7, .ref q8, .null, .null, .null, .int 0, .int 0, .int 0])), (q1, .inl (cI, 8, .inl (fun _ => 0))), (q2, .inl (cI, 8, .inl (fun _ => 0))), (q3, .inl (cI, 8, .inl (fun _ => 0))), (q4, .inl (cI, 8, .inl (fun _ => 0))), (q5, .inl (cI, 8, .inl (fun _ => 0))), (q6, .inl (cI, 8, .inl (fun _ => 0))), (q7, .inl (cI, 320, .inl (fun _ => 0))), (q8, .inl (cI, 30, .inl (fun _ => 0))), (q9, .inl (cI, 30, .inl (fun _ => 0)))]) rfl ?_
  refine wk_widen (k := 9) (z := 428) (Nat.le_of_ble_eq_true rfl) (Nat.le_of_ble_eq_true rfl) ?_
  refine wk_putF (w' := [(h0, .inr (1, [.ref q1, .ref q2, .ref q3, .ref q4, .ref q5, .ref q6, .ref q7, .ref q8, .ref q9, .null, .null, .int 0, .int 0, .int 0])), (q1, .inl (cI, 8, .inl (fun _ => 0))), (q2, .inl (cI, 8, .inl (fun _ => 0))), (q3, .inl (cI, 8, .inl (fun _ => 0))), (q4, .inl (cI, 8, .inl (fun _ => 0))), (q5, .inl (cI, 8, .inl (fun _ => 0))), (q6, .inl (cI, 8, .inl (fun _ => 0))), (q7, .inl (cI, 320, .inl (fun _ => 0))), (q8, .inl (cI, 30, .inl (fun _ => 0))), (q9, .inl (cI, 30, .inl (fun _ => 0)))]) (C := RX1) (T := TX1) (N := 14) (ty0 := tyX1) F 0 rfl rfl k_1 tyX1_ok nmX1 8 (Nat.le_of_ble_eq_true rfl) w_13 rfl hmn rfl rfl rfl (Nat.le_of_ble_eq_true rfl) rfl dX1_init_74 (pc' := 77) rfl ?_
  refine wk_aload_n F dX1_init_77 rfl 0 rfl (pc' := 78) rfl ?_
  refine wk_iconst F dX1_init_78 ic_3 (pc' := 79) rfl ?_
  refine wk_newi F w_4 3 (by decide) (by decide) (Nat.le_of_ble_eq_true rfl) (Nat.le_of_ble_eq_true rfl) (Nat.le_of_ble_eq_true rfl) dX1_init_79 (pc' := 81) rfl (fun q10 => ?_)
  refine wk_w (w' := [(h0, .inr (1, [.ref q1, .ref q2, .ref q3, .ref q4, .ref q5, .ref q6, .ref q7, .ref q8, .ref q9, .null, .null, .int 0, .int 0, .int 0])), (q1, .inl (cI, 8, .inl (fun _ => 0))), (q2, .inl (cI, 8, .inl (fun _ => 0))), (q3, .inl (cI, 8, .inl (fun _ => 0))), (q4, .inl (cI, 8, .inl (fun _ => 0))), (q5, .inl (cI, 8, .inl (fun _ => 0))), (q6, .inl (cI, 8, .inl (fun _ => 0))), (q7, .inl (cI, 320, .inl (fun _ => 0))), (q8, .inl (cI, 30, .inl (fun _ => 0))), (q9, .inl (cI, 30, .inl (fun _ => 0))), (q10, .inl (cI, 3, .inl (fun _ => 0)))]) rfl ?_
  refine wk_widen (k := 10) (z := 431) (Nat.le_of_ble_eq_true rfl) (Nat.le_of_ble_eq_true rfl) ?_
  refine wk_putF (w' := [(h0, .inr (1, [.ref q1, .ref q2, .ref q3, .ref q4, .ref q5, .ref q6, .ref q7, .ref q8, .ref q9, .ref q10, .null, .int 0, .int 0, .int 0])), (q1, .inl (cI, 8, .inl (fun _ => 0))), (q2, .inl (cI, 8, .inl (fun _ => 0))), (q3, .inl (cI, 8, .inl (fun _ => 0))), (q4, .inl (cI, 8, .inl (fun _ => 0))), (q5, .inl (cI, 8, .inl (fun _ => 0))), (q6, .inl (cI, 8, .inl (fun _ => 0))), (q7, .inl (cI, 320, .inl (fun _ => 0))), (q8, .inl (cI, 30, .inl (fun _ => 0))), (q9, .inl (cI, 30, .inl (fun _ => 0))), (q10, .inl (cI, 3, .inl (fun _ => 0)))]) (C := RX1) (T := TX1) (N := 14) (ty0 := tyX1) F 0 rfl rfl k_1 tyX1_ok nmX1 9 (Nat.le_of_ble_eq_true rfl) w_14 rfl hmn rfl rfl rfl (Nat.le_of_ble_eq_true rfl) rfl dX1_init_81 (pc' := 84) rfl ?_
  refine wk_aload_n F dX1_init_84 rfl 0 rfl (pc' := 85) rfl ?_
  refine wk_new (ci := 4) (fs := [.null, .null, .null, .int 0]) (C := RX4) (T := TX4) (N := 4) F k_4 tyX4_ok w_15 w_16 w_17 rfl (fun j hj => by rcases (show j = 0 ∨ j = 1 ∨ j = 2 ∨ j = 3 by omega) with rfl | rfl | rfl | rfl <;> rfl) (Nat.le_of_ble_eq_true rfl) (Nat.le_of_ble_eq_true rfl) dX1_init_85 (pc' := 88) rfl (fun q11 => ?_)
  refine wk_dup F dX1_init_88 rfl (pc' := 89) rfl ?_
  refine wk_perm List.perm_append_comm ?_
  refine wk_callvIN_fr F (c4_init l D cI cP q11) ⟨va_cnB 0 F.hts gX1_init_X4_init_n44 rfl rfl rfl F.nw.1 w_17 hdX4_init ⟨Nat.le_of_ble_eq_true rfl, Nat.le_of_ble_eq_true rfl⟩, rfl, w_19⟩ rfl rfl (Nat.le_of_ble_eq_true rfl) dX1_init_89 ⟨Nat.le_of_ble_eq_true rfl, Nat.le_of_ble_eq_true rfl⟩ (pc' := 92) rfl (fun zz hz => ?_)
  obtain ⟨z1, z2⟩ := zz
  obtain ⟨e1, e2⟩ := hz
  dsimp only at e1 e2
  subst e2
  subst e1
  refine wk_perm List.perm_append_comm ?_
  refine wk_putF (w' := ([(h0, .inr (1, [.ref q1, .ref q2, .ref q3, .ref q4, .ref q5, .ref q6, .ref q7, .ref q8, .ref q9, .ref q10, .ref (z1 11), .int 0, .int 0, .int 0])), (q1, .inl (cI, 8, .inl (fun _ => 0))), (q2, .inl (cI, 8, .inl (fun _ => 0))), (q3, .inl (cI, 8, .inl (fun _ => 0))), (q4, .inl (cI, 8, .inl (fun _ => 0))), (q5, .inl (cI, 8, .inl (fun _ => 0))), (q6, .inl (cI, 8, .inl (fun _ => 0))), (q7, .inl (cI, 320, .inl (fun _ => 0))), (q8, .inl (cI, 30, .inl (fun _ => 0))), (q9, .inl (cI, 30, .inl (fun _ => 0))), (q10, .inl (cI, 3, .inl (fun _ => 0)))]) ++ (wWarn cI z1 pz)) (C := RX1) (T := TX1) (N := 14) (ty0 := tyX1) F 0 rfl rfl k_1 tyX1_ok nmX1 10 (Nat.le_of_ble_eq_true rfl) w_18 rfl hmn rfl rfl rfl (Nat.le_of_ble_eq_true rfl) rfl dX1_init_92 (pc' := 95) rfl ?_
  refine wk_w (w' := wPool cI (fun k => bif Nat.ble 11 k then z1 k else adr [h0, q1, q2, q3, q4, q5, q6, q7, q8, q9, q10] k) pz) rfl ?_
  generalize hE : (fun k => bif Nat.ble 11 k then z1 k else adr [h0, q1, q2, q3, q4, q5, q6, q7, q8, q9, q10] k) = hs
  have e0 : h0 = hs 0 := by rw [← hE]; rfl
  clear hE
  subst e0
  have L120 : ∀ (n : Nat) (i : Nat) (u : PS), i + n = 8 → (∀ (uu : PS), f1_init_L120 n i u = uu → Wk p l e ({ frames := 2, cells := 14, slots := 465, locals := 32 } : Room) s m args below meth c 2 D A 14 465 Q (wPool cI hs uu) [(0, .ref (hs 0))] 139 []) → Wk p l e ({ frames := 2, cells := 14, slots := 465, locals := 32 } : Room) s m args below meth c 2 D A 14 465 Q (wPool cI hs u) [(0, .ref (hs 0)), (1, .int (nI i))] 120 [] := by
    intro n
    induction n with
    | zero =>
      intro i u hi kx
      refine wk_iload_n F dX1_init_120 rfl 1 rfl (pc' := 121) rfl ?_
      refine wk_bipush F dX1_init_121 bp_8 (pc' := 123) rfl ?_
      refine wk_icmp_ge (tgt := 139) F dX1_init_123 (by decide) (pc' := 126) rfl (fun _ => ?_) (fun c => absurd ((nI_leI (a := 8) (b := i) (by omega) (by omega)).mpr (by omega)) c)
      refine wk_lv [0] rfl ?_
      exact kx u (by rw [f1_init_L120] <;> exact rfl)
    | succ n ih =>
      intro i u hi kx
      refine wk_iload_n F dX1_init_120 rfl 1 rfl (pc' := 121) rfl ?_
      refine wk_bipush F dX1_init_121 bp_8 (pc' := 123) rfl ?_
      refine wk_icmp_ge (tgt := 139) F dX1_init_123 (by decide) (pc' := 126) rfl (fun c => absurd ((nI_leI (a := 8) (b := i) (by omega) (by omega)).mp c) (by omega)) (fun _ => ?_)
      refine wk_aload_n F dX1_init_126 rfl 0 rfl (pc' := 127) rfl ?_
      refine wk_get (C := RX1) (T := TX1) (N := 14) F 0 rfl rfl k_1 3 (Nat.le_of_ble_eq_true rfl) w_8 rfl dX1_init_127 (pc' := 130) rfl ?_
      refine wk_iload_n F dX1_init_130 rfl 1 rfl (pc' := 131) rfl ?_
      refine wk_iconst F dX1_init_131 ic_m1 (pc' := 132) rfl ?_
      refine wk_iastu_n (wg := wPool cI hs) (f0 := wr u 3 i (-1 : Int32)) (i := i) F 4 0 rfl rfl aP_3 (by omega) (Nat.le_of_ble_eq_true rfl) dX1_init_132 (pc' := 133) rfl (fun u1 h2 => ?_)
      refine wk_iinc (k := 1) (v := nI (i + 1)) (lv' := [(1, .int (nI (i + 1))), (0, .ref (hs 0))]) F dX1_init_133 rfl (nI_inc i) (Nat.le_of_ble_eq_true rfl) rfl (pc' := 136) rfl ?_
      refine wk_goto (tgt := 120) F dX1_init_136 (by decide) ?_
      refine wk_lv [1, 0] rfl ?_
      exact ih (i + 1) u1 (by omega) (fun u_ h_ => kx u_ (Eq.trans (by rw [f1_init_L120] <;> exact (st_let h2 rfl)) h_))
  have L141 : ∀ (n : Nat) (i : Nat) (u : PS), i + n = 320 → (∀ (uu : PS), f1_init_L141 n i u = uu → Wk p l e ({ frames := 2, cells := 14, slots := 465, locals := 32 } : Room) s m args below meth c 2 D A 14 465 Q (wPool cI hs uu) [] 161 []) → Wk p l e ({ frames := 2, cells := 14, slots := 465, locals := 32 } : Room) s m args below meth c 2 D A 14 465 Q (wPool cI hs u) [(0, .ref (hs 0)), (1, .int (nI i))] 141 [] := by
    intro n
    induction n with
    | zero =>
      intro i u hi kx
      refine wk_iload_n F dX1_init_141 rfl 1 rfl (pc' := 142) rfl ?_
      refine wk_sipush F dX1_init_142 sp_320 (pc' := 145) rfl ?_
      refine wk_icmp_ge (tgt := 161) F dX1_init_145 (by decide) (pc' := 148) rfl (fun _ => ?_) (fun c => absurd ((nI_leI (a := 320) (b := i) (by omega) (by omega)).mpr (by omega)) c)
      refine wk_lv [] rfl ?_
      exact kx u (by rw [f1_init_L141] <;> exact rfl)
    | succ n ih =>
      intro i u hi kx
      refine wk_iload_n F dX1_init_141 rfl 1 rfl (pc' := 142) rfl ?_
      refine wk_sipush F dX1_init_142 sp_320 (pc' := 145) rfl ?_
      refine wk_icmp_ge (tgt := 161) F dX1_init_145 (by decide) (pc' := 148) rfl (fun c => absurd ((nI_leI (a := 320) (b := i) (by omega) (by omega)).mp c) (by omega)) (fun _ => ?_)
      refine wk_aload_n F dX1_init_148 rfl 0 rfl (pc' := 149) rfl ?_
      refine wk_get (C := RX1) (T := TX1) (N := 14) F 0 rfl rfl k_1 6 (Nat.le_of_ble_eq_true rfl) w_11 rfl dX1_init_149 (pc' := 152) rfl ?_
      refine wk_iload_n F dX1_init_152 rfl 1 rfl (pc' := 153) rfl ?_
      refine wk_iconst F dX1_init_153 ic_m1 (pc' := 154) rfl ?_
      refine wk_iastu_n (wg := wPool cI hs) (f0 := wr u 6 i (-1 : Int32)) (i := i) F 7 0 rfl rfl aP_6 (by omega) (Nat.le_of_ble_eq_true rfl) dX1_init_154 (pc' := 155) rfl (fun u3 h4 => ?_)
      refine wk_iinc (k := 1) (v := nI (i + 1)) (lv' := [(1, .int (nI (i + 1))), (0, .ref (hs 0))]) F dX1_init_155 rfl (nI_inc i) (Nat.le_of_ble_eq_true rfl) rfl (pc' := 158) rfl ?_
      refine wk_goto (tgt := 141) F dX1_init_158 (by decide) ?_
      refine wk_lv [1, 0] rfl ?_
      exact ih (i + 1) u3 (by omega) (fun u_ h_ => kx u_ (Eq.trans (by rw [f1_init_L141] <;> exact (st_let h4 rfl)) h_))
  refine wk_aload_n F dX1_init_95 rfl 0 rfl (pc' := 96) rfl ?_
  refine wk_get (C := RX1) (T := TX1) (N := 14) F 0 rfl rfl k_1 9 (Nat.le_of_ble_eq_true rfl) w_14 rfl dX1_init_96 (pc' := 99) rfl ?_
  refine wk_iconst F dX1_init_99 ic_0 (pc' := 100) rfl ?_
  refine wk_bipush F dX1_init_100 bp_10 (pc' := 102) rfl ?_
  refine wk_iastu_n (wg := wPool cI hs) (f0 := wr pz 9 0 (10 : Int32)) (i := 0) F 10 0 rfl rfl aP_9 (by omega) (Nat.le_of_ble_eq_true rfl) dX1_init_102 (pc' := 103) rfl (fun u5 h6 => ?_)
  refine wk_aload_n F dX1_init_103 rfl 0 rfl (pc' := 104) rfl ?_
  refine wk_get (C := RX1) (T := TX1) (N := 14) F 0 rfl rfl k_1 9 (Nat.le_of_ble_eq_true rfl) w_14 rfl dX1_init_104 (pc' := 107) rfl ?_
  refine wk_iconst F dX1_init_107 ic_1 (pc' := 108) rfl ?_
  refine wk_iconst F dX1_init_108 ic_4 (pc' := 109) rfl ?_
  refine wk_iastu_n (wg := wPool cI hs) (f0 := wr u5 9 1 (4 : Int32)) (i := 1) F 10 0 rfl rfl aP_9 (by omega) (Nat.le_of_ble_eq_true rfl) dX1_init_109 (pc' := 110) rfl (fun u7 h8 => ?_)
  refine wk_aload_n F dX1_init_110 rfl 0 rfl (pc' := 111) rfl ?_
  refine wk_get (C := RX1) (T := TX1) (N := 14) F 0 rfl rfl k_1 9 (Nat.le_of_ble_eq_true rfl) w_14 rfl dX1_init_111 (pc' := 114) rfl ?_
  refine wk_iconst F dX1_init_114 ic_2 (pc' := 115) rfl ?_
  refine wk_bipush F dX1_init_115 bp_40 (pc' := 117) rfl ?_
  refine wk_iastu_n (wg := wPool cI hs) (f0 := wr u7 9 2 (40 : Int32)) (i := 2) F 10 0 rfl rfl aP_9 (by omega) (Nat.le_of_ble_eq_true rfl) dX1_init_117 (pc' := 118) rfl (fun u9 h10 => ?_)
  refine wk_iconst F dX1_init_118 ic_0 (pc' := 119) rfl ?_
  refine wk_istore_n (lv' := [(1, .int (0 : Int32)), (0, .ref (hs 0))]) F dX1_init_119 rfl (Nat.le_of_ble_eq_true rfl) rfl (pc' := 120) rfl ?_
  refine wk_lv [1, 0] rfl ?_
  refine L120 8 0 u9 (by omega) (fun u12 h11 => ?_)
  refine wk_iconst F dX1_init_139 ic_0 (pc' := 140) rfl ?_
  refine wk_istore_n (lv' := [(1, .int (0 : Int32)), (0, .ref (hs 0))]) F dX1_init_140 rfl (Nat.le_of_ble_eq_true rfl) rfl (pc' := 141) rfl ?_
  refine wk_lv [1, 0] rfl ?_
  refine L141 320 0 u12 (by omega) (fun u14 h13 => ?_)
  exact hret _ _ (hs, u14) dX1_init_161 ⟨rfl, Eq.symm (by rw [f1_init] <;> exact (st_let h6 (st_let h8 (st_let h10 (st_let h11 (st_let h13 rfl))))))⟩
