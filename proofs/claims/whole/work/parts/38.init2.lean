section ARQ
variable {p : Program} {l : Launch} {e : Env} {R : Room} {s : State} {m : MethodId} {args : Array Value} {below : List Frame} {meth : Method} {c : Code} {n : Nat} {D : va_G} {A : Nat → Prop} {cells slots : Nat} {Q : State → Prop} {w : va_W} {lv : List (Nat × Value)} {pc : Nat} {st : List Value}
theorem wk_arrq (k : Nat) {a N : Nat} {cA : ClassId} {f g : Nat → Option Nat} {w' : va_W} (ha : w[k]? = some (a, .inl (cA, N, .inr (.inr (.inr (.inr f)))))) (hfg : ∀ j : Nat, j < N → f j = g j) (hw : w.set k (a, .inl (cA, N, .inr (.inr (.inr (.inr g))))) = w') (kk : Wk p l e R s m args below meth c n D A cells slots Q w' lv pc st) : Wk p l e R s m args below meth c n D A cells slots Q w lv pc st := by
  subst hw
  intro H locs ls hP hD hS hl
  refine kk H locs ls (hP.set hD ha ?_ (fun _ _ => rfl)) (hD.set ha) hS hl
  have h1 : H[a]? = some (vp_cell cA (N, .inr (.inr (.inr (.inr f))))) := hP k _ ha
  show H[a]? = some (vp_cell cA (N, .inr (.inr (.inr (.inr g)))))
  rw [h1, vp_cell_q, vp_cell_q]
  have e : (fun j : Fin N => va_rf (f j.val)) = fun j : Fin N => va_rf (g j.val) := funext fun j => by rw [hfg j.val j.isLt]
  unfold arrV
  rw [e]
end ARQ
theorem wk_fr_I2 {p : Program} {l : Launch} {e : Env} {R : Room} {s : State} {m : MethodId} {args : Array Value} {below : List Frame} {meth : Method} {c : Code} {n : Nat} {D : va_G} {A : Nat → Prop} {cells slots : Nat} {Q : State → Prop} {lv : List (Nat × Value)} {pc pc' : Nat} {st rest : List Value} {cc : ByteArray} {Ts : List Cond} {own : String} {ret : Option FieldType} {tys : List (ClassId × FieldType)} {S : Type} {y : MethodName} {ws2 : List Cond} {rm2 : Room} {w0 wr : va_W} {wf : S → va_W} {b : Nat} {As : List Value} {mc ms maxL nA index : Nat} {bytes : ByteArray} {post : S → Prop} (F : Fx p s m args meth c cc n Ts own ret D tys A) (hM : CV l y ws2 rm2 D tys w0 wf (.ref b :: As) mc ms post) (cw : CallB R s args own index y bytes maxL none ws2 rm2 mc ms nA ∧ y.name = "<init>" ∧ (Cond.instanceMethod y).before args s = true) (hn : As.length = nA) (hst : st = As.reverse ++ (.ref b :: rest)) (hsum : (rest.map fun v => v.category).sum ≤ 8) (hdg : decode cc pc = .ok (.invokespecial index, 3)) (hroom : cells + mc ≤ R.cells ∧ slots + ms ≤ R.slots) (hpc : pc + 3 = pc') (kk : ∀ u : S, post u → Wk p l e R s m args below meth c n D A (cells + mc) (slots + ms) Q (wf u ++ wr) lv pc' rest) : Wk p l e R s m args below meth c n D A cells slots Q (wr ++ w0) lv pc st := wk_perm List.perm_append_comm (wk_fr_I F hM cw hn hst hsum hdg hroom hpc kk)
theorem wk_fr_IN2 {p : Program} {l : Launch} {e : Env} {R : Room} {s : State} {m : MethodId} {args : Array Value} {below : List Frame} {meth : Method} {c : Code} {n : Nat} {D : va_G} {A : Nat → Prop} {cells slots : Nat} {Q : State → Prop} {lv : List (Nat × Value)} {pc pc' : Nat} {st rest : List Value} {cc : ByteArray} {Ts : List Cond} {own : String} {ret : Option FieldType} {tys : List (ClassId × FieldType)} {S : Type} {y : MethodName} {ws2 : List Cond} {rm2 : Room} {w0 wr : va_W} {wf : S → va_W} {b : Nat} {As : List Value} {mc ms maxL nA index : Nat} {bytes : ByteArray} {host : String} {post : S → Prop} (F : Fx p s m args meth c cc n Ts own ret D tys A) (hM : CV l y ws2 rm2 D tys w0 wf (.ref b :: As) mc ms post) (cw : va_CN R s args own index y host bytes maxL none ws2 rm2 mc ms nA ∧ y.name = "<init>" ∧ (Cond.instanceMethod y).before args s = true) (hn : As.length = nA) (hst : st = As.reverse ++ (.ref b :: rest)) (hsum : (rest.map fun v => v.category).sum ≤ 8) (hdg : decode cc pc = .ok (.invokespecial index, 3)) (hroom : cells + mc ≤ R.cells ∧ slots + ms ≤ R.slots) (hpc : pc + 3 = pc') (kk : ∀ u : S, post u → Wk p l e R s m args below meth c n D A (cells + mc) (slots + ms) Q (wf u ++ wr) lv pc' rest) : Wk p l e R s m args below meth c n D A cells slots Q (wr ++ w0) lv pc st := wk_perm List.perm_append_comm (wk_callvIN_fr F hM cw hn hst hsum hdg hroom hpc kk)
set_option maxHeartbeats 4000000 in
set_option maxRecDepth 100000 in
theorem c2_init (l : Launch) (D : va_G) (cI cP : ClassId) (h0 : Nat) : CV (S := Nat → Nat) l yX2_init wsX2_init ({ frames := 3, cells := 15, slots := 479, locals := 53 } : Room) D (cty cI cP) [(h0, .inr (2, [.null, .int 0, .int 0]))] (fun z => [(h0, .inr (2, [.ref (z 0), .int 0, .int 0]))] ++ wPool cI z f1_init) [.ref h0] 15 479 (fun z => True) := by
  refine CV.of (cc := cX2_init) (maxL := 1) (own := RX2) (lv0 := [(0, .ref h0)]) pnX2 rfl rfl (Nat.le_of_ble_eq_true rfl) rfl (fun p e s m args below meth c A Q F hmn hret => ?_)
  have w_1 := F.at (x := Cond.methodLink RX2 3 objectInit) 1 rfl
  have w_2 := F.at (x := Cond.instanceMethod objectInit) 2 rfl
  have w_3 := F.at (x := Cond.code objectInit ⟨#[0xb1]⟩ 1 none) 3 rfl
  have w_4 := F.at (x := Cond.classLink RX2 9 RX1) 4 rfl
  have w_5 := F.at (x := Cond.instantiable RX1 14) 5 rfl
  have w_6 := F.at (x := Cond.initialized RX1) 6 rfl
  have w_9 := F.at (x := Cond.instanceMethod yX1_init) 9 rfl
  have w_8 := F.at (x := Cond.methodLink RX2 11 yX1_init) 8 rfl
  have w_7 := F.at (x := Cond.fieldLink RX2 12 "ThinVolumes$Rehearsal" "trial" "LThinVolumes$Pool;") 7 rfl
  have k_1 : ∀ w ∈ wsX10, w ∈ wsX2_init := fun _ h => List.mem_cons_of_mem _ (List.mem_append_left _ (List.mem_append_left _ (List.mem_append_right _ (h))))
  have k_2 : ∀ w ∈ wsX20, w ∈ wsX2_init := fun _ h => List.mem_cons_of_mem _ (List.mem_append_left _ (List.mem_append_right _ (h)))
  refine wk_aload_n F dX2_init_0 rfl 0 rfl (pc' := 1) rfl ?_
  refine wk_objInit F w_1 w_2 w_3 dX2_init_1 (Nat.le_of_ble_eq_true rfl) (Nat.le_of_ble_eq_true rfl) (pc' := 4) rfl ?_
  refine wk_aload_n F dX2_init_4 rfl 0 rfl (pc' := 5) rfl ?_
  refine wk_new (ci := 1) (fs := [.null, .null, .null, .null, .null, .null, .null, .null, .null, .null, .null, .int 0, .int 0, .int 0]) (C := RX1) (T := TX1) (N := 14) F k_1 tyX1_ok w_4 w_5 w_6 rfl (fun j hj => by rcases (show j = 0 ∨ j = 1 ∨ j = 2 ∨ j = 3 ∨ j = 4 ∨ j = 5 ∨ j = 6 ∨ j = 7 ∨ j = 8 ∨ j = 9 ∨ j = 10 ∨ j = 11 ∨ j = 12 ∨ j = 13 by omega) with rfl | rfl | rfl | rfl | rfl | rfl | rfl | rfl | rfl | rfl | rfl | rfl | rfl | rfl <;> rfl) (Nat.le_of_ble_eq_true rfl) (Nat.le_of_ble_eq_true rfl) dX2_init_5 (pc' := 8) rfl (fun q1 => ?_)
  refine wk_dup F dX2_init_8 rfl (pc' := 9) rfl ?_
  refine wk_fr_I2 F (c1_init l D cI cP q1) (cwI 0 F.hts gX2_init_X1_init rfl rfl rfl w_6 w_8 w_9 rfl hdX1_init ⟨(Nat.le_of_ble_eq_true rfl), (Nat.le_of_ble_eq_true rfl)⟩) rfl rfl (Nat.le_of_ble_eq_true rfl) dX2_init_9 ⟨(Nat.le_of_ble_eq_true rfl), (Nat.le_of_ble_eq_true rfl)⟩ (pc' := 12) rfl (fun zz hz => ?_)
  obtain ⟨z1, z2⟩ := zz
  obtain ⟨e1, e2⟩ := hz
  dsimp only at e1 e2
  subst e2
  subst e1
  refine wk_perm List.perm_append_comm ?_
  refine wk_putF (w' := [(h0, .inr (2, [.ref (z1 0), .int 0, .int 0]))] ++ (wPool cI z1 f1_init)) (C := RX2) (T := TX2) (N := 3) (ty0 := tyX2) F 0 rfl rfl k_2 tyX2_ok nmX2 0 (Nat.le_of_ble_eq_true rfl) w_7 rfl hmn rfl rfl rfl (Nat.le_of_ble_eq_true rfl) rfl dX2_init_12 (pc' := 15) rfl ?_
  exact hret _ _ z1 dX2_init_15 trivial
