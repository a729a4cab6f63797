def f6_copies_L2 : Nat → Nat → PS → PS
  | 0, i, u => u
  | n + 1, i, u => (sq (wr u 1 i (u 0 i)) (fun (u1 : PS) => f6_copies_L2 n (i + 1) u1))
def f6_copies (σ : PS) : PS := (sq (f6_copies_L2 443 0 σ) (fun (u4 : PS) => u4))
set_option maxHeartbeats 4000000 in
set_option maxRecDepth 100000 in
theorem c6_copies (l : Launch) (D : va_G) (cI cP : ClassId) (hs : Nat → Nat) (σ : PS) : CV l yX6_copies wsX6_copies ({ frames := 0, cells := 0, slots := 0, locals := 0 } : Room) D (cty cI cP) (wTwo cI hs σ) (wTwo cI hs) [.ref (hs 0), .ref (hs 1)] 0 0 (fun u => f6_copies σ = u) := by
  refine CV.of (cc := cX6_copies) (maxL := 3) (own := RX6) (lv0 := [(0, .ref (hs 0)), (1, .ref (hs 1))]) pnX6 rfl rfl (Nat.le_of_ble_eq_true rfl) rfl (fun p e s m args below meth c A Q F hmn hret => ?_)
  have L2 : ∀ (n : Nat) (i : Nat) (u : PS), i + n = 443 → (∀ (uu : PS), f6_copies_L2 n i u = uu → Wk p l e ({ frames := 0, cells := 0, slots := 0, locals := 0 } : Room) s m args below meth c 3 D A 0 0 Q (wTwo cI hs uu) [] 21 []) → Wk p l e ({ frames := 0, cells := 0, slots := 0, locals := 0 } : Room) s m args below meth c 3 D A 0 0 Q (wTwo cI hs u) [(0, .ref (hs 0)), (1, .ref (hs 1)), (2, .int (nI i))] 2 [] := by
    intro n
    induction n with
    | zero =>
      intro i u hi kx
      refine wk_iload_n F dX6_copies_2 rfl 2 rfl (pc' := 3) rfl ?_
      refine wk_sipush F dX6_copies_3 sp_443 (pc' := 6) rfl ?_
      refine wk_icmp_ge (tgt := 21) F dX6_copies_6 (by decide) (pc' := 9) rfl (fun _ => ?_) (fun c => absurd ((nI_leI (a := 443) (b := i) (by omega) (by omega)).mpr (by omega)) c)
      refine wk_lv [] rfl ?_
      exact kx u (by rw [f6_copies_L2] <;> exact rfl)
    | succ n ih =>
      intro i u hi kx
      refine wk_iload_n F dX6_copies_2 rfl 2 rfl (pc' := 3) rfl ?_
      refine wk_sipush F dX6_copies_3 sp_443 (pc' := 6) rfl ?_
      refine wk_icmp_ge (tgt := 21) F dX6_copies_6 (by decide) (pc' := 9) rfl (fun c => absurd ((nI_leI (a := 443) (b := i) (by omega) (by omega)).mp c) (by omega)) (fun _ => ?_)
      refine wk_aload_n F dX6_copies_9 rfl 1 rfl (pc' := 10) rfl ?_
      refine wk_iload_n F dX6_copies_10 rfl 2 rfl (pc' := 11) rfl ?_
      refine wk_aload_n F dX6_copies_11 rfl 0 rfl (pc' := 12) rfl ?_
      refine wk_iload_n F dX6_copies_12 rfl 2 rfl (pc' := 13) rfl ?_
      refine wk_iald_n (i := i) F 0 0 rfl rfl (by omega) (Nat.le_of_ble_eq_true rfl) dX6_copies_13 (pc' := 14) rfl ?_
      refine wk_iastu_n (wg := wTwo cI hs) (f0 := wr u 1 i (u 0 i)) (i := i) F 1 0 rfl rfl aC_1 (by omega) (Nat.le_of_ble_eq_true rfl) dX6_copies_14 (pc' := 15) rfl (fun u1 h2 => ?_)
      refine wk_iinc (k := 2) (v := nI (i + 1)) (lv' := [(2, .int (nI (i + 1))), (0, .ref (hs 0)), (1, .ref (hs 1))]) F dX6_copies_15 rfl (nI_inc i) (Nat.le_of_ble_eq_true rfl) rfl (pc' := 18) rfl ?_
      refine wk_goto (tgt := 2) F dX6_copies_18 (by decide) ?_
      refine wk_lv [1, 2, 0] rfl ?_
      exact ih (i + 1) u1 (by omega) (fun u_ h_ => kx u_ (Eq.trans (by rw [f6_copies_L2] <;> exact (st_let h2 rfl)) h_))
  refine wk_iconst F dX6_copies_0 ic_0 (pc' := 1) rfl ?_
  refine wk_istore_n (lv' := [(2, .int (0 : Int32)), (0, .ref (hs 0)), (1, .ref (hs 1))]) F dX6_copies_1 rfl (Nat.le_of_ble_eq_true rfl) rfl (pc' := 2) rfl ?_
  refine wk_lv [1, 2, 0] rfl ?_
  refine L2 443 0 σ (by omega) (fun u4 h3 => ?_)
  exact hret _ _ _ dX6_copies_21 (by rw [f6_copies] <;> exact (st_let h3 rfl))
theorem copies_L : ∀ (n i : Nat) (u : PS), i + n = 443 → f6_copies_L2 n i u 0 = u 0 ∧ ∀ k, f6_copies_L2 n i u 1 k = if i ≤ k ∧ k < 443 then u 0 k else u 1 k := by
  intro n
  induction n with
  | zero => intro i u hi; exact ⟨rfl, fun k => by rw [if_neg (by omega)]; rfl⟩
  | succ n ih =>
    intro i u hi
    obtain ⟨h0, h1⟩ := ih (i + 1) (wr u 1 i (u 0 i)) (by omega)
    refine ⟨h0.trans (wr_ne (by decide)), fun k => (h1 k).trans ?_⟩
    rw [wr_ne (by decide), wr_at]
    by_cases hk : k = i
    · subst hk
      rw [if_neg (by omega), if_pos rfl, if_pos (by omega)]
    · rw [if_neg hk]
      by_cases h2 : i ≤ k ∧ k < 443
      · rw [if_pos h2, if_pos (by omega)]
      · rw [if_neg h2, if_neg (by omega)]
theorem copies_eq {u v : PS} (h : f6_copies u = v) : v 0 = u 0 ∧ ∀ k, v 1 k = if k < 443 then u 0 k else u 1 k := by
  obtain ⟨h0, h1⟩ := copies_L 443 0 u rfl
  unfold f6_copies sq at h
  dsimp only at h
  rw [h] at h0 h1
  refine ⟨h0, fun k => (h1 k).trans ?_⟩
  by_cases h : k < 443
  · rw [if_pos h, if_pos ⟨Nat.zero_le k, h⟩]
  · rw [if_neg h, if_neg (fun q => h q.2)]
theorem okL_cpy {σ u : PS} {i j : Nat} (hj : j ≠ 0) (h : cpyR σ i j = u) (ho : okL σ) : okL u := by
  subst h; intro a ha; rw [show cpyR σ i j 0 = σ 0 from setA_ne (Ne.symm hj)]; exact ho a ha
theorem okP_cpy {σ u : PS} {i j : Nat} (hj : j ≠ 0) (h : cpyR σ i j = u) (ho : okP σ) : okP u := by
  subst h; intro a k ha hk; rw [show cpyR σ i j 0 = σ 0 from setA_ne (Ne.symm hj)]; exact ho a k ha hk
theorem wk_cp_0_2 {p : Program} {l : Launch} {e : Env} {R : Room} {s : State} {m : MethodId} {args : Array Value} {below : List Frame} {meth : Method} {c : Code} {n : Nat} {D : va_G} {A : Nat → Prop} {cells slots : Nat} {Q : State → Prop} {lv : List (Nat × Value)} {pc pc' : Nat} {rest : List Value} {cc : ByteArray} {Ts : List Cond} {own : String} {ret : Option FieldType} {cI cP : ClassId} {hs : Nat → Nat} {u : PS} {nA index : Nat} (F : Fx p s m args meth c cc n Ts own ret D (cty cI cP) A) (cw : CallB R s args own index yX6_copies cX6_copies 3 none wsX6_copies ({ frames := 0, cells := 0, slots := 0, locals := 0 } : Room) 0 0 nA ∧ (Cond.static yX6_copies).before args s = true) (hn : 2 = nA) (hsum : (rest.map fun v => v.category).sum ≤ 8) (hdg : decode cc pc = .ok (.invokestatic index, 3)) (hroom : cells ≤ R.cells ∧ slots ≤ R.slots) (hpc : pc + 3 = pc') (kk : ∀ u2 : PS, cpyR u 0 2 = u2 → Wk p l e R s m args below meth c n D A cells slots Q (wMod cI hs u2) lv pc' rest) : Wk p l e R s m args below meth c n D A cells slots Q (wMod cI hs u) lv pc (.ref (hs 3) :: .ref (hs 1) :: rest) := by
  refine wk_callvS (wr := [(hs 0, .inr (6, [.ref (hs 1), .ref (hs 2), .ref (hs 3), .ref (hs 4), .int (u 6 0), .int (u 6 1), .ref (hs 5), .int (u 6 2), .int (u 6 3), .int (u 6 4), .int (u 6 5), .ref (hs 6)])), (hs 2, .inl (cI, 1772, .inl (u 1))), (hs 4, .inl (cI, 443, .inl (u 3))), (hs 5, .inl (cI, 60, .inl (u 4))), (hs 6, .inl (cI, 3, .inl (u 5)))]) F (c6_copies l D cI cP (pair2 (hs 1) (hs 3)) (pairR (u 0) (u 2))) cw [1, 3] [0, 2, 4, 5, 6] rfl rfl rfl rfl (by decide) hn rfl hsum hdg hroom hpc (fun v h => ?_)
  obtain ⟨e0, e1⟩ := copies_eq h
  have e0 : v 0 = u 0 := e0
  have e1 : v 1 = fun k => if k < 443 then u 0 k else u 2 k := funext e1
  have e : wTwo cI (pair2 (hs 1) (hs 3)) v = [(hs 1, .inl (cI, 443, .inl (u 0))), (hs 3, .inl (cI, 443, .inl (fun k => if k < 443 then u 0 k else u 2 k)))] := by
    show [(hs 1, _), (hs 3, _)] = _
    rw [e0, e1]
  rw [e]
  exact wk_pick (w' := wMod cI hs (cpyR u 0 2)) [0, 5, 1, 6, 2, 3, 4] rfl rfl (kk _ rfl)
theorem wk_cp_2_0 {p : Program} {l : Launch} {e : Env} {R : Room} {s : State} {m : MethodId} {args : Array Value} {below : List Frame} {meth : Method} {c : Code} {n : Nat} {D : va_G} {A : Nat → Prop} {cells slots : Nat} {Q : State → Prop} {lv : List (Nat × Value)} {pc pc' : Nat} {rest : List Value} {cc : ByteArray} {Ts : List Cond} {own : String} {ret : Option FieldType} {cI cP : ClassId} {hs : Nat → Nat} {u : PS} {nA index : Nat} (F : Fx p s m args meth c cc n Ts own ret D (cty cI cP) A) (cw : CallB R s args own index yX6_copies cX6_copies 3 none wsX6_copies ({ frames := 0, cells := 0, slots := 0, locals := 0 } : Room) 0 0 nA ∧ (Cond.static yX6_copies).before args s = true) (hn : 2 = nA) (hsum : (rest.map fun v => v.category).sum ≤ 8) (hdg : decode cc pc = .ok (.invokestatic index, 3)) (hroom : cells ≤ R.cells ∧ slots ≤ R.slots) (hpc : pc + 3 = pc') (kk : ∀ u2 : PS, cpyR u 2 0 = u2 → Wk p l e R s m args below meth c n D A cells slots Q (wMod cI hs u2) lv pc' rest) : Wk p l e R s m args below meth c n D A cells slots Q (wMod cI hs u) lv pc (.ref (hs 1) :: .ref (hs 3) :: rest) := by
  refine wk_callvS (wr := [(hs 0, .inr (6, [.ref (hs 1), .ref (hs 2), .ref (hs 3), .ref (hs 4), .int (u 6 0), .int (u 6 1), .ref (hs 5), .int (u 6 2), .int (u 6 3), .int (u 6 4), .int (u 6 5), .ref (hs 6)])), (hs 2, .inl (cI, 1772, .inl (u 1))), (hs 4, .inl (cI, 443, .inl (u 3))), (hs 5, .inl (cI, 60, .inl (u 4))), (hs 6, .inl (cI, 3, .inl (u 5)))]) F (c6_copies l D cI cP (pair2 (hs 3) (hs 1)) (pairR (u 2) (u 0))) cw [3, 1] [0, 2, 4, 5, 6] rfl rfl rfl rfl (by decide) hn rfl hsum hdg hroom hpc (fun v h => ?_)
  obtain ⟨e0, e1⟩ := copies_eq h
  have e0 : v 0 = u 2 := e0
  have e1 : v 1 = fun k => if k < 443 then u 2 k else u 0 k := funext e1
  have e : wTwo cI (pair2 (hs 3) (hs 1)) v = [(hs 3, .inl (cI, 443, .inl (u 2))), (hs 1, .inl (cI, 443, .inl (fun k => if k < 443 then u 2 k else u 0 k)))] := by
    show [(hs 3, _), (hs 1, _)] = _
    rw [e0, e1]
  rw [e]
  exact wk_pick (w' := wMod cI hs (cpyR u 2 0)) [0, 6, 1, 5, 2, 3, 4] rfl rfl (kk _ rfl)
theorem wk_cp_0_3 {p : Program} {l : Launch} {e : Env} {R : Room} {s : State} {m : MethodId} {args : Array Value} {below : List Frame} {meth : Method} {c : Code} {n : Nat} {D : va_G} {A : Nat → Prop} {cells slots : Nat} {Q : State → Prop} {lv : List (Nat × Value)} {pc pc' : Nat} {rest : List Value} {cc : ByteArray} {Ts : List Cond} {own : String} {ret : Option FieldType} {cI cP : ClassId} {hs : Nat → Nat} {u : PS} {nA index : Nat} (F : Fx p s m args meth c cc n Ts own ret D (cty cI cP) A) (cw : CallB R s args own index yX6_copies cX6_copies 3 none wsX6_copies ({ frames := 0, cells := 0, slots := 0, locals := 0 } : Room) 0 0 nA ∧ (Cond.static yX6_copies).before args s = true) (hn : 2 = nA) (hsum : (rest.map fun v => v.category).sum ≤ 8) (hdg : decode cc pc = .ok (.invokestatic index, 3)) (hroom : cells ≤ R.cells ∧ slots ≤ R.slots) (hpc : pc + 3 = pc') (kk : ∀ u2 : PS, cpyR u 0 3 = u2 → Wk p l e R s m args below meth c n D A cells slots Q (wMod cI hs u2) lv pc' rest) : Wk p l e R s m args below meth c n D A cells slots Q (wMod cI hs u) lv pc (.ref (hs 4) :: .ref (hs 1) :: rest) := by
  refine wk_callvS (wr := [(hs 0, .inr (6, [.ref (hs 1), .ref (hs 2), .ref (hs 3), .ref (hs 4), .int (u 6 0), .int (u 6 1), .ref (hs 5), .int (u 6 2), .int (u 6 3), .int (u 6 4), .int (u 6 5), .ref (hs 6)])), (hs 2, .inl (cI, 1772, .inl (u 1))), (hs 3, .inl (cI, 443, .inl (u 2))), (hs 5, .inl (cI, 60, .inl (u 4))), (hs 6, .inl (cI, 3, .inl (u 5)))]) F (c6_copies l D cI cP (pair2 (hs 1) (hs 4)) (pairR (u 0) (u 3))) cw [1, 4] [0, 2, 3, 5, 6] rfl rfl rfl rfl (by decide) hn rfl hsum hdg hroom hpc (fun v h => ?_)
  obtain ⟨e0, e1⟩ := copies_eq h
  have e0 : v 0 = u 0 := e0
  have e1 : v 1 = fun k => if k < 443 then u 0 k else u 3 k := funext e1
  have e : wTwo cI (pair2 (hs 1) (hs 4)) v = [(hs 1, .inl (cI, 443, .inl (u 0))), (hs 4, .inl (cI, 443, .inl (fun k => if k < 443 then u 0 k else u 3 k)))] := by
    show [(hs 1, _), (hs 4, _)] = _
    rw [e0, e1]
  rw [e]
  exact wk_pick (w' := wMod cI hs (cpyR u 0 3)) [0, 5, 1, 2, 6, 3, 4] rfl rfl (kk _ rfl)
theorem wk_cp_3_0 {p : Program} {l : Launch} {e : Env} {R : Room} {s : State} {m : MethodId} {args : Array Value} {below : List Frame} {meth : Method} {c : Code} {n : Nat} {D : va_G} {A : Nat → Prop} {cells slots : Nat} {Q : State → Prop} {lv : List (Nat × Value)} {pc pc' : Nat} {rest : List Value} {cc : ByteArray} {Ts : List Cond} {own : String} {ret : Option FieldType} {cI cP : ClassId} {hs : Nat → Nat} {u : PS} {nA index : Nat} (F : Fx p s m args meth c cc n Ts own ret D (cty cI cP) A) (cw : CallB R s args own index yX6_copies cX6_copies 3 none wsX6_copies ({ frames := 0, cells := 0, slots := 0, locals := 0 } : Room) 0 0 nA ∧ (Cond.static yX6_copies).before args s = true) (hn : 2 = nA) (hsum : (rest.map fun v => v.category).sum ≤ 8) (hdg : decode cc pc = .ok (.invokestatic index, 3)) (hroom : cells ≤ R.cells ∧ slots ≤ R.slots) (hpc : pc + 3 = pc') (kk : ∀ u2 : PS, cpyR u 3 0 = u2 → Wk p l e R s m args below meth c n D A cells slots Q (wMod cI hs u2) lv pc' rest) : Wk p l e R s m args below meth c n D A cells slots Q (wMod cI hs u) lv pc (.ref (hs 1) :: .ref (hs 4) :: rest) := by
  refine wk_callvS (wr := [(hs 0, .inr (6, [.ref (hs 1), .ref (hs 2), .ref (hs 3), .ref (hs 4), .int (u 6 0), .int (u 6 1), .ref (hs 5), .int (u 6 2), .int (u 6 3), .int (u 6 4), .int (u 6 5), .ref (hs 6)])), (hs 2, .inl (cI, 1772, .inl (u 1))), (hs 3, .inl (cI, 443, .inl (u 2))), (hs 5, .inl (cI, 60, .inl (u 4))), (hs 6, .inl (cI, 3, .inl (u 5)))]) F (c6_copies l D cI cP (pair2 (hs 4) (hs 1)) (pairR (u 3) (u 0))) cw [4, 1] [0, 2, 3, 5, 6] rfl rfl rfl rfl (by decide) hn rfl hsum hdg hroom hpc (fun v h => ?_)
  obtain ⟨e0, e1⟩ := copies_eq h
  have e0 : v 0 = u 3 := e0
  have e1 : v 1 = fun k => if k < 443 then u 3 k else u 0 k := funext e1
  have e : wTwo cI (pair2 (hs 4) (hs 1)) v = [(hs 4, .inl (cI, 443, .inl (u 3))), (hs 1, .inl (cI, 443, .inl (fun k => if k < 443 then u 3 k else u 0 k)))] := by
    show [(hs 4, _), (hs 1, _)] = _
    rw [e0, e1]
  rw [e]
  exact wk_pick (w' := wMod cI hs (cpyR u 3 0)) [0, 6, 1, 2, 5, 3, 4] rfl rfl (kk _ rfl)
theorem undo_in {σ : PS} (h : okH σ) (c : ¬ σ 6 0 = 0) {u : PS} (h2 : wr σ 6 0 (σ 6 0 - 1) = u) : vp_in (u 6 0) 4 := by
  subst h2
  rw [wr_at, if_pos rfl]
  obtain ⟨j, hj, e⟩ := vp_in_of h (by decide)
  rw [e] at c ⊢
  obtain ⟨k, rfl⟩ : ∃ k, j = k + 1 := ⟨j - 1, by
    rcases Nat.eq_zero_or_pos j with q | q
    · exact absurd (show nI j = 0 by rw [q]; rfl) c
    · omega⟩
  rw [nI_pred]
  exact vp_in_nI (by omega) (by decide)
def f6_undo_L22 : Nat → Nat → PS → PS
  | 0, i, u => u
  | n + 1, i, u => (sq (wr u 0 i (u 1 (((443 : Int32) * (u 6 0)) + (nI i)).toNatClampNeg)) (fun (u1 : PS) => f6_undo_L22 n (i + 1) u1))
def f6_undo (σ : PS) : Int32 × PS := (if (σ 6 0) = 0 then ((-1000002 : Int32), σ) else (sq (wr σ 6 0 ((σ 6 0) - (1 : Int32))) (fun (u4 : PS) => (sq (f6_undo_L22 443 0 u4) (fun (u7 : PS) => (u7 6 0, u7))))))
set_option maxHeartbeats 4000000 in
set_option maxRecDepth 100000 in
theorem c6_undo (l : Launch) (D : va_G) (cI cP : ClassId) (hs : Nat → Nat) (σ : PS) (hs_okH : okH σ) : CI l yX6_undo wsX6_undo ({ frames := 0, cells := 0, slots := 0, locals := 0 } : Room) D (cty cI cP) (wMod cI hs σ) (wMod cI hs) [.ref (hs 0)] 0 0 (fun r u => f6_undo σ = (r, u)) := by
  refine CI.of (cc := cX6_undo) (maxL := 2) (rt := .int) (own := RX6) (lv0 := [(0, .ref (hs 0))]) pnX6 rfl rfl (Nat.le_of_ble_eq_true rfl) rfl (fun p e s m args below meth c A Q F hret => ?_)
  have w_3 := F.at (x := Cond.fieldLink RX6 7 "ThinVolumesModel" "s" "[I") 3 rfl
  have w_4 := F.at (x := Cond.fieldLink RX6 13 "ThinVolumesModel" "past" "[I") 4 rfl
  have w_1 := F.at (x := Cond.fieldLink RX6 32 "ThinVolumesModel" "pasts" "I") 1 rfl
  have w_2 := F.at (x := Cond.constant RX6 100 (-1000002)) 2 rfl
  have k_6 : ∀ w ∈ wsX60, w ∈ wsX6_undo := fun _ h => List.mem_cons_of_mem _ (List.mem_append_right _ (h))
  have L22 : ∀ (n : Nat) (i : Nat) (u : PS), i + n = 443 → vp_in (u 6 0) 4 → (∀ (uu : PS), f6_undo_L22 n i u = uu → Wk p l e ({ frames := 0, cells := 0, slots := 0, locals := 0 } : Room) s m args below meth c 2 D A 0 0 Q (wMod cI hs uu) [(0, .ref (hs 0))] 56 []) → Wk p l e ({ frames := 0, cells := 0, slots := 0, locals := 0 } : Room) s m args below meth c 2 D A 0 0 Q (wMod cI hs u) [(0, .ref (hs 0)), (1, .int (nI i))] 22 [] := by
    intro n
    induction n with
    | zero =>
      intro i u hi hv0 kx
      refine wk_iload_n F dX6_undo_22 rfl 1 rfl (pc' := 23) rfl ?_
      refine wk_sipush F dX6_undo_23 sp_443 (pc' := 26) rfl ?_
      refine wk_icmp_ge (tgt := 56) F dX6_undo_26 (by decide) (pc' := 29) rfl (fun _ => ?_) (fun c => absurd ((nI_leI (a := 443) (b := i) (by omega) (by omega)).mpr (by omega)) c)
      refine wk_lv [0] rfl ?_
      exact kx u (by rw [f6_undo_L22] <;> exact rfl)
    | succ n ih =>
      intro i u hi hv0 kx
      refine wk_iload_n F dX6_undo_22 rfl 1 rfl (pc' := 23) rfl ?_
      refine wk_sipush F dX6_undo_23 sp_443 (pc' := 26) rfl ?_
      refine wk_icmp_ge (tgt := 56) F dX6_undo_26 (by decide) (pc' := 29) rfl (fun c => absurd ((nI_leI (a := 443) (b := i) (by omega) (by omega)).mp c) (by omega)) (fun _ => ?_)
      refine wk_aload_n F dX6_undo_29 rfl 0 rfl (pc' := 30) rfl ?_
      refine wk_get (C := RX6) (T := TX6) (N := 12) F 0 rfl rfl k_6 0 (Nat.le_of_ble_eq_true rfl) w_3 rfl dX6_undo_30 (pc' := 33) rfl ?_
      refine wk_iload_n F dX6_undo_33 rfl 1 rfl (pc' := 34) rfl ?_
      refine wk_aload_n F dX6_undo_34 rfl 0 rfl (pc' := 35) rfl ?_
      refine wk_get (C := RX6) (T := TX6) (N := 12) F 0 rfl rfl k_6 1 (Nat.le_of_ble_eq_true rfl) w_4 rfl dX6_undo_35 (pc' := 38) rfl ?_
      refine wk_sipush F dX6_undo_38 sp_443 (pc' := 41) rfl ?_
      refine wk_aload_n F dX6_undo_41 rfl 0 rfl (pc' := 42) rfl ?_
      refine wk_get (C := RX6) (T := TX6) (N := 12) F 0 rfl rfl k_6 4 (Nat.le_of_ble_eq_true rfl) w_1 rfl dX6_undo_42 (pc' := 45) rfl ?_
      refine wk_imul F dX6_undo_45 (pc' := 46) rfl ?_
      refine wk_iload_n F dX6_undo_46 rfl 1 rfl (pc' := 47) rfl ?_
      refine wk_iadd F dX6_undo_47 (pc' := 48) rfl ?_
      refine wk_iald F 2 0 rfl rfl (ix_past hv0 (by omega)) dX6_undo_48 (pc' := 49) rfl ?_
      refine wk_iastu_n (wg := wMod cI hs) (f0 := wr u 0 i (u 1 (((443 : Int32) * (u 6 0)) + (nI i)).toNatClampNeg)) (i := i) F 1 0 rfl rfl aM_0 (by omega) (Nat.le_of_ble_eq_true rfl) dX6_undo_49 (pc' := 50) rfl (fun u1 h2 => ?_)
      refine wk_iinc (k := 1) (v := nI (i + 1)) (lv' := [(1, .int (nI (i + 1))), (0, .ref (hs 0))]) F dX6_undo_50 rfl (nI_inc i) (Nat.le_of_ble_eq_true rfl) rfl (pc' := 53) rfl ?_
      refine wk_goto (tgt := 22) F dX6_undo_53 (by decide) ?_
      refine wk_lv [1, 0] rfl ?_
      exact ih (i + 1) u1 (by omega) (by subst h2; exact hv0) (fun u_ h_ => kx u_ (Eq.trans (by rw [f6_undo_L22] <;> exact (st_let h2 rfl)) h_))
  refine wk_aload_n F dX6_undo_0 rfl 0 rfl (pc' := 1) rfl ?_
  refine wk_get (C := RX6) (T := TX6) (N := 12) F 0 rfl rfl k_6 4 (Nat.le_of_ble_eq_true rfl) w_1 rfl dX6_undo_1 (pc' := 4) rfl ?_
  refine wk_if_ne (tgt := 10) F dX6_undo_4 (by decide) (pc' := 7) rfl (fun c3 => ?_) (fun c3 => ?_)
  · refine wk_aload_n F dX6_undo_10 rfl 0 rfl (pc' := 11) rfl ?_
    refine wk_dup F dX6_undo_11 rfl (pc' := 12) rfl ?_
    refine wk_get (C := RX6) (T := TX6) (N := 12) F 0 rfl rfl k_6 4 (Nat.le_of_ble_eq_true rfl) w_1 rfl dX6_undo_12 (pc' := 15) rfl ?_
    refine wk_iconst F dX6_undo_15 ic_1 (pc' := 16) rfl ?_
    refine wk_isub F dX6_undo_16 (pc' := 17) rfl ?_
    refine wk_putu (wg := wMod cI hs) (f0 := wr σ 6 0 ((σ 6 0) - (1 : Int32))) (C := RX6) (T := TX6) (N := 12) (ty0 := tyX6) F 0 rfl rfl k_6 tyX6_ok nmX6 4 (Nat.le_of_ble_eq_true rfl) w_1 rfl rfl rfl (Nat.le_of_ble_eq_true rfl) sM_0 dX6_undo_17 (pc' := 20) rfl (fun u4 h5 => ?_)
    refine wk_iconst F dX6_undo_20 ic_0 (pc' := 21) rfl ?_
    refine wk_istore_n (lv' := [(1, .int (0 : Int32)), (0, .ref (hs 0))]) F dX6_undo_21 rfl (Nat.le_of_ble_eq_true rfl) rfl (pc' := 22) rfl ?_
    refine wk_lv [1, 0] rfl ?_
    refine L22 443 0 u4 (by omega) (undo_in hs_okH c3 h5) (fun u7 h6 => ?_)
    refine wk_aload_n F dX6_undo_56 rfl 0 rfl (pc' := 57) rfl ?_
    refine wk_get (C := RX6) (T := TX6) (N := 12) F 0 rfl rfl k_6 4 (Nat.le_of_ble_eq_true rfl) w_1 rfl dX6_undo_57 (pc' := 60) rfl ?_
    exact hret _ _ _ _ dX6_undo_60 rfl (by rw [f6_undo] <;> exact (st_neg c3 (st_let h5 (st_let h6 rfl))))
  · refine wk_ldc F dX6_undo_7 w_2 (pc' := 9) rfl ?_
    exact hret _ _ _ _ dX6_undo_9 rfl (by rw [f6_undo] <;> exact (st_pos c3 rfl))
def okT (u : PS) : Prop := vp_in (u 6 2) 61
def okS (u : PS) : Prop := vp_in (u 6 3) 61
theorem typed_in {σ : PS} (h : okT σ) (c : ¬ σ 6 2 = 60) : vp_in (σ 6 2) 60 := by
  obtain ⟨j, hj, e⟩ := vp_in_of h (by decide)
  rw [e] at c ⊢
  refine vp_in_nI ?_ (by decide)
  rcases Nat.lt_or_ge j 60 with q | q
  · exact q
  · exact absurd (show nI j = 60 by rw [show j = 60 by omega]; rfl) c
def f6_type (σ : PS) (p1 : Int32) : Int32 × PS := (if (f6_in p1 (32 : Int32) (126 : Int32)) = 0 then ((-1000001 : Int32), σ) else (if (σ 6 2) = (60 : Int32) then ((-1000003 : Int32), σ) else (sq (wr σ 4 (σ 6 2).toNatClampNeg p1) (fun (u3 : PS) => (sq (wr u3 6 2 ((u3 6 2) + (1 : Int32))) (fun (u5 : PS) => (u5 6 2, u5)))))))
set_option maxHeartbeats 4000000 in
set_option maxRecDepth 100000 in
theorem c6_type (l : Launch) (D : va_G) (cI cP : ClassId) (hs : Nat → Nat) (σ : PS) (p1 : Int32) (hs_okT : okT σ) : CI l yX6_type wsX6_type ({ frames := 1, cells := 0, slots := 0, locals := 22 } : Room) D (cty cI cP) (wMod cI hs σ) (wMod cI hs) [.ref (hs 0), .int p1] 0 0 (fun r u => f6_type σ p1 = (r, u)) := by
  refine CI.of (cc := cX6_type) (maxL := 2) (rt := .int) (own := RX6) (lv0 := [(0, .ref (hs 0)), (1, .int p1)]) pnX6 rfl rfl (Nat.le_of_ble_eq_true rfl) rfl (fun p e s m args below meth c A Q F hret => ?_)
  have w_2 := F.at (x := Cond.fieldLink RX6 150 "ThinVolumesModel" "typed" "I") 2 rfl
  have w_4 := F.at (x := Cond.fieldLink RX6 22 "ThinVolumesModel" "text" "[I") 4 rfl
  have w_3 := F.at (x := Cond.constant RX6 90 (-1000003)) 3 rfl
  have w_1 := F.at (x := Cond.constant RX6 86 (-1000001)) 1 rfl
  have k_6 : ∀ w ∈ wsX60, w ∈ wsX6_type := fun _ h => List.mem_cons_of_mem _ (List.mem_append_right _ (h))
  refine wk_iload_n F dX6_type_0 rfl 1 rfl (pc' := 1) rfl ?_
  refine wk_bipush F dX6_type_1 bp_32 (pc' := 3) rfl ?_
  refine wk_bipush F dX6_type_3 bp_126 (pc' := 5) rfl ?_
  refine wk_none_s F (c6_in l D cI cP p1 (32 : Int32) (126 : Int32)) (va_cwS 3 F.hts gX6_type_X6_in rfl rfl rfl hdX6_in ⟨Nat.le_of_ble_eq_true rfl, Nat.le_of_ble_eq_true rfl⟩) rfl rfl (Nat.le_of_ble_eq_true rfl) dX6_type_5 ⟨Nat.zero_le _, Nat.zero_le _⟩ (pc' := 8) rfl ?_
  refine wk_if_ne (tgt := 14) F dX6_type_8 (by decide) (pc' := 11) rfl (fun c1 => ?_) (fun c1 => ?_)
  · refine wk_aload_n F dX6_type_14 rfl 0 rfl (pc' := 15) rfl ?_
    refine wk_get (C := RX6) (T := TX6) (N := 12) F 0 rfl rfl k_6 7 (Nat.le_of_ble_eq_true rfl) w_2 rfl dX6_type_15 (pc' := 18) rfl ?_
    refine wk_bipush F dX6_type_18 bp_60 (pc' := 20) rfl ?_
    refine wk_icmp_ne (tgt := 26) F dX6_type_20 (by decide) (pc' := 23) rfl (fun c2 => ?_) (fun c2 => ?_)
    · refine wk_aload_n F dX6_type_26 rfl 0 rfl (pc' := 27) rfl ?_
      refine wk_get (C := RX6) (T := TX6) (N := 12) F 0 rfl rfl k_6 6 (Nat.le_of_ble_eq_true rfl) w_4 rfl dX6_type_27 (pc' := 30) rfl ?_
      refine wk_aload_n F dX6_type_30 rfl 0 rfl (pc' := 31) rfl ?_
      refine wk_get (C := RX6) (T := TX6) (N := 12) F 0 rfl rfl k_6 7 (Nat.le_of_ble_eq_true rfl) w_2 rfl dX6_type_31 (pc' := 34) rfl ?_
      refine wk_iload_n F dX6_type_34 rfl 1 rfl (pc' := 35) rfl ?_
      refine wk_iastu (wg := wMod cI hs) (f0 := wr σ 4 (σ 6 2).toNatClampNeg p1) F 5 0 rfl rfl aM_4 (typed_in hs_okT c2) dX6_type_35 (pc' := 36) rfl (fun u3 h4 => ?_)
      refine wk_aload_n F dX6_type_36 rfl 0 rfl (pc' := 37) rfl ?_
      refine wk_dup F dX6_type_37 rfl (pc' := 38) rfl ?_
      refine wk_get (C := RX6) (T := TX6) (N := 12) F 0 rfl rfl k_6 7 (Nat.le_of_ble_eq_true rfl) w_2 rfl dX6_type_38 (pc' := 41) rfl ?_
      refine wk_iconst F dX6_type_41 ic_1 (pc' := 42) rfl ?_
      refine wk_iadd F dX6_type_42 (pc' := 43) rfl ?_
      refine wk_putu (wg := wMod cI hs) (f0 := wr u3 6 2 ((u3 6 2) + (1 : Int32))) (C := RX6) (T := TX6) (N := 12) (ty0 := tyX6) F 0 rfl rfl k_6 tyX6_ok nmX6 7 (Nat.le_of_ble_eq_true rfl) w_2 rfl rfl rfl (Nat.le_of_ble_eq_true rfl) sM_2 dX6_type_43 (pc' := 46) rfl (fun u5 h6 => ?_)
      refine wk_aload_n F dX6_type_46 rfl 0 rfl (pc' := 47) rfl ?_
      refine wk_get (C := RX6) (T := TX6) (N := 12) F 0 rfl rfl k_6 7 (Nat.le_of_ble_eq_true rfl) w_2 rfl dX6_type_47 (pc' := 50) rfl ?_
      exact hret _ _ _ _ dX6_type_50 rfl (by rw [f6_type] <;> exact (st_neg c1 (st_neg c2 (st_let h4 (st_let h6 rfl)))))
    · refine wk_ldc F dX6_type_23 w_3 (pc' := 25) rfl ?_
      exact hret _ _ _ _ dX6_type_25 rfl (by rw [f6_type] <;> exact (st_neg c1 (st_pos c2 rfl)))
  · refine wk_ldc F dX6_type_11 w_1 (pc' := 13) rfl ?_
    exact hret _ _ _ _ dX6_type_13 rfl (by rw [f6_type] <;> exact (st_pos c1 rfl))
def f6_clearText (σ : PS) : Int32 × PS := (sq (wr σ 6 2 (0 : Int32)) (fun (u1 : PS) => (σ 6 2, u1)))
set_option maxHeartbeats 4000000 in
set_option maxRecDepth 100000 in
theorem c6_clearText (l : Launch) (D : va_G) (cI cP : ClassId) (hs : Nat → Nat) (σ : PS) : CI l yX6_clearText wsX6_clearText ({ frames := 0, cells := 0, slots := 0, locals := 0 } : Room) D (cty cI cP) (wMod cI hs σ) (wMod cI hs) [.ref (hs 0)] 0 0 (fun r u => f6_clearText σ = (r, u)) := by
  refine CI.of (cc := cX6_clearText) (maxL := 2) (rt := .int) (own := RX6) (lv0 := [(0, .ref (hs 0))]) pnX6 rfl rfl (Nat.le_of_ble_eq_true rfl) rfl (fun p e s m args below meth c A Q F hret => ?_)
  have w_1 := F.at (x := Cond.fieldLink RX6 150 "ThinVolumesModel" "typed" "I") 1 rfl
  have k_6 : ∀ w ∈ wsX60, w ∈ wsX6_clearText := fun _ h => List.mem_cons_of_mem _ (List.mem_append_right _ (h))
  refine wk_aload_n F dX6_clearText_0 rfl 0 rfl (pc' := 1) rfl ?_
  refine wk_get (C := RX6) (T := TX6) (N := 12) F 0 rfl rfl k_6 7 (Nat.le_of_ble_eq_true rfl) w_1 rfl dX6_clearText_1 (pc' := 4) rfl ?_
  refine wk_istore_n (lv' := [(1, .int (σ 6 2)), (0, .ref (hs 0))]) F dX6_clearText_4 rfl (Nat.le_of_ble_eq_true rfl) rfl (pc' := 5) rfl ?_
  refine wk_aload_n F dX6_clearText_5 rfl 1 rfl (pc' := 6) rfl ?_
  refine wk_iconst F dX6_clearText_6 ic_0 (pc' := 7) rfl ?_
  refine wk_putu (wg := wMod cI hs) (f0 := wr σ 6 2 (0 : Int32)) (C := RX6) (T := TX6) (N := 12) (ty0 := tyX6) F 0 rfl rfl k_6 tyX6_ok nmX6 7 (Nat.le_of_ble_eq_true rfl) w_1 rfl rfl rfl (Nat.le_of_ble_eq_true rfl) sM_2 dX6_clearText_7 (pc' := 10) rfl (fun u1 h2 => ?_)
  refine wk_iload_n F dX6_clearText_10 rfl 0 rfl (pc' := 11) rfl ?_
  exact hret _ _ _ _ dX6_clearText_11 rfl (by rw [f6_clearText] <;> exact (st_let h2 rfl))
theorem rem_le {x y : Int32} {n : Nat} (hx : ¬ x < 0) (h0 : ¬ y ≤ 0) (hy : y.toInt ≤ ((n + 1 : Nat) : Int)) : (x - x / y * y).toInt ≤ (n : Int) := by
  have hy0 : ¬ y < 0 := fun q => h0 (Int32.le_of_lt q)
  obtain ⟨a, ha, rfl⟩ := nI_of hx
  obtain ⟨d, hd, rfl⟩ := nI_of hy0
  have hd0 : 0 < d := by
    rcases Nat.eq_zero_or_pos d with q | q
    · exact absurd (show nI d ≤ 0 by rw [q]; exact Int32.le_refl 0) h0
    · exact q
  rw [pk_rem ha hd0 hd]
  have hm := Nat.mod_lt a hd0
  rw [nI_toInt (by omega)]
  rw [nI_toInt hd] at hy
  omega
theorem pos_ne {y : Int32} (h0 : ¬ y ≤ 0) : ¬ y = 0 := fun q => h0 (by rw [q]; exact Int32.le_refl 0)
def f6_over_L24 (σ : PS) : Nat → Int32 → Int32 → Int32
  | 0, x3, x4 => x3
  | n + 1, x3, x4 => (if x4 ≤ 0 then x3 else f6_over_L24 σ n x4 (x3 - x3 / x4 * x4))
def f6_over (σ : PS) (p1 : Int32) : Int32 := (if (f6_in p1 (0 : Int32) (1 : Int32)) = 0 then (-1000001 : Int32) else (sq (f6_over_L24 σ ((f6_living σ (1 : Int32)).toNatClampNeg) (30 : Int32) (f6_living σ (1 : Int32))) (fun (y4 : Int32) => (if p1 = 0 then (f6_living σ (1 : Int32)) / y4 else (30 : Int32) / y4))))
theorem over_nz {σ : PS} : ∀ {n : Nat} {x y r : Int32}, f6_over_L24 σ n x y = r → ¬ x = 0 → ¬ r = 0 := by
  intro n
  induction n with
  | zero => intro x y r h hx; exact h ▸ hx
  | succ n ih =>
    intro x y r h hx
    unfold f6_over_L24 at h
    split at h
    · exact h ▸ hx
    · exact ih h (pos_ne (by assumption))
set_option maxHeartbeats 4000000 in
set_option maxRecDepth 100000 in
theorem c6_over (l : Launch) (D : va_G) (cI cP : ClassId) (hs : Nat → Nat) (σ : PS) (p1 : Int32) (hs_okL : okL σ) : CP l yX6_over wsX6_over ({ frames := 4, cells := 0, slots := 0, locals := 90 } : Room) D (cty cI cP) (wMod cI hs) σ [.ref (hs 0), .int p1] (f6_over σ p1) := by
  refine CP.of (cc := cX6_over) (maxL := 6) (rt := .int) (own := RX6) (lv0 := [(0, .ref (hs 0)), (1, .int p1)]) pnX6 rfl rfl (Nat.le_of_ble_eq_true rfl) rfl (fun p e s m args below meth c A Q F hret => ?_)
  have w_1 := F.at (x := Cond.constant RX6 86 (-1000001)) 1 rfl
  have L24 : ∀ (y2 : Int32) (n : Nat) (x3 : Int32) (x4 : Int32), x4.toInt ≤ (n : Int) → ¬ x3 < 0 → (∀ (y3 : Int32), f6_over_L24 σ n x3 x4 = y3 → Wk p l e ({ frames := 4, cells := 0, slots := 0, locals := 90 } : Room) s m args below meth c 6 D A 0 0 Q (wMod cI hs σ) [(1, .int p1), (2, .int y2), (3, .int y3)] 45 []) → Wk p l e ({ frames := 4, cells := 0, slots := 0, locals := 90 } : Room) s m args below meth c 6 D A 0 0 Q (wMod cI hs σ) [(1, .int p1), (2, .int y2), (3, .int x3), (4, .int x4)] 24 [] := by
    intro y2 n
    induction n with
    | zero =>
      intro x3 x4 hv0 hv1 kx
      refine wk_iload F dX6_over_24 3 rfl (pc' := 26) rfl ?_
      refine wk_if_le (tgt := 45) F dX6_over_26 (by decide) (pc' := 29) rfl (fun _ => ?_) (fun c => absurd (le0_of hv0) c)
      refine wk_lv [0, 1, 2] rfl ?_
      exact kx x3 (by rw [f6_over_L24] <;> exact rfl)
    | succ n ih =>
      intro x3 x4 hv0 hv1 kx
      refine wk_iload F dX6_over_24 3 rfl (pc' := 26) rfl ?_
      refine wk_if_le (tgt := 45) F dX6_over_26 (by decide) (pc' := 29) rfl (fun c1 => ?_) (fun c1 => ?_)
      · refine wk_lv [0, 1, 2] rfl ?_
        exact kx x3 (by rw [f6_over_L24] <;> exact (st_pos c1 rfl))
      · refine wk_iload_n F dX6_over_29 rfl 2 rfl (pc' := 30) rfl ?_
        refine wk_iload F dX6_over_30 3 rfl (pc' := 32) rfl ?_
        refine wk_irem F dX6_over_32 (pos_ne c1) (pc' := 33) rfl ?_
        refine wk_istore (lv' := [(5, .int (x3 - x3 / x4 * x4)), (1, .int p1), (2, .int y2), (3, .int x3), (4, .int x4)]) F dX6_over_33 (Nat.le_of_ble_eq_true rfl) rfl (pc' := 35) rfl ?_
        refine wk_iload F dX6_over_35 4 rfl (pc' := 37) rfl ?_
        refine wk_istore_n (lv' := [(3, .int x4), (5, .int (x3 - x3 / x4 * x4)), (1, .int p1), (2, .int y2), (4, .int x4)]) F dX6_over_37 rfl (Nat.le_of_ble_eq_true rfl) rfl (pc' := 38) rfl ?_
        refine wk_iload F dX6_over_38 1 rfl (pc' := 40) rfl ?_
        refine wk_istore (lv' := [(4, .int (x3 - x3 / x4 * x4)), (3, .int x4), (5, .int (x3 - x3 / x4 * x4)), (1, .int p1), (2, .int y2)]) F dX6_over_40 (Nat.le_of_ble_eq_true rfl) rfl (pc' := 42) rfl ?_
        refine wk_goto (tgt := 24) F dX6_over_42 (by decide) ?_
        refine wk_lv [3, 4, 1, 0] rfl ?_
        exact ih x4 (x3 - x3 / x4 * x4) (rem_le hv1 c1 hv0) (fun q => c1 (Int32.le_of_lt q)) (fun y3_ h_ => kx y3_ (Eq.trans (by rw [f6_over_L24] <;> exact (st_neg c1 rfl)) h_))
  refine wk_iload_n F dX6_over_0 rfl 1 rfl (pc' := 1) rfl ?_
  refine wk_iconst F dX6_over_1 ic_0 (pc' := 2) rfl ?_
  refine wk_iconst F dX6_over_2 ic_1 (pc' := 3) rfl ?_
  refine wk_none_s F (c6_in l D cI cP p1 (0 : Int32) (1 : Int32)) (va_cwS 3 F.hts gX6_over_X6_in rfl rfl rfl hdX6_in ⟨Nat.le_of_ble_eq_true rfl, Nat.le_of_ble_eq_true rfl⟩) rfl rfl (Nat.le_of_ble_eq_true rfl) dX6_over_3 ⟨Nat.zero_le _, Nat.zero_le _⟩ (pc' := 6) rfl ?_
  refine wk_if_ne (tgt := 12) F dX6_over_6 (by decide) (pc' := 9) rfl (fun c2 => ?_) (fun c2 => ?_)
  · refine wk_aload_n F dX6_over_12 rfl 0 rfl (pc' := 13) rfl ?_
    refine wk_iconst F dX6_over_13 ic_1 (pc' := 14) rfl ?_
    refine wk_same_p F (c6_living l D cI cP hs σ (1 : Int32) hs_okL) (cwV 1 F.hts gX6_over_X6_living rfl rfl rfl hdX6_living ⟨Nat.le_of_ble_eq_true rfl, Nat.le_of_ble_eq_true rfl⟩) 0 6 rfl rfl rfl rfl (Nat.le_of_ble_eq_true rfl) dX6_over_14 ⟨Nat.zero_le _, Nat.zero_le _⟩ (pc' := 17) rfl ?_
    refine wk_istore_n (lv' := [(2, .int (f6_living σ (1 : Int32))), (0, .ref (hs 0)), (1, .int p1)]) F dX6_over_17 rfl (Nat.le_of_ble_eq_true rfl) rfl (pc' := 18) rfl ?_
    refine wk_bipush F dX6_over_18 bp_30 (pc' := 20) rfl ?_
    refine wk_istore_n (lv' := [(3, .int (30 : Int32)), (2, .int (f6_living σ (1 : Int32))), (0, .ref (hs 0)), (1, .int p1)]) F dX6_over_20 rfl (Nat.le_of_ble_eq_true rfl) rfl (pc' := 21) rfl ?_
    refine wk_iload_n F dX6_over_21 rfl 1 rfl (pc' := 22) rfl ?_
    refine wk_istore (lv' := [(4, .int (f6_living σ (1 : Int32))), (3, .int (30 : Int32)), (2, .int (f6_living σ (1 : Int32))), (0, .ref (hs 0)), (1, .int p1)]) F dX6_over_22 (Nat.le_of_ble_eq_true rfl) rfl (pc' := 24) rfl ?_
    refine wk_lv [4, 2, 1, 0] rfl ?_
    refine L24 (f6_living σ (1 : Int32)) ((f6_living σ (1 : Int32)).toNatClampNeg) (30 : Int32) (f6_living σ (1 : Int32)) (le_clamp _) (by decide) (fun y4 h3 => ?_)
    refine wk_iload_n F dX6_over_45 rfl 0 rfl (pc' := 46) rfl ?_
    refine wk_if_ne (tgt := 53) F dX6_over_46 (by decide) (pc' := 49) rfl (fun c5 => ?_) (fun c5 => ?_)
    · refine wk_bipush F dX6_over_53 bp_30 (pc' := 55) rfl ?_
      refine wk_iload_n F dX6_over_55 rfl 2 rfl (pc' := 56) rfl ?_
      refine wk_idiv F dX6_over_56 (over_nz h3 (by decide)) (pc' := 57) rfl ?_
      exact hret _ _ _ dX6_over_57 rfl (Eq.symm (by rw [f6_over] <;> exact (st_neg c2 (st_let h3 (st_neg c5 rfl)))))
    · refine wk_iload_n F dX6_over_49 rfl 1 rfl (pc' := 50) rfl ?_
      refine wk_goto (tgt := 55) F dX6_over_50 (by decide) ?_
      refine wk_iload_n F dX6_over_55 rfl 2 rfl (pc' := 56) rfl ?_
      refine wk_idiv F dX6_over_56 (over_nz h3 (by decide)) (pc' := 57) rfl ?_
      exact hret _ _ _ dX6_over_57 rfl (Eq.symm (by rw [f6_over] <;> exact (st_neg c2 (st_let h3 (st_pos c5 rfl)))))
  · refine wk_ldc F dX6_over_9 w_1 (pc' := 11) rfl ?_
    exact hret _ _ _ dX6_over_11 rfl (Eq.symm (by rw [f6_over] <;> exact (st_pos c2 rfl)))
