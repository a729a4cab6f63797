/-! worlds as blocks, in any order -/
theorem va_P_perm {D : va_G} {cl : List vw_C} {w w' : va_W} {H : Heap} (h : List.Perm w w') (hP : va_P D cl w H) : va_P D cl w' H := by
  intro k q hq
  have hm : q ∈ w := h.mem_iff.mpr (List.mem_of_getElem? hq)
  obtain ⟨i, hi⟩ := List.mem_iff_getElem?.mp hm
  exact hP i q hi
theorem nd_of {w : va_W} (h : ∀ (i j : Nat) (p q : Nat × va_E), w[i]? = some p → w[j]? = some q → p.1 = q.1 → i = j) : (w.map Prod.fst).Nodup := by
  rw [List.Nodup, List.pairwise_iff_getElem]
  intro i j hi hj hij e
  rw [List.length_map] at hi hj
  rw [List.getElem_map, List.getElem_map] at e
  have := h i j w[i] w[j] (List.getElem?_eq_getElem hi) (List.getElem?_eq_getElem hj) e
  omega
theorem of_nd {w : va_W} (h : (w.map Prod.fst).Nodup) : ∀ (i j : Nat) (p q : Nat × va_E), w[i]? = some p → w[j]? = some q → p.1 = q.1 → i = j := by
  rw [List.Nodup, List.pairwise_iff_getElem] at h
  intro i j p q hp hq e
  obtain ⟨hi, rfl⟩ := List.getElem?_eq_some_iff.mp hp
  obtain ⟨hj, rfl⟩ := List.getElem?_eq_some_iff.mp hq
  rcases Nat.lt_trichotomy i j with l | l | l
  · exact absurd (show (w.map Prod.fst)[i]'(by rw [List.length_map]; exact hi) = (w.map Prod.fst)[j]'(by rw [List.length_map]; exact hj) by rw [List.getElem_map, List.getElem_map]; exact e) (h i j _ _ l)
  · exact l
  · exact absurd (show (w.map Prod.fst)[j]'(by rw [List.length_map]; exact hj) = (w.map Prod.fst)[i]'(by rw [List.length_map]; exact hi) by rw [List.getElem_map, List.getElem_map]; exact e.symm) (h j i _ _ l)
theorem va_D_perm {A : Nat → Prop} {w w' : va_W} (h : List.Perm w w') (hD : va_D A w) : va_D A w' := by
  refine ⟨of_nd ((h.map Prod.fst).nodup_iff.mp (nd_of hD.1)), fun k q hq => ?_⟩
  have hm : q ∈ w := h.mem_iff.mpr (List.mem_of_getElem? hq)
  obtain ⟨i, hi⟩ := List.mem_iff_getElem?.mp hm
  exact hD.2 i q hi
theorem fr_C (a b : va_W) : (List.range a.length).map (fun i => (a ++ b)[i]?) = a.map some := by
  apply List.ext_getElem?
  intro i
  by_cases h : i < a.length
  · simp [h, List.getElem?_append_left]
  · simp [h]
theorem fr_R (a b : va_W) : (List.range' a.length b.length).map (fun i => (a ++ b)[i]?) = b.map some := by
  apply List.ext_getElem?
  intro i
  by_cases h : i < b.length
  · simp [h, List.getElem?_append_right]
  · simp [h]
theorem fr_dis (a b : va_W) : ∀ i ∈ List.range' a.length b.length, i ∉ List.range a.length := by
  intro i h q
  have h1 := (List.mem_range'_1.mp h).1
  have h2 := List.mem_range.mp q
  omega
section BLK
variable {p : Program} {l : Launch} {e : Env} {R : Room} {s : State} {m : MethodId} {args : Array Value} {below : List Frame} {meth : Method} {c : Code} {n : Nat} {D : va_G} {A : Nat → Prop} {cells slots : Nat} {Q : State → Prop} {w : va_W} {lv : List (Nat × Value)} {pc pc' : Nat} {st rest : List Value} {cc : ByteArray} {Ts : List Cond} {own : String} {ret : Option FieldType} {tys : List (ClassId × FieldType)}
variable {S : Type} {y : MethodName} {ws2 : List Cond} {rm2 : Room} {w0 wr : va_W} {wf : S → va_W} {b : Nat} {As : List Value} {mc ms maxL nA index : Nat} {bytes : ByteArray} {C : String}
theorem wk_perm {w' : va_W} (h : List.Perm w w') (kk : Wk p l e R s m args below meth c n D A cells slots Q w' lv pc st) : Wk p l e R s m args below meth c n D A cells slots Q w lv pc st := fun H locs ls hP hD hS hl => kk H locs ls (va_P_perm h hP) (va_D_perm h hD) hS hl
theorem wk_fr_p {u0 : S} {v : Int32} (F : Fx p s m args meth c cc n Ts own ret D tys A) {rt : FieldType} (hM : CP l y ws2 rm2 D tys wf u0 (.ref b :: As) v) (cw : CallW R s args own C index y bytes maxL (some rt) ws2 rm2 0 0 nA) (q0 ci : Nat) {fs : List Value} {T : u_T} {N : Nat} (hrec : (wf u0)[q0]? = some (b, .inr (ci, fs))) (hcl : vwCl[ci]? = some (C, T, N)) (hn : As.length = nA) (hst : st = As.reverse ++ (.ref b :: rest)) (hsum : (rest.map fun v => v.category).sum ≤ 8) (hdg : decode cc pc = .ok (.invokevirtual index, 3)) (hroom : cells ≤ R.cells ∧ slots ≤ R.slots) (hpc : pc + 3 = pc') (kk : Wk p l e R s m args below meth c n D A cells slots Q (wf u0 ++ wr) lv pc' (.int v :: rest)) : Wk p l e R s m args below meth c n D A cells slots Q (wf u0 ++ wr) lv pc st :=
  wk_calliV (wr := wr) F hM cw (List.range (wf u0).length) (List.range' (wf u0).length wr.length) (fr_C _ _) (fr_R _ _) (nd_range _) (nd_range' _ _) (fr_dis _ _) q0 ci hrec hcl hn hst hsum hdg hroom hpc (fun r u h => by obtain ⟨h1, h2⟩ := h; rw [h1, h2]; exact wk_perm List.perm_append_comm kk)
theorem wk_fr_i {post : Int32 → S → Prop} (F : Fx p s m args meth c cc n Ts own ret D tys A) {rt : FieldType} (hM : CI l y ws2 rm2 D tys w0 wf (.ref b :: As) mc ms post) (cw : CallW R s args own C index y bytes maxL (some rt) ws2 rm2 mc ms nA) (q0 ci : Nat) {fs : List Value} {T : u_T} {N : Nat} (hrec : w0[q0]? = some (b, .inr (ci, fs))) (hcl : vwCl[ci]? = some (C, T, N)) (hn : As.length = nA) (hst : st = As.reverse ++ (.ref b :: rest)) (hsum : (rest.map fun v => v.category).sum ≤ 8) (hdg : decode cc pc = .ok (.invokevirtual index, 3)) (hroom : cells + mc ≤ R.cells ∧ slots + ms ≤ R.slots) (hpc : pc + 3 = pc') (kk : ∀ (r : Int32) (u : S), post r u → Wk p l e R s m args below meth c n D A (cells + mc) (slots + ms) Q (wf u ++ wr) lv pc' (.int r :: rest)) : Wk p l e R s m args below meth c n D A cells slots Q (w0 ++ wr) lv pc st :=
  wk_calliV (wr := wr) F hM cw (List.range w0.length) (List.range' w0.length wr.length) (fr_C _ _) (fr_R _ _) (nd_range _) (nd_range' _ _) (fr_dis _ _) q0 ci hrec hcl hn hst hsum hdg hroom hpc (fun r u h => wk_perm List.perm_append_comm (kk r u h))
theorem wk_fr_v {post : S → Prop} (F : Fx p s m args meth c cc n Ts own ret D tys A) (hM : CV l y ws2 rm2 D tys w0 wf (.ref b :: As) mc ms post) (cw : CallW R s args own C index y bytes maxL none ws2 rm2 mc ms nA) (q0 ci : Nat) {fs : List Value} {T : u_T} {N : Nat} (hrec : w0[q0]? = some (b, .inr (ci, fs))) (hcl : vwCl[ci]? = some (C, T, N)) (hn : As.length = nA) (hst : st = As.reverse ++ (.ref b :: rest)) (hsum : (rest.map fun v => v.category).sum ≤ 8) (hdg : decode cc pc = .ok (.invokevirtual index, 3)) (hroom : cells + mc ≤ R.cells ∧ slots + ms ≤ R.slots) (hpc : pc + 3 = pc') (kk : ∀ u : S, post u → Wk p l e R s m args below meth c n D A (cells + mc) (slots + ms) Q (wf u ++ wr) lv pc' rest) : Wk p l e R s m args below meth c n D A cells slots Q (w0 ++ wr) lv pc st :=
  wk_callvV (wr := wr) F hM cw (List.range w0.length) (List.range' w0.length wr.length) (fr_C _ _) (fr_R _ _) (nd_range _) (nd_range' _ _) (fr_dis _ _) q0 ci hrec hcl hn hst hsum hdg hroom hpc (fun u h => wk_perm List.perm_append_comm (kk u h))
theorem wk_fr_I {post : S → Prop} (F : Fx p s m args meth c cc n Ts own ret D tys A) (hM : CV l y ws2 rm2 D tys w0 wf (.ref b :: As) mc ms post) (cw : CallB R s args own index y bytes maxL none ws2 rm2 mc ms nA ∧ y.name = "<init>" ∧ (Cond.instanceMethod y).before args s = true) (hn : As.length = nA) (hst : st = As.reverse ++ (.ref b :: rest)) (hsum : (rest.map fun v => v.category).sum ≤ 8) (hdg : decode cc pc = .ok (.invokespecial index, 3)) (hroom : cells + mc ≤ R.cells ∧ slots + ms ≤ R.slots) (hpc : pc + 3 = pc') (kk : ∀ u : S, post u → Wk p l e R s m args below meth c n D A (cells + mc) (slots + ms) Q (wf u ++ wr) lv pc' rest) : Wk p l e R s m args below meth c n D A cells slots Q (w0 ++ wr) lv pc st :=
  wk_callvI (wr := wr) F hM cw (List.range w0.length) (List.range' w0.length wr.length) (fr_C _ _) (fr_R _ _) (nd_range _) (nd_range' _ _) (fr_dis _ _) hn hst hsum hdg hroom hpc (fun u h => wk_perm List.perm_append_comm (kk u h))
end BLK
/-- the state of a ThinVolumes: 0 the pool, 1 to 5 the history's, 6 the rehearsal's, 7 the text, 8 the history's number, 9 the rehearsal's numbers -/
abbrev ST : Type := Nat → PS
def mkZ (z0 z1 z2 z3 z4 z5 z6 z7 z8 z9 : PS) : ST := fun i => match i with
  | 0 => z0 | 1 => z1 | 2 => z2 | 3 => z3 | 4 => z4 | 5 => z5 | 6 => z6 | 7 => z7 | 8 => z8 | _ => z9
def wTvo (ha : Nat → Nat) (hq : Nat → Nat → Nat) : va_W := [(ha 0, .inr (5, [.ref (hq 0 0), .ref (ha 1), .ref (hq 7 0), .ref (ha 3)]))]
def wHist (cP : ClassId) (ha : Nat → Nat) (hq : Nat → Nat → Nat) (u : PS) : va_W := [(ha 1, .inr (0, [.ref (ha 2), .int (u 0 0)])), (ha 2, .inl (cP, 5, .inr (.inr (.inr (.inr (fun i => some (hq (i + 1) 0)))))))]
def wReh (ha : Nat → Nat) (hq : Nat → Nat → Nat) (u : PS) : va_W := [(ha 3, .inr (2, [.ref (hq 6 0), .int (u 0 0), .int (u 0 1)]))]
