section NEWS
variable {p : Program} {l : Launch} {e : Env} {R : Room} {s : State} {m : MethodId} {args : Array Value} {below : List Frame} {meth : Method} {c : Code} {n : Nat} {D : va_G} {A : Nat → Prop} {cells slots : Nat} {Q : State → Prop} {w : va_W} {lv : List (Nat × Value)} {pc pc' : Nat} {rest : List Value} {cc : ByteArray} {Ts : List Cond} {own : String} {ret : Option FieldType} {cI cP : ClassId}
theorem wk_newi (F : Fx p s m args meth c cc n Ts own ret D (cty cI cP) A) (harr : (Cond.arrayClass .int).before args s = true) {k : Int32} (N' : Nat) (hn : ¬ k < 0) (hN : k.toNatClampNeg = N') (hby : N' * 4 ≤ 536870912) (hcells : cells + 1 ≤ R.cells) (hslots : slots + N' ≤ R.slots) (hdg : decode cc pc = .ok (.newarray .int, 2)) (hpc : pc + 2 = pc') (kk : ∀ q : Nat, Wk p l e R s m args below meth c n D A (cells + 1) (slots + N') Q (w ++ [(q, .inl (cI, N', .inl (fun _ => 0)))]) lv pc' (.ref q :: rest)) : Wk p l e R s m args below meth c n D A cells slots Q w lv pc (.int k :: rest) := by
  subst hpc
  intro H locs ls hP hD hS hl
  refine va_newa (atype := .int) (a0 := (N', .inl (fun _ => 0))) F.1 F.2.1 harr rfl F.hK hP hD hS F.hA (fun _ => rfl) hn hN hby hcells hslots hdg (fun q cA H1 hK1 hP1 hD1 hS1 => ?_)
  have h1 := (F.hK.2 0 (cI, .int) rfl).2
  have h2 := (hK1.2 2 (cA, .int) rfl).2
  have e : cA = cI := Option.some.inj (h2.symm.trans h1)
  subst e
  exact kk q H1 locs ls hP1 hD1 hS1 hl
theorem wk_new (F : Fx p s m args meth c cc n Ts own ret D (cty cI cP) A) {C : String} {T : u_T} {N ci index : Nat} {ty0 : Nat → FieldType} {fs : List Value} (hin : ∀ w ∈ u_ws C T N, w ∈ Ts) (hty : ∀ k, k < N → parseFieldDescriptor (T k).2.2.1 = some (ty0 k)) (hcl : (Cond.classLink own index C).before args s = true) (hinst : (Cond.instantiable C N).before args s = true) (hini : (Cond.initialized C).before args s = true) (hc : vwCl[ci]? = some (C, T, N)) (hfs : ∀ j, j < N → defaultValue (ty0 j) = vp_V fs j) (hcells : cells + 1 ≤ R.cells) (hslots : slots + N ≤ R.slots) (hdg : decode cc pc = .ok (.new index, 3)) (hpc : pc + 3 = pc') (kk : ∀ q : Nat, Wk p l e R s m args below meth c n D A (cells + 1) (slots + N) Q (w ++ [(q, .inr (ci, fs))]) lv pc' (.ref q :: rest)) : Wk p l e R s m args below meth c n D A cells slots Q w lv pc rest := by
  subst hpc
  exact fun H locs ls hP hD hS hl => va_new F.1 F.2.1 F.hts hin ty0 hty F.hown hcl hinst hini F.hK hP hD hS F.hA hc hfs hcells hslots hdg (fun q H1 hP1 hD1 hS1 => kk q H1 locs ls hP1 hD1 hS1 hl)
theorem wk_newq (F : Fx p s m args meth c cc n Ts own ret D (cty cI cP) A) {index : Nat} (hcl : (Cond.classLink own index "ThinVolumes$Pool").before args s = true) {k : Int32} (N' : Nat) (hn : ¬ k < 0) (hN : k.toNatClampNeg = N') (hby : N' * 4 ≤ 536870912) (hcells : cells + 1 ≤ R.cells) (hslots : slots + N' ≤ R.slots) (hdg : decode cc pc = .ok (.anewarray index, 3)) (hpc : pc + 3 = pc') (kk : ∀ q : Nat, Wk p l e R s m args below meth c n D A (cells + 1) (slots + N') Q (w ++ [(q, .inl (cP, N', .inr (.inr (.inr (.inr (fun _ => none))))))]) lv pc' (.ref q :: rest)) : Wk p l e R s m args below meth c n D A cells slots Q w lv pc (.int k :: rest) := by
  subst hpc
  intro H locs ls hP hD hS hl
  refine va_newq F.1 F.2.1 F.hown hcl F.nw.2.2.2.2 F.hK hP hD hS F.hA hn hN hby hcells hslots hdg (fun q cA H1 hK1 hP1 hD1 hS1 => ?_)
  obtain ⟨kA, comp, -, -, -, h1⟩ := (F.hK.2 1 (cP, .object "ThinVolumes$Pool") rfl).2
  obtain ⟨kA2, comp2, -, -, -, h2⟩ := (hK1.2 2 (cA, .object "ThinVolumes$Pool") rfl).2
  have e : cA = cP := Option.some.inj (h2.symm.trans h1)
  subst e
  exact kk q H1 locs ls hP1 hD1 hS1 hl
theorem wk_astq (F : Fx p s m args meth c cc n Ts own ret D (cty cI cP) A) (q0 qk ci : Nat) {a v N : Nat} {vs : List Value} {T : u_T} {NN : Nat} {f g : Nat → Option Nat} {w' : va_W} (ha : w[q0]? = some (a, .inl (cP, N, .inr (.inr (.inr (.inr f)))))) (hv : w[qk]? = some (v, .inr (ci, vs))) (hc : vwCl[ci]? = some ("ThinVolumes$Pool", T, NN)) {i : Int32} (hin : vp_in i N) (hg : va_up f i.toNatClampNeg (some v) = g) (hw : w.set q0 (a, .inl (cP, N, .inr (.inr (.inr (.inr g))))) = w') (hdg : decode cc pc = .ok (.aastore, 1)) (hpc : pc + 1 = pc') (kk : Wk p l e R s m args below meth c n D A cells slots Q w' lv pc' rest) : Wk p l e R s m args below meth c n D A cells slots Q w lv pc (.ref v :: .int i :: .ref a :: rest) := by
  subst hpc hg hw
  exact fun H locs ls hP hD hS hl => va_astq (r := ("ThinVolumes$Pool", T, NN)) F.1 F.2.1 F.hK hP hD hS q0 1 qk ci ha rfl hv hc hin hdg (fun H1 locs1 hP hD hS => kk H1 locs1 ls hP hD hS hl)
theorem wk_widen {k z : Nat} (h1 : cells ≤ k) (h2 : slots ≤ z) (kk : Wk p l e R s m args below meth c n D A k z Q w lv pc rest) : Wk p l e R s m args below meth c n D A cells slots Q w lv pc rest := fun H locs ls hP hD hS hl => W.widen h1 h2 (kk H locs ls hP hD hS hl)
end NEWS
/-- the addresses of a block, in their order -/
def adr (L : List Nat) : Nat → Nat := fun k => L.getD k 0
