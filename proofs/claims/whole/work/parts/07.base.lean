/-! A walk with its world, its locals and its stack in one proposition. -/
def nw4 (U : State) : Prop := va_Nw (.methodLinkNest RX1 44 yX4_init RX5) U ∧ va_Nw (.methodLinkNest RX5 25 yX3_init RX5) U ∧ va_Nw (.methodLinkNest RX5 32 yX2_init RX5) U ∧ va_Nw (.methodLinkNest RX2 78 yX5_isError RX5) U ∧ va_AO "ThinVolumes$Pool" U
theorem nw4.warm {s U : State} (hW : s.WarmedH U.vm) (h : nw4 s) : nw4 U := ⟨va_Nw.warmM hW h.1, va_Nw.warmM hW h.2.1, va_Nw.warmM hW h.2.2.1, va_Nw.warmM hW h.2.2.2.1, va_AO.moved hW.alike h.2.2.2.2⟩
theorem nw4.same {u U : State} (h : u.vm = U.vm) (hz : nw4 u) : nw4 U := ⟨va_Nw.same rfl h hz.1, va_Nw.same rfl h hz.2.1, va_Nw.same rfl h hz.2.2.1, va_Nw.same rfl h hz.2.2.2.1, va_AO.moved (by rw [h]; exact Vm.Alike.refl _) hz.2.2.2.2⟩
def Fx (p : Program) (s : State) (m : MethodId) (args : Array Value) (meth : Method) (c : Code) (cc : ByteArray) (n : Nat) (Ts : List Cond) (own : String) (ret : Option FieldType) (D : va_G) (tys : List (ClassId × FieldType)) (A : Nat → Prop) : Prop :=
  p.tables.exec = Jvm.exec ∧ c.code = cc ∧ c.maxLocals = n ∧ s.vm.findClass own = some m.cls ∧ (∀ w ∈ Ts, w.before args s = true) ∧ meth.sig.returnType = ret ∧ meth.locks = false ∧ va_K D vwCl tys s ∧ (∀ q : Nat, s.heap.size ≤ q → A q) ∧ nw4 s
def Wk (p : Program) (l : Launch) (e : Env) (R : Room) (s : State) (m : MethodId) (args : Array Value) (below : List Frame) (meth : Method) (c : Code) (n : Nat) (D : va_G) (A : Nat → Prop) (cells slots : Nat) (Q : State → Prop) (w : va_W) (lv : List (Nat × Value)) (pc : Nat) (st : List Value) : Prop :=
  ∀ (H : Heap) (locs : List Loc) (ls : Array Slot), va_P D vwCl w H → va_D A w → va_S A s.heap H locs → lv_has ls n lv → W p l e R s m args below meth c H locs cells slots Q (F0 m pc ls st)
section WK
variable {p : Program} {l : Launch} {e : Env} {R : Room} {s : State} {m : MethodId} {args : Array Value} {below : List Frame} {meth : Method} {c : Code} {n : Nat} {D : va_G} {A : Nat → Prop} {cells slots : Nat} {Q : State → Prop} {w : va_W} {lv : List (Nat × Value)} {pc pc' : Nat} {rest : List Value} {cc : ByteArray} {Ts : List Cond} {own : String} {ret : Option FieldType} {tys : List (ClassId × FieldType)}
theorem Fx.hts (F : Fx p s m args meth c cc n Ts own ret D tys A) : ∀ w ∈ Ts, w.before args s = true := F.2.2.2.2.1
theorem Fx.hown (F : Fx p s m args meth c cc n Ts own ret D tys A) : s.vm.findClass own = some m.cls := F.2.2.2.1
theorem Fx.hK (F : Fx p s m args meth c cc n Ts own ret D tys A) : va_K D vwCl tys s := F.2.2.2.2.2.2.2.1
theorem Fx.hA (F : Fx p s m args meth c cc n Ts own ret D tys A) : ∀ q : Nat, s.heap.size ≤ q → A q := F.2.2.2.2.2.2.2.2.1
theorem Fx.nw (F : Fx p s m args meth c cc n Ts own ret D tys A) : nw4 s := F.2.2.2.2.2.2.2.2.2
theorem Fx.fix (F : Fx p s m args meth c cc n Ts own ret D tys A) : CallFix p m c cc n s args Ts own := ⟨F.1, F.2.1, F.2.2.1, F.2.2.2.1, F.2.2.2.2.1⟩
theorem Fx.at (F : Fx p s m args meth c cc n Ts own ret D tys A) {x : Cond} (i : Nat) (h : Ts[i]? = some x) : x.before args s = true := F.hts x (List.mem_of_getElem? h)
theorem wk_top {x y : Int32} (h : x = y) (kk : Wk p l e R s m args below meth c n D A cells slots Q w lv pc (.int y :: rest)) : Wk p l e R s m args below meth c n D A cells slots Q w lv pc (.int x :: rest) := h ▸ kk
theorem wk_lv {lv' : List (Nat × Value)} (ks : List Nat) (h : lv_pick lv ks = lv') (kk : Wk p l e R s m args below meth c n D A cells slots Q w lv' pc rest) : Wk p l e R s m args below meth c n D A cells slots Q w lv pc rest := fun H locs ls hP hD hS hl => kk H locs ls hP hD hS (lv_sub hl ks h)
theorem wk_w {w' : va_W} (h : w = w') (kk : Wk p l e R s m args below meth c n D A cells slots Q w' lv pc rest) : Wk p l e R s m args below meth c n D A cells slots Q w lv pc rest := h ▸ kk
theorem wk_pick {w' : va_W} (is : List Nat) (hn : va_nd is = true) (h : is.map (fun i => w[i]?) = w'.map some) (kk : Wk p l e R s m args below meth c n D A cells slots Q w' lv pc rest) : Wk p l e R s m args below meth c n D A cells slots Q w lv pc rest := fun H locs ls hP hD hS hl => kk H locs ls (hP.sub is (by
  have h2 : (is.map (fun i => w[i]?)).filterMap id = (w'.map some).filterMap id := by rw [h]
  rw [List.filterMap_map, List.filterMap_map] at h2
  simpa using h2)) (hD.sub is hn h) hS hl
theorem wk_iload_n (F : Fx p s m args meth c cc n Ts own ret D tys A) {k : Fin 4} {i : Nat} {x : Int32} (hdg : decode cc pc = .ok (.iload_n k, 1)) (hi : (k : Nat) = i) (q : Nat) (h : lv[q]? = some (i, .int x)) (hpc : pc + 1 = pc') (kk : Wk p l e R s m args below meth c n D A cells slots Q w lv pc' (.int x :: rest)) : Wk p l e R s m args below meth c n D A cells slots Q w lv pc (rest) := by
  subst hpc
  exact fun H locs ls hP hD hS hl => lv_iload_n F.1 F.2.1 hdg hi (lv_at hl q h) (kk H locs ls hP hD hS hl)
theorem wk_iload (F : Fx p s m args meth c cc n Ts own ret D tys A) {i : Nat} {x : Int32} (hdg : decode cc pc = .ok (.iload i, 2)) (q : Nat) (h : lv[q]? = some (i, .int x)) (hpc : pc + 2 = pc') (kk : Wk p l e R s m args below meth c n D A cells slots Q w lv pc' (.int x :: rest)) : Wk p l e R s m args below meth c n D A cells slots Q w lv pc (rest) := by
  subst hpc
  exact fun H locs ls hP hD hS hl => lv_iload F.1 F.2.1 hdg (lv_at hl q h) (kk H locs ls hP hD hS hl)
theorem wk_aload_n (F : Fx p s m args meth c cc n Ts own ret D tys A) {k : Fin 4} {i : Nat} {x : Nat} (hdg : decode cc pc = .ok (.aload_n k, 1)) (hi : (k : Nat) = i) (q : Nat) (h : lv[q]? = some (i, .ref x)) (hpc : pc + 1 = pc') (kk : Wk p l e R s m args below meth c n D A cells slots Q w lv pc' (.ref x :: rest)) : Wk p l e R s m args below meth c n D A cells slots Q w lv pc (rest) := by
  subst hpc
  exact fun H locs ls hP hD hS hl => lv_aload_n F.1 F.2.1 hdg hi (lv_at hl q h) (kk H locs ls hP hD hS hl)
theorem wk_aload (F : Fx p s m args meth c cc n Ts own ret D tys A) {i : Nat} {x : Nat} (hdg : decode cc pc = .ok (.aload i, 2)) (q : Nat) (h : lv[q]? = some (i, .ref x)) (hpc : pc + 2 = pc') (kk : Wk p l e R s m args below meth c n D A cells slots Q w lv pc' (.ref x :: rest)) : Wk p l e R s m args below meth c n D A cells slots Q w lv pc (rest) := by
  subst hpc
  exact fun H locs ls hP hD hS hl => lv_aload F.1 F.2.1 hdg (lv_at hl q h) (kk H locs ls hP hD hS hl)
theorem wk_iconst (F : Fx p s m args meth c cc n Ts own ret D tys A) {k : Int} {v : Int32} (hdg : decode cc pc = .ok (.iconst k, 1)) (hv : Int32.ofInt k = v) (hpc : pc + 1 = pc') (kk : Wk p l e R s m args below meth c n D A cells slots Q w lv pc' (.int v :: rest)) : Wk p l e R s m args below meth c n D A cells slots Q w lv pc (rest) := by
  subst hpc
  exact fun H locs ls hP hD hS hl => lv_iconst F.1 F.2.1 hdg hv (kk H locs ls hP hD hS hl)
theorem wk_bipush (F : Fx p s m args meth c cc n Ts own ret D tys A) {k : Int} {v : Int32} (hdg : decode cc pc = .ok (.bipush k, 2)) (hv : (Int8.ofInt k).toInt32 = v) (hpc : pc + 2 = pc') (kk : Wk p l e R s m args below meth c n D A cells slots Q w lv pc' (.int v :: rest)) : Wk p l e R s m args below meth c n D A cells slots Q w lv pc (rest) := by
  subst hpc
  exact fun H locs ls hP hD hS hl => lv_bipush F.1 F.2.1 hdg hv (kk H locs ls hP hD hS hl)
theorem wk_sipush (F : Fx p s m args meth c cc n Ts own ret D tys A) {k : Int} {v : Int32} (hdg : decode cc pc = .ok (.sipush k, 3)) (hv : (Int16.ofInt k).toInt32 = v) (hpc : pc + 3 = pc') (kk : Wk p l e R s m args below meth c n D A cells slots Q w lv pc' (.int v :: rest)) : Wk p l e R s m args below meth c n D A cells slots Q w lv pc (rest) := by
  subst hpc
  exact fun H locs ls hP hD hS hl => lv_sipush F.1 F.2.1 hdg hv (kk H locs ls hP hD hS hl)
theorem wk_ldc (F : Fx p s m args meth c cc n Ts own ret D tys A) {index : Nat} {v : Int32} (hdg : decode cc pc = .ok (.ldc index, 2)) (hc : (Cond.constant own index v).before args s = true) (hpc : pc + 2 = pc') (kk : Wk p l e R s m args below meth c n D A cells slots Q w lv pc' (.int v :: rest)) : Wk p l e R s m args below meth c n D A cells slots Q w lv pc (rest) := by
  subst hpc
  exact fun H locs ls hP hD hS hl => lv_ldc F.1 F.2.1 F.hown hc hdg (kk H locs ls hP hD hS hl)
theorem wk_dup (F : Fx p s m args meth c cc n Ts own ret D tys A) {va : Value} (hdg : decode cc pc = .ok (.dup, 1)) (hva : va.category = 1) (hpc : pc + 1 = pc') (kk : Wk p l e R s m args below meth c n D A cells slots Q w lv pc' (va :: va :: rest)) : Wk p l e R s m args below meth c n D A cells slots Q w lv pc (va :: rest) := by
  subst hpc
  exact fun H locs ls hP hD hS hl => lv_dup F.1 F.2.1 hdg hva (kk H locs ls hP hD hS hl)
theorem wk_dup2 (F : Fx p s m args meth c cc n Ts own ret D tys A) {va vb : Value} (hdg : decode cc pc = .ok (.dup2, 1)) (hva : va.category = 1) (hvb : vb.category = 1) (hpc : pc + 1 = pc') (kk : Wk p l e R s m args below meth c n D A cells slots Q w lv pc' (va :: vb :: va :: vb :: rest)) : Wk p l e R s m args below meth c n D A cells slots Q w lv pc (va :: vb :: rest) := by
  subst hpc
  exact fun H locs ls hP hD hS hl => lv_dup2_11 F.1 F.2.1 hdg hva hvb (kk H locs ls hP hD hS hl)
theorem wk_pop (F : Fx p s m args meth c cc n Ts own ret D tys A) {va : Value} (hdg : decode cc pc = .ok (.pop, 1)) (hva : va.category = 1) (hpc : pc + 1 = pc') (kk : Wk p l e R s m args below meth c n D A cells slots Q w lv pc' (rest)) : Wk p l e R s m args below meth c n D A cells slots Q w lv pc (va :: rest) := by
  subst hpc
  exact fun H locs ls hP hD hS hl => lv_pop F.1 F.2.1 hdg hva (kk H locs ls hP hD hS hl)
theorem wk_iadd (F : Fx p s m args meth c cc n Ts own ret D tys A) {x y : Int32} (hdg : decode cc pc = .ok (.iadd, 1)) (hpc : pc + 1 = pc') (kk : Wk p l e R s m args below meth c n D A cells slots Q w lv pc' (.int (x + y) :: rest)) : Wk p l e R s m args below meth c n D A cells slots Q w lv pc (.int y :: .int x :: rest) := by
  subst hpc
  exact fun H locs ls hP hD hS hl => lv_iadd F.1 F.2.1 hdg (kk H locs ls hP hD hS hl)
theorem wk_isub (F : Fx p s m args meth c cc n Ts own ret D tys A) {x y : Int32} (hdg : decode cc pc = .ok (.isub, 1)) (hpc : pc + 1 = pc') (kk : Wk p l e R s m args below meth c n D A cells slots Q w lv pc' (.int (x - y) :: rest)) : Wk p l e R s m args below meth c n D A cells slots Q w lv pc (.int y :: .int x :: rest) := by
  subst hpc
  exact fun H locs ls hP hD hS hl => lv_isub F.1 F.2.1 hdg (kk H locs ls hP hD hS hl)
theorem wk_imul (F : Fx p s m args meth c cc n Ts own ret D tys A) {x y : Int32} (hdg : decode cc pc = .ok (.imul, 1)) (hpc : pc + 1 = pc') (kk : Wk p l e R s m args below meth c n D A cells slots Q w lv pc' (.int (x * y) :: rest)) : Wk p l e R s m args below meth c n D A cells slots Q w lv pc (.int y :: .int x :: rest) := by
  subst hpc
  exact fun H locs ls hP hD hS hl => lv_imul F.1 F.2.1 hdg (kk H locs ls hP hD hS hl)
theorem wk_iand (F : Fx p s m args meth c cc n Ts own ret D tys A) {x y : Int32} (hdg : decode cc pc = .ok (.iand, 1)) (hpc : pc + 1 = pc') (kk : Wk p l e R s m args below meth c n D A cells slots Q w lv pc' (.int (x &&& y) :: rest)) : Wk p l e R s m args below meth c n D A cells slots Q w lv pc (.int y :: .int x :: rest) := by
  subst hpc
  exact fun H locs ls hP hD hS hl => lv_iand F.1 F.2.1 hdg (kk H locs ls hP hD hS hl)
theorem wk_ior (F : Fx p s m args meth c cc n Ts own ret D tys A) {x y : Int32} (hdg : decode cc pc = .ok (.ior, 1)) (hpc : pc + 1 = pc') (kk : Wk p l e R s m args below meth c n D A cells slots Q w lv pc' (.int (x ||| y) :: rest)) : Wk p l e R s m args below meth c n D A cells slots Q w lv pc (.int y :: .int x :: rest) := by
  subst hpc
  exact fun H locs ls hP hD hS hl => lv_ior F.1 F.2.1 hdg (kk H locs ls hP hD hS hl)
theorem wk_ixor (F : Fx p s m args meth c cc n Ts own ret D tys A) {x y : Int32} (hdg : decode cc pc = .ok (.ixor, 1)) (hpc : pc + 1 = pc') (kk : Wk p l e R s m args below meth c n D A cells slots Q w lv pc' (.int (x ^^^ y) :: rest)) : Wk p l e R s m args below meth c n D A cells slots Q w lv pc (.int y :: .int x :: rest) := by
  subst hpc
  exact fun H locs ls hP hD hS hl => lv_ixor F.1 F.2.1 hdg (kk H locs ls hP hD hS hl)
theorem wk_ishl (F : Fx p s m args meth c cc n Ts own ret D tys A) {x y : Int32} (hdg : decode cc pc = .ok (.ishl, 1)) (hpc : pc + 1 = pc') (kk : Wk p l e R s m args below meth c n D A cells slots Q w lv pc' (.int (x <<< (y &&& 31)) :: rest)) : Wk p l e R s m args below meth c n D A cells slots Q w lv pc (.int y :: .int x :: rest) := by
  subst hpc
  exact fun H locs ls hP hD hS hl => lv_ishl F.1 F.2.1 hdg (kk H locs ls hP hD hS hl)
theorem wk_ishr (F : Fx p s m args meth c cc n Ts own ret D tys A) {x y : Int32} (hdg : decode cc pc = .ok (.ishr, 1)) (hpc : pc + 1 = pc') (kk : Wk p l e R s m args below meth c n D A cells slots Q w lv pc' (.int (x >>> (y &&& 31)) :: rest)) : Wk p l e R s m args below meth c n D A cells slots Q w lv pc (.int y :: .int x :: rest) := by
  subst hpc
  exact fun H locs ls hP hD hS hl => lv_ishr F.1 F.2.1 hdg (kk H locs ls hP hD hS hl)
theorem wk_idiv (F : Fx p s m args meth c cc n Ts own ret D tys A) {x y : Int32} (hdg : decode cc pc = .ok (.idiv, 1)) (hne : ¬ y = 0) (hpc : pc + 1 = pc') (kk : Wk p l e R s m args below meth c n D A cells slots Q w lv pc' (.int (x / y) :: rest)) : Wk p l e R s m args below meth c n D A cells slots Q w lv pc (.int y :: .int x :: rest) := by
  subst hpc
  exact fun H locs ls hP hD hS hl => lv_idiv F.1 F.2.1 hdg hne (kk H locs ls hP hD hS hl)
theorem wk_irem (F : Fx p s m args meth c cc n Ts own ret D tys A) {x y : Int32} (hdg : decode cc pc = .ok (.irem, 1)) (hne : ¬ y = 0) (hpc : pc + 1 = pc') (kk : Wk p l e R s m args below meth c n D A cells slots Q w lv pc' (.int (x - x / y * y) :: rest)) : Wk p l e R s m args below meth c n D A cells slots Q w lv pc (.int y :: .int x :: rest) := by
  subst hpc
  exact fun H locs ls hP hD hS hl => lv_irem F.1 F.2.1 hdg hne (kk H locs ls hP hD hS hl)
theorem wk_ifnull (F : Fx p s m args meth c cc n Ts own ret D tys A) {x : Nat} {off : Int} (hdg : decode cc pc = .ok (.ifnull off, 3)) (hpc : pc + 3 = pc') (kk : Wk p l e R s m args below meth c n D A cells slots Q w lv pc' (rest)) : Wk p l e R s m args below meth c n D A cells slots Q w lv pc (.ref x :: rest) := by
  subst hpc
  exact fun H locs ls hP hD hS hl => lv_ifnull F.1 F.2.1 hdg (kk H locs ls hP hD hS hl)
theorem wk_istore_n (F : Fx p s m args meth c cc n Ts own ret D tys A) {k : Fin 4} {i : Nat} {x : Int32} {lv' : List (Nat × Value)} (hdg : decode cc pc = .ok (.istore_n k, 1)) (hi : (k : Nat) = i) (hn : i < n) (hl' : (i, Value.int x) :: lv.filter (fun q => !(q.1 == i) && !(q.1 + 1 == i && q.2.category == 2)) = lv') (hpc : pc + 1 = pc') (kk : Wk p l e R s m args below meth c n D A cells slots Q w lv' pc' (rest)) : Wk p l e R s m args below meth c n D A cells slots Q w lv pc (Value.int x :: rest) := by
  subst hpc
  exact fun H locs ls hP hD hS hl => lv_istore_n F.1 F.2.1 hdg hi hl hn hl' (fun ls' h => kk H locs ls' hP hD hS h)
theorem wk_istore (F : Fx p s m args meth c cc n Ts own ret D tys A) {i : Nat} {x : Int32} {lv' : List (Nat × Value)} (hdg : decode cc pc = .ok (.istore i, 2)) (hn : i < n) (hl' : (i, Value.int x) :: lv.filter (fun q => !(q.1 == i) && !(q.1 + 1 == i && q.2.category == 2)) = lv') (hpc : pc + 2 = pc') (kk : Wk p l e R s m args below meth c n D A cells slots Q w lv' pc' (rest)) : Wk p l e R s m args below meth c n D A cells slots Q w lv pc (Value.int x :: rest) := by
  subst hpc
  exact fun H locs ls hP hD hS hl => lv_istore F.1 F.2.1 hdg hl hn hl' (fun ls' h => kk H locs ls' hP hD hS h)
theorem wk_astore_n (F : Fx p s m args meth c cc n Ts own ret D tys A) {k : Fin 4} {i : Nat} {x : Nat} {lv' : List (Nat × Value)} (hdg : decode cc pc = .ok (.astore_n k, 1)) (hi : (k : Nat) = i) (hn : i < n) (hl' : (i, Value.ref x) :: lv.filter (fun q => !(q.1 == i) && !(q.1 + 1 == i && q.2.category == 2)) = lv') (hpc : pc + 1 = pc') (kk : Wk p l e R s m args below meth c n D A cells slots Q w lv' pc' (rest)) : Wk p l e R s m args below meth c n D A cells slots Q w lv pc (Value.ref x :: rest) := by
  subst hpc
  exact fun H locs ls hP hD hS hl => lv_astore_n F.1 F.2.1 hdg hi hl hn hl' (fun ls' h => kk H locs ls' hP hD hS h)
theorem wk_astore (F : Fx p s m args meth c cc n Ts own ret D tys A) {i : Nat} {x : Nat} {lv' : List (Nat × Value)} (hdg : decode cc pc = .ok (.astore i, 2)) (hn : i < n) (hl' : (i, Value.ref x) :: lv.filter (fun q => !(q.1 == i) && !(q.1 + 1 == i && q.2.category == 2)) = lv') (hpc : pc + 2 = pc') (kk : Wk p l e R s m args below meth c n D A cells slots Q w lv' pc' (rest)) : Wk p l e R s m args below meth c n D A cells slots Q w lv pc (Value.ref x :: rest) := by
  subst hpc
  exact fun H locs ls hP hD hS hl => lv_astore F.1 F.2.1 hdg hl hn hl' (fun ls' h => kk H locs ls' hP hD hS h)
theorem wk_iinc (F : Fx p s m args meth c cc n Ts own ret D tys A) {i k : Nat} {z : Int} {x v : Int32} {lv' : List (Nat × Value)} (hdg : decode cc pc = .ok (.iinc i z, 3)) (hk : lv[k]? = some (i, .int x)) (hv : x + Int32.ofInt z = v) (hn : i < n) (hl' : (i, Value.int v) :: lv.filter (fun q => !(q.1 == i) && !(q.1 + 1 == i && q.2.category == 2)) = lv') (hpc : pc + 3 = pc') (kk : Wk p l e R s m args below meth c n D A cells slots Q w lv' pc' (rest)) : Wk p l e R s m args below meth c n D A cells slots Q w lv pc (rest) := by
  subst hpc
  exact fun H locs ls hP hD hS hl => lv_iinc F.1 F.2.1 hdg hl hk hv hn hl' (fun ls' h => kk H locs ls' hP hD hS h)
theorem wk_icmp_eq (F : Fx p s m args meth c cc n Ts own ret D tys A) {x y : Int32} {off : Int} {tgt : Nat} (hdg : decode cc pc = .ok (.if_icmp .eq off, 3)) (ht : (pc : Int) + off = (tgt : Int)) (hpc : pc + 3 = pc') (kt : x = y → Wk p l e R s m args below meth c n D A cells slots Q w lv tgt (rest)) (kf : ¬ x = y → Wk p l e R s m args below meth c n D A cells slots Q w lv pc' (rest)) : Wk p l e R s m args below meth c n D A cells slots Q w lv pc (.int y :: .int x :: rest) := by
  subst hpc
  exact fun H locs ls hP hD hS hl => lv_icmp_eq F.1 F.2.1 hdg ht (fun h => kt h H locs ls hP hD hS hl) (fun h => kf h H locs ls hP hD hS hl)
theorem wk_if_eq (F : Fx p s m args meth c cc n Ts own ret D tys A) {x : Int32} {off : Int} {tgt : Nat} (hdg : decode cc pc = .ok (.ifCond .eq off, 3)) (ht : (pc : Int) + off = (tgt : Int)) (hpc : pc + 3 = pc') (kt : x = 0 → Wk p l e R s m args below meth c n D A cells slots Q w lv tgt (rest)) (kf : ¬ x = 0 → Wk p l e R s m args below meth c n D A cells slots Q w lv pc' (rest)) : Wk p l e R s m args below meth c n D A cells slots Q w lv pc (.int x :: rest) := by
  subst hpc
  exact fun H locs ls hP hD hS hl => lv_if_eq F.1 F.2.1 hdg ht (fun h => kt h H locs ls hP hD hS hl) (fun h => kf h H locs ls hP hD hS hl)
theorem wk_icmp_ne (F : Fx p s m args meth c cc n Ts own ret D tys A) {x y : Int32} {off : Int} {tgt : Nat} (hdg : decode cc pc = .ok (.if_icmp .ne off, 3)) (ht : (pc : Int) + off = (tgt : Int)) (hpc : pc + 3 = pc') (kt : ¬ x = y → Wk p l e R s m args below meth c n D A cells slots Q w lv tgt (rest)) (kf : x = y → Wk p l e R s m args below meth c n D A cells slots Q w lv pc' (rest)) : Wk p l e R s m args below meth c n D A cells slots Q w lv pc (.int y :: .int x :: rest) := by
  subst hpc
  exact fun H locs ls hP hD hS hl => lv_icmp_ne F.1 F.2.1 hdg ht (fun h => kt h H locs ls hP hD hS hl) (fun h => kf h H locs ls hP hD hS hl)
theorem wk_if_ne (F : Fx p s m args meth c cc n Ts own ret D tys A) {x : Int32} {off : Int} {tgt : Nat} (hdg : decode cc pc = .ok (.ifCond .ne off, 3)) (ht : (pc : Int) + off = (tgt : Int)) (hpc : pc + 3 = pc') (kt : ¬ x = 0 → Wk p l e R s m args below meth c n D A cells slots Q w lv tgt (rest)) (kf : x = 0 → Wk p l e R s m args below meth c n D A cells slots Q w lv pc' (rest)) : Wk p l e R s m args below meth c n D A cells slots Q w lv pc (.int x :: rest) := by
  subst hpc
  exact fun H locs ls hP hD hS hl => lv_if_ne F.1 F.2.1 hdg ht (fun h => kt h H locs ls hP hD hS hl) (fun h => kf h H locs ls hP hD hS hl)
theorem wk_icmp_lt (F : Fx p s m args meth c cc n Ts own ret D tys A) {x y : Int32} {off : Int} {tgt : Nat} (hdg : decode cc pc = .ok (.if_icmp .lt off, 3)) (ht : (pc : Int) + off = (tgt : Int)) (hpc : pc + 3 = pc') (kt : x < y → Wk p l e R s m args below meth c n D A cells slots Q w lv tgt (rest)) (kf : ¬ x < y → Wk p l e R s m args below meth c n D A cells slots Q w lv pc' (rest)) : Wk p l e R s m args below meth c n D A cells slots Q w lv pc (.int y :: .int x :: rest) := by
  subst hpc
  exact fun H locs ls hP hD hS hl => lv_icmp_lt F.1 F.2.1 hdg ht (fun h => kt h H locs ls hP hD hS hl) (fun h => kf h H locs ls hP hD hS hl)
theorem wk_if_lt (F : Fx p s m args meth c cc n Ts own ret D tys A) {x : Int32} {off : Int} {tgt : Nat} (hdg : decode cc pc = .ok (.ifCond .lt off, 3)) (ht : (pc : Int) + off = (tgt : Int)) (hpc : pc + 3 = pc') (kt : x < 0 → Wk p l e R s m args below meth c n D A cells slots Q w lv tgt (rest)) (kf : ¬ x < 0 → Wk p l e R s m args below meth c n D A cells slots Q w lv pc' (rest)) : Wk p l e R s m args below meth c n D A cells slots Q w lv pc (.int x :: rest) := by
  subst hpc
  exact fun H locs ls hP hD hS hl => lv_if_lt F.1 F.2.1 hdg ht (fun h => kt h H locs ls hP hD hS hl) (fun h => kf h H locs ls hP hD hS hl)
theorem wk_icmp_ge (F : Fx p s m args meth c cc n Ts own ret D tys A) {x y : Int32} {off : Int} {tgt : Nat} (hdg : decode cc pc = .ok (.if_icmp .ge off, 3)) (ht : (pc : Int) + off = (tgt : Int)) (hpc : pc + 3 = pc') (kt : y ≤ x → Wk p l e R s m args below meth c n D A cells slots Q w lv tgt (rest)) (kf : ¬ y ≤ x → Wk p l e R s m args below meth c n D A cells slots Q w lv pc' (rest)) : Wk p l e R s m args below meth c n D A cells slots Q w lv pc (.int y :: .int x :: rest) := by
  subst hpc
  exact fun H locs ls hP hD hS hl => lv_icmp_ge F.1 F.2.1 hdg ht (fun h => kt h H locs ls hP hD hS hl) (fun h => kf h H locs ls hP hD hS hl)
theorem wk_if_ge (F : Fx p s m args meth c cc n Ts own ret D tys A) {x : Int32} {off : Int} {tgt : Nat} (hdg : decode cc pc = .ok (.ifCond .ge off, 3)) (ht : (pc : Int) + off = (tgt : Int)) (hpc : pc + 3 = pc') (kt : 0 ≤ x → Wk p l e R s m args below meth c n D A cells slots Q w lv tgt (rest)) (kf : ¬ 0 ≤ x → Wk p l e R s m args below meth c n D A cells slots Q w lv pc' (rest)) : Wk p l e R s m args below meth c n D A cells slots Q w lv pc (.int x :: rest) := by
  subst hpc
  exact fun H locs ls hP hD hS hl => lv_if_ge F.1 F.2.1 hdg ht (fun h => kt h H locs ls hP hD hS hl) (fun h => kf h H locs ls hP hD hS hl)
theorem wk_icmp_gt (F : Fx p s m args meth c cc n Ts own ret D tys A) {x y : Int32} {off : Int} {tgt : Nat} (hdg : decode cc pc = .ok (.if_icmp .gt off, 3)) (ht : (pc : Int) + off = (tgt : Int)) (hpc : pc + 3 = pc') (kt : y < x → Wk p l e R s m args below meth c n D A cells slots Q w lv tgt (rest)) (kf : ¬ y < x → Wk p l e R s m args below meth c n D A cells slots Q w lv pc' (rest)) : Wk p l e R s m args below meth c n D A cells slots Q w lv pc (.int y :: .int x :: rest) := by
  subst hpc
  exact fun H locs ls hP hD hS hl => lv_icmp_gt F.1 F.2.1 hdg ht (fun h => kt h H locs ls hP hD hS hl) (fun h => kf h H locs ls hP hD hS hl)
theorem wk_if_gt (F : Fx p s m args meth c cc n Ts own ret D tys A) {x : Int32} {off : Int} {tgt : Nat} (hdg : decode cc pc = .ok (.ifCond .gt off, 3)) (ht : (pc : Int) + off = (tgt : Int)) (hpc : pc + 3 = pc') (kt : 0 < x → Wk p l e R s m args below meth c n D A cells slots Q w lv tgt (rest)) (kf : ¬ 0 < x → Wk p l e R s m args below meth c n D A cells slots Q w lv pc' (rest)) : Wk p l e R s m args below meth c n D A cells slots Q w lv pc (.int x :: rest) := by
  subst hpc
  exact fun H locs ls hP hD hS hl => lv_if_gt F.1 F.2.1 hdg ht (fun h => kt h H locs ls hP hD hS hl) (fun h => kf h H locs ls hP hD hS hl)
theorem wk_icmp_le (F : Fx p s m args meth c cc n Ts own ret D tys A) {x y : Int32} {off : Int} {tgt : Nat} (hdg : decode cc pc = .ok (.if_icmp .le off, 3)) (ht : (pc : Int) + off = (tgt : Int)) (hpc : pc + 3 = pc') (kt : x ≤ y → Wk p l e R s m args below meth c n D A cells slots Q w lv tgt (rest)) (kf : ¬ x ≤ y → Wk p l e R s m args below meth c n D A cells slots Q w lv pc' (rest)) : Wk p l e R s m args below meth c n D A cells slots Q w lv pc (.int y :: .int x :: rest) := by
  subst hpc
  exact fun H locs ls hP hD hS hl => lv_icmp_le F.1 F.2.1 hdg ht (fun h => kt h H locs ls hP hD hS hl) (fun h => kf h H locs ls hP hD hS hl)
theorem wk_if_le (F : Fx p s m args meth c cc n Ts own ret D tys A) {x : Int32} {off : Int} {tgt : Nat} (hdg : decode cc pc = .ok (.ifCond .le off, 3)) (ht : (pc : Int) + off = (tgt : Int)) (hpc : pc + 3 = pc') (kt : x ≤ 0 → Wk p l e R s m args below meth c n D A cells slots Q w lv tgt (rest)) (kf : ¬ x ≤ 0 → Wk p l e R s m args below meth c n D A cells slots Q w lv pc' (rest)) : Wk p l e R s m args below meth c n D A cells slots Q w lv pc (.int x :: rest) := by
  subst hpc
  exact fun H locs ls hP hD hS hl => lv_if_le F.1 F.2.1 hdg ht (fun h => kt h H locs ls hP hD hS hl) (fun h => kf h H locs ls hP hD hS hl)
theorem wk_goto (F : Fx p s m args meth c cc n Ts own ret D tys A) {off : Int} {tgt : Nat} (hdg : decode cc pc = .ok (.goto off, 3)) (ht : (pc : Int) + off = (tgt : Int)) (kk : Wk p l e R s m args below meth c n D A cells slots Q w lv tgt (rest)) : Wk p l e R s m args below meth c n D A cells slots Q w lv pc (rest) := fun H locs ls hP hD hS hl => lv_goto F.1 F.2.1 hdg ht (kk H locs ls hP hD hS hl)
theorem wk_ifnonnull (F : Fx p s m args meth c cc n Ts own ret D tys A) {x : Nat} {off : Int} {tgt : Nat} (hdg : decode cc pc = .ok (.ifnonnull off, 3)) (ht : (pc : Int) + off = (tgt : Int)) (kk : Wk p l e R s m args below meth c n D A cells slots Q w lv tgt (rest)) : Wk p l e R s m args below meth c n D A cells slots Q w lv pc (.ref x :: rest) := fun H locs ls hP hD hS hl => lv_ifnonnull F.1 F.2.1 hdg ht (kk H locs ls hP hD hS hl)
theorem wk_tableIn (F : Fx p s m args meth c cc n Ts own ret D tys A) {dflt lo hi : Int} {offs : Array Int} {len : Nat} {x : Int32} {off : Int} {tgt : Nat} (hdg : decode cc pc = .ok (.tableswitch dflt lo hi offs, len)) (h1 : ¬ x.toInt < lo) (h2 : ¬ hi < x.toInt) (ho : offs[(x.toInt - lo).toNat]? = some off) (ht : (pc : Int) + off = (tgt : Int)) (kk : Wk p l e R s m args below meth c n D A cells slots Q w lv tgt (rest)) : Wk p l e R s m args below meth c n D A cells slots Q w lv pc (.int x :: rest) := fun H locs ls hP hD hS hl => lv_tableIn F.1 F.2.1 hdg h1 h2 ho ht (kk H locs ls hP hD hS hl)
theorem wk_tableOut (F : Fx p s m args meth c cc n Ts own ret D tys A) {dflt lo hi : Int} {offs : Array Int} {len : Nat} {x : Int32} {tgt : Nat} (hdg : decode cc pc = .ok (.tableswitch dflt lo hi offs, len)) (h : x.toInt < lo ∨ hi < x.toInt) (ht : (pc : Int) + dflt = (tgt : Int)) (kk : Wk p l e R s m args below meth c n D A cells slots Q w lv tgt (rest)) : Wk p l e R s m args below meth c n D A cells slots Q w lv pc (.int x :: rest) := fun H locs ls hP hD hS hl => lv_tableOut F.1 F.2.1 hdg h ht (kk H locs ls hP hD hS hl)
theorem wk_lookup (F : Fx p s m args meth c cc n Ts own ret D tys A) {dflt : Int} {ps : Array (Int × Int)} {len : Nat} {x : Int32} {off : Int} {tgt : Nat} (hdg : decode cc pc = .ok (.lookupswitch dflt ps, len)) (hp : (ps.toList.zip (ps.toList.drop 1)).all (fun (a, next) => a.1 < next.1) = true) (ho : Op.lookupswitch.offset ps.toList dflt x.toInt = off) (ht : (pc : Int) + off = (tgt : Int)) (kk : Wk p l e R s m args below meth c n D A cells slots Q w lv tgt (rest)) : Wk p l e R s m args below meth c n D A cells slots Q w lv pc (.int x :: rest) := fun H locs ls hP hD hS hl => lv_lookup F.1 F.2.1 hdg hp ho ht (kk H locs ls hP hD hS hl)
theorem wk_iald (F : Fx p s m args meth c cc n Ts own ret D tys A) (q0 t0 : Nat) {a : Nat} {cA : ClassId} {N : Nat} {f : Nat → Int32} (ha : w[q0]? = some (a, .inl (cA, N, .inl f))) (ht : tys[t0]? = some (cA, .int)) {i : Int32} (hin : vp_in i N) (hdg : decode cc pc = .ok (.iaload, 1)) (hpc : pc + 1 = pc') (kk : Wk p l e R s m args below meth c n D A cells slots Q w lv pc' (.int (f i.toNatClampNeg) :: rest)) : Wk p l e R s m args below meth c n D A cells slots Q w lv pc (.int i :: .ref a :: rest) := by
  subst hpc
  exact fun H locs ls hP hD hS hl => va_iald F.1 F.2.1 F.hK hP q0 t0 ha ht hin hdg (kk H locs ls hP hD hS hl)
theorem wk_iald_n (F : Fx p s m args meth c cc n Ts own ret D tys A) (q0 t0 : Nat) {a : Nat} {cA : ClassId} {N : Nat} {f : Nat → Int32} (ha : w[q0]? = some (a, .inl (cA, N, .inl f))) (ht : tys[t0]? = some (cA, .int)) {i : Nat} (hi : i < N) (hN : N < 2 ^ 31) (hdg : decode cc pc = .ok (.iaload, 1)) (hpc : pc + 1 = pc') (kk : Wk p l e R s m args below meth c n D A cells slots Q w lv pc' (.int (f i) :: rest)) : Wk p l e R s m args below meth c n D A cells slots Q w lv pc (.int (nI i) :: .ref a :: rest) := wk_iald F q0 t0 ha ht (vp_in_nI hi hN) hdg hpc (by rw [nI_clamp (Nat.lt_trans hi hN)]; exact kk)
theorem wk_iast (F : Fx p s m args meth c cc n Ts own ret D tys A) (q0 t0 : Nat) {a : Nat} {cA : ClassId} {N : Nat} {f : Nat → Int32} {w' : va_W} {i x : Int32} (ha : w[q0]? = some (a, .inl (cA, N, .inl f))) (ht : tys[t0]? = some (cA, .int)) (hw : w.set q0 (a, .inl (cA, N, .inl (upd f i.toNatClampNeg x))) = w') (hin : vp_in i N) (hdg : decode cc pc = .ok (.iastore, 1)) (hpc : pc + 1 = pc') (kk : Wk p l e R s m args below meth c n D A cells slots Q w' lv pc' (rest)) : Wk p l e R s m args below meth c n D A cells slots Q w lv pc (.int x :: .int i :: .ref a :: rest) := by
  subst hw
  subst hpc
  exact fun H locs ls hP hD hS hl => va_iast F.1 F.2.1 F.hK hP hD hS q0 t0 ha ht hin hdg (fun H1 locs1 hP hD hS => kk H1 locs1 ls hP hD hS hl)
theorem wk_iast_n (F : Fx p s m args meth c cc n Ts own ret D tys A) (q0 t0 : Nat) {a : Nat} {cA : ClassId} {N : Nat} {f : Nat → Int32} {w' : va_W} {i : Nat} {x : Int32} (ha : w[q0]? = some (a, .inl (cA, N, .inl f))) (ht : tys[t0]? = some (cA, .int)) (hw : w.set q0 (a, .inl (cA, N, .inl (upd f i x))) = w') (hi : i < N) (hN : N < 2 ^ 31) (hdg : decode cc pc = .ok (.iastore, 1)) (hpc : pc + 1 = pc') (kk : Wk p l e R s m args below meth c n D A cells slots Q w' lv pc' (rest)) : Wk p l e R s m args below meth c n D A cells slots Q w lv pc (.int x :: .int (nI i) :: .ref a :: rest) := wk_iast F q0 t0 ha ht (by rw [nI_clamp (Nat.lt_trans hi hN)]; exact hw) (vp_in_nI hi hN) hdg hpc kk
theorem wk_aldq (F : Fx p s m args meth c cc n Ts own ret D tys A) (q0 t0 : Nat) {a b : Nat} {cA : ClassId} {C : String} {N : Nat} {f : Nat → Option Nat} (ha : w[q0]? = some (a, .inl (cA, N, .inr (.inr (.inr (.inr f)))))) (ht : tys[t0]? = some (cA, .object C)) {i : Int32} (hin : vp_in i N) (hv : f i.toNatClampNeg = some b) (hdg : decode cc pc = .ok (.aaload, 1)) (hpc : pc + 1 = pc') (kk : Wk p l e R s m args below meth c n D A cells slots Q w lv pc' (.ref b :: rest)) : Wk p l e R s m args below meth c n D A cells slots Q w lv pc (.int i :: .ref a :: rest) := by
  subst hpc
  exact fun H locs ls hP hD hS hl => va_aldq F.1 F.2.1 F.hK hP q0 t0 ha ht hin hdg (by rw [hv]; exact kk H locs ls hP hD hS hl)
theorem wk_get (F : Fx p s m args meth c cc n Ts own ret D tys A) {a ci : Nat} {fs : List Value} {C : String} {T : u_T} {N index : Nat} {v : Value} (q0 : Nat) (he : w[q0]? = some (a, .inr (ci, fs))) (hc : vwCl[ci]? = some (C, T, N)) (hin : ∀ w ∈ u_ws C T N, w ∈ Ts) (k : Nat) (hk : k < N) (hlink : (Cond.fieldLink own index (T k).1 (T k).2.1 (T k).2.2.1).before args s = true) (hv : fs[k]? = some v) (hdg : decode cc pc = .ok (.getfield index, 3)) (hpc : pc + 3 = pc') (kk : Wk p l e R s m args below meth c n D A cells slots Q w lv pc' (v :: rest)) : Wk p l e R s m args below meth c n D A cells slots Q w lv pc (.ref a :: rest) := by
  subst hpc
  exact fun H locs ls hP hD hS hl => va_get F.1 F.2.1 F.hts hin F.hown F.hK hP q0 he hc k hk hlink (fun _ h => h) hv hdg (kk H locs ls hP hD hS hl)
theorem wk_put (F : Fx p s m args meth c cc n Ts own ret D tys A) {a ci : Nat} {fs : List Value} {C : String} {T : u_T} {N index : Nat} {ty0 : Nat → FieldType} {w' : va_W} {x : Int32} (q0 : Nat) (he : w[q0]? = some (a, .inr (ci, fs))) (hc : vwCl[ci]? = some (C, T, N)) (hin : ∀ w ∈ u_ws C T N, w ∈ Ts) (hty : ∀ k, k < N → parseFieldDescriptor (T k).2.2.1 = some (ty0 k)) (hnm : ∀ a, a < N → ∀ b, b < N → a ≠ b → (T a).2.1 ≠ (T b).2.1) (k : Nat) (hk : k < N) (hlink : (Cond.fieldLink own index (T k).1 (T k).2.1 (T k).2.2.1).before args s = true) (hfin : (T k).2.2.2 = false) (hnr : narrow (ty0 k) (.int x) = .int x) (hft : fits (ty0 k) (.int x) = true) (hlen : k < fs.length) (hw : w.set q0 (a, .inr (ci, fs.set k (.int x))) = w') (hdg : decode cc pc = .ok (.putfield index, 3)) (hpc : pc + 3 = pc') (kk : Wk p l e R s m args below meth c n D A cells slots Q w' lv pc' (rest)) : Wk p l e R s m args below meth c n D A cells slots Q w lv pc (.int x :: .ref a :: rest) := by
  subst hw
  subst hpc
  exact fun H locs ls hP hD hS hl => va_put F.1 F.2.1 F.hts hin ty0 hty hnm F.hown F.hK hP hD hS q0 he hc k hk hlink (fun _ h => h) hfin (hty k hk) hnr hft hlen hdg (fun H1 locs1 hP hD hS => kk H1 locs1 ls hP hD hS hl)
theorem wk_putF (F : Fx p s m args meth c cc n Ts own ret D tys A) {a ci : Nat} {fs : List Value} {C : String} {T : u_T} {N index : Nat} {ty0 : Nat → FieldType} {w' : va_W} {x : Nat} (q0 : Nat) (he : w[q0]? = some (a, .inr (ci, fs))) (hc : vwCl[ci]? = some (C, T, N)) (hin : ∀ w ∈ u_ws C T N, w ∈ Ts) (hty : ∀ k, k < N → parseFieldDescriptor (T k).2.2.1 = some (ty0 k)) (hnm : ∀ a, a < N → ∀ b, b < N → a ≠ b → (T a).2.1 ≠ (T b).2.1) (k : Nat) (hk : k < N) (hlink : (Cond.fieldLink own index (T k).1 (T k).2.1 (T k).2.2.1).before args s = true) (hfin : (T k).2.2.2 = true) (hin2 : meth.name = "<init>") (hdecl : (T k).1 = own) (hnr : narrow (ty0 k) (.ref x) = .ref x) (hft : fits (ty0 k) (.ref x) = true) (hlen : k < fs.length) (hw : w.set q0 (a, .inr (ci, fs.set k (.ref x))) = w') (hdg : decode cc pc = .ok (.putfield index, 3)) (hpc : pc + 3 = pc') (kk : Wk p l e R s m args below meth c n D A cells slots Q w' lv pc' (rest)) : Wk p l e R s m args below meth c n D A cells slots Q w lv pc (.ref x :: .ref a :: rest) := by
  subst hw
  subst hpc
  exact fun H locs ls hP hD hS hl => va_putF F.1 F.2.1 F.hts hin ty0 hty hnm F.hown F.hK hP hD hS q0 he hc k hk hlink (fun _ h => h) hfin hin2 hdecl (hty k hk) hnr hft hlen hdg (fun H1 locs1 hP hD hS => kk H1 locs1 ls hP hD hS hl)
theorem wk_mmax (F : Fx p s m args meth c cc n Ts own ret D tys A) {x y : Int32} {index : Nat} (hlink : (Cond.methodLink own index Lib.Math.max.name).before args s = true) (hstat : (Cond.static Lib.Math.max.name).before args s = true) (hini : (Cond.initialized "java/lang/Math").before args s = true) (hcode : (Cond.code Lib.Math.max.name Lib.Math.max.code 2 (some .int)).before args s = true) (hfr : 1 ≤ R.frames) (hlo : (rest.map fun v => v.category).sum + 13 ≤ R.locals) (hcs : cells ≤ R.cells) (hss : slots ≤ R.slots) (hdg : decode cc pc = .ok (.invokestatic index, 3)) (hpc : pc + 3 = pc') (kk : Wk p l e R s m args below meth c n D A cells slots Q w lv pc' (.int (if x < y then y else x) :: rest)) : Wk p l e R s m args below meth c n D A cells slots Q w lv pc (.int y :: .int x :: rest) := by
  subst hpc
  exact fun H locs ls hP hD hS hl => va_mmax F.1 F.2.1 (F.2.2.1.trans hl.1.symm) F.hown hlink hstat hini hcode hfr hlo hcs hss hdg (kk H locs ls hP hD hS hl)
theorem wk_mmin (F : Fx p s m args meth c cc n Ts own ret D tys A) {x y : Int32} {index : Nat} (hlink : (Cond.methodLink own index Lib.Math.min.name).before args s = true) (hstat : (Cond.static Lib.Math.min.name).before args s = true) (hini : (Cond.initialized "java/lang/Math").before args s = true) (hcode : (Cond.code Lib.Math.min.name Lib.Math.min.code 2 (some .int)).before args s = true) (hfr : 1 ≤ R.frames) (hlo : (rest.map fun v => v.category).sum + 13 ≤ R.locals) (hcs : cells ≤ R.cells) (hss : slots ≤ R.slots) (hdg : decode cc pc = .ok (.invokestatic index, 3)) (hpc : pc + 3 = pc') (kk : Wk p l e R s m args below meth c n D A cells slots Q w lv pc' (.int (if y < x then y else x) :: rest)) : Wk p l e R s m args below meth c n D A cells slots Q w lv pc (.int y :: .int x :: rest) := by
  subst hpc
  exact fun H locs ls hP hD hS hl => va_mmin F.1 F.2.1 (F.2.2.1.trans hl.1.symm) F.hown hlink hstat hini hcode hfr hlo hcs hss hdg (kk H locs ls hP hD hS hl)
theorem wk_copyi (F : Fx p s m args meth c cc n Ts own ret D tys A) (q0 q1 t0 t1 : Nat) {index a0 a : Nat} {c0 c1 : ClassId} {n0 n1 : Nat} {f g : Nat → Int32} {w' : va_W} {sp dp k : Int32} (hlink : (Cond.methodLink own index arraycopyName).before args s = true) (hnat : (Cond.native arraycopyName).before args s = true) (hstat : (Cond.static arraycopyName).before args s = true) (hini : (Cond.initialized "java/lang/System").before args s = true) (ha0 : w[q0]? = some (a0, .inl (c0, n0, .inl f))) (ha1 : w[q1]? = some (a, .inl (c1, n1, .inl g))) (ht0 : tys[t0]? = some (c0, .int)) (ht1 : tys[t1]? = some (c1, .int)) (h1 : ¬ sp < 0) (h2 : ¬ dp < 0) (h3 : ¬ k < 0) (h4 : sp.toNatClampNeg + k.toNatClampNeg ≤ n0) (h5 : dp.toNatClampNeg + k.toNatClampNeg ≤ n1) (hfr : 1 ≤ R.frames) (hlo : (rest.map fun v => v.category).sum + (nativeFrameWords "java/lang/System" "arraycopy" 5 + 11) ≤ R.locals) (hw : w.set q1 (a, .inl (c1, n1, .inl (va_cpy f g sp.toNatClampNeg dp.toNatClampNeg k.toNatClampNeg))) = w') (hdg : decode cc pc = .ok (.invokestatic index, 3)) (hpc : pc + 3 = pc') (kk : Wk p l e R s m args below meth c n D A cells slots Q w' lv pc' (rest)) : Wk p l e R s m args below meth c n D A cells slots Q w lv pc (.int k :: .int dp :: .ref a :: .int sp :: .ref a0 :: rest) := by
  subst hw
  subst hpc
  exact fun H locs ls hP hD hS hl => va_copyi F.1 F.2.1 (F.2.2.1.trans hl.1.symm) F.hown hlink hnat hstat hini F.hK hP hD hS q0 q1 t0 t1 ha0 ha1 ht0 ht1 rfl h1 h2 h3 h4 h5 (fun _ _ => rfl) hfr hlo hdg (fun H1 locs1 hP hD hS => kk H1 locs1 ls hP hD hS hl)
theorem wk_iastu (F : Fx p s m args meth c cc n Ts own ret D tys A) (q0 t0 : Nat) {a : Nat} {cA : ClassId} {N : Nat} {f : Nat → Int32} {S0 : Type} {wg : S0 → va_W} {f0 : S0} {i x : Int32} (ha : w[q0]? = some (a, .inl (cA, N, .inl f))) (ht : tys[t0]? = some (cA, .int)) (hw : w.set q0 (a, .inl (cA, N, .inl (upd f i.toNatClampNeg x))) = wg f0) (hin : vp_in i N) (hdg : decode cc pc = .ok (.iastore, 1)) (hpc : pc + 1 = pc') (kk : ∀ u, f0 = u → Wk p l e R s m args below meth c n D A cells slots Q (wg u) lv pc' (rest)) : Wk p l e R s m args below meth c n D A cells slots Q w lv pc (.int x :: .int i :: .ref a :: rest) := wk_iast F q0 t0 ha ht hw hin hdg hpc (kk f0 rfl)
theorem wk_iastu_n (F : Fx p s m args meth c cc n Ts own ret D tys A) (q0 t0 : Nat) {a : Nat} {cA : ClassId} {N : Nat} {f : Nat → Int32} {S0 : Type} {wg : S0 → va_W} {f0 : S0} {i : Nat} {x : Int32} (ha : w[q0]? = some (a, .inl (cA, N, .inl f))) (ht : tys[t0]? = some (cA, .int)) (hw : w.set q0 (a, .inl (cA, N, .inl (upd f i x))) = wg f0) (hi : i < N) (hN : N < 2 ^ 31) (hdg : decode cc pc = .ok (.iastore, 1)) (hpc : pc + 1 = pc') (kk : ∀ u, f0 = u → Wk p l e R s m args below meth c n D A cells slots Q (wg u) lv pc' (rest)) : Wk p l e R s m args below meth c n D A cells slots Q w lv pc (.int x :: .int (nI i) :: .ref a :: rest) := wk_iast_n F q0 t0 ha ht hw hi hN hdg hpc (kk f0 rfl)
theorem wk_putu (F : Fx p s m args meth c cc n Ts own ret D tys A) {a ci : Nat} {fs : List Value} {C : String} {T : u_T} {N index : Nat} {ty0 : Nat → FieldType} {S0 : Type} {wg : S0 → va_W} {f0 : S0} {x : Int32} (q0 : Nat) (he : w[q0]? = some (a, .inr (ci, fs))) (hc : vwCl[ci]? = some (C, T, N)) (hin : ∀ w ∈ u_ws C T N, w ∈ Ts) (hty : ∀ k, k < N → parseFieldDescriptor (T k).2.2.1 = some (ty0 k)) (hnm : ∀ a, a < N → ∀ b, b < N → a ≠ b → (T a).2.1 ≠ (T b).2.1) (k : Nat) (hk : k < N) (hlink : (Cond.fieldLink own index (T k).1 (T k).2.1 (T k).2.2.1).before args s = true) (hfin : (T k).2.2.2 = false) (hnr : narrow (ty0 k) (.int x) = .int x) (hft : fits (ty0 k) (.int x) = true) (hlen : k < fs.length) (hw : w.set q0 (a, .inr (ci, fs.set k (.int x))) = wg f0) (hdg : decode cc pc = .ok (.putfield index, 3)) (hpc : pc + 3 = pc') (kk : ∀ u, f0 = u → Wk p l e R s m args below meth c n D A cells slots Q (wg u) lv pc' (rest)) : Wk p l e R s m args below meth c n D A cells slots Q w lv pc (.int x :: .ref a :: rest) := wk_put F q0 he hc hin hty hnm k hk hlink hfin hnr hft hlen hw hdg hpc (kk f0 rfl)
theorem wk_objInit (F : Fx p s m args meth c cc n Ts own ret D tys A) {idx a : Nat} (hlink : (Cond.methodLink own idx objectInit).before args s = true) (hinst : (Cond.instanceMethod objectInit).before args s = true) (hcode : (Cond.code objectInit ⟨#[0xb1]⟩ 1 none).before args s = true) (hdg : decode cc pc = .ok (.invokespecial idx, 3)) (hfr : 1 ≤ R.frames) (hlo : (rest.map fun v => v.category).sum + 12 ≤ R.locals) (hpc : pc + 3 = pc') (kk : Wk p l e R s m args below meth c n D A cells slots Q w lv pc' (rest)) : Wk p l e R s m args below meth c n D A cells slots Q w lv pc (.ref a :: rest) := by
  subst hpc
  exact fun H locs ls hP hD hS hl => W.objInit F.1 F.2.1 F.hown hlink hinst hcode rfl (hl.1.trans F.2.2.1.symm) rfl hdg hfr (by show 2 * 0 + _ + 12 ≤ _; omega) (kk H locs ls hP hD hS hl)
theorem wk_copyiu (F : Fx p s m args meth c cc n Ts own ret D tys A) (q0 q1 t0 t1 : Nat) {index a0 a : Nat} {c0 c1 : ClassId} {n0 n1 : Nat} {f g : Nat → Int32} {S0 : Type} {wg : S0 → va_W} {f0 : S0} {sp dp k : Int32} (hlink : (Cond.methodLink own index arraycopyName).before args s = true) (hnat : (Cond.native arraycopyName).before args s = true) (hstat : (Cond.static arraycopyName).before args s = true) (hini : (Cond.initialized "java/lang/System").before args s = true) (ha0 : w[q0]? = some (a0, .inl (c0, n0, .inl f))) (ha1 : w[q1]? = some (a, .inl (c1, n1, .inl g))) (ht0 : tys[t0]? = some (c0, .int)) (ht1 : tys[t1]? = some (c1, .int)) (h1 : ¬ sp < 0) (h2 : ¬ dp < 0) (h3 : ¬ k < 0) (h4 : sp.toNatClampNeg + k.toNatClampNeg ≤ n0) (h5 : dp.toNatClampNeg + k.toNatClampNeg ≤ n1) (hfr : 1 ≤ R.frames) (hlo : (rest.map fun v => v.category).sum + (nativeFrameWords "java/lang/System" "arraycopy" 5 + 11) ≤ R.locals) (hw : w.set q1 (a, .inl (c1, n1, .inl (va_cpy f g sp.toNatClampNeg dp.toNatClampNeg k.toNatClampNeg))) = wg f0) (hdg : decode cc pc = .ok (.invokestatic index, 3)) (hpc : pc + 3 = pc') (kk : ∀ u, f0 = u → Wk p l e R s m args below meth c n D A cells slots Q (wg u) lv pc' (rest)) : Wk p l e R s m args below meth c n D A cells slots Q w lv pc (.int k :: .int dp :: .ref a :: .int sp :: .ref a0 :: rest) := wk_copyi F q0 q1 t0 t1 hlink hnat hstat hini ha0 ha1 ht0 ht1 h1 h2 h3 h4 h5 hfr hlo hw hdg hpc (kk f0 rfl)

end WK
/-! CONTRACTS: the world ahead, the world behind, the answer -/
def cPc (D : va_G) (tys : List (ClassId × FieldType)) (w0 : va_W) (av : List Value) (sz : Nat) : Array Value → State → Prop := va_Pc av (fun U => U.heap.size = sz ∧ va_P D vwCl w0 U.heap ∧ va_K D vwCl tys U ∧ va_D (fun _ => True) w0 ∧ nw4 U)
def cBc {S : Type} (D : va_G) (tys : List (ClassId × FieldType)) (wf : S → va_W) (w0 : va_W) (sz : Nat) : S → State → Prop := fun u t => va_P D vwCl (wf u) t.heap ∧ va_K D vwCl tys t ∧ va_D (va_A w0 sz) (wf u)
def CI {S : Type} (l : Launch) (y : MethodName) (ws : List Cond) (rm : Room) (D : va_G) (tys : List (ClassId × FieldType)) (w0 : va_W) (wf : S → va_W) (av : List Value) (mc ms : Nat) (post : Int32 → S → Prop) : Prop :=
  ∀ sz : Nat, Met l y ws rm (cPc D tys w0 av sz) (va_Qi post (cBc D tys wf w0 sz) (va_A w0 sz)) mc ms (va_A w0 sz)
def CV {S : Type} (l : Launch) (y : MethodName) (ws : List Cond) (rm : Room) (D : va_G) (tys : List (ClassId × FieldType)) (w0 : va_W) (wf : S → va_W) (av : List Value) (mc ms : Nat) (post : S → Prop) : Prop :=
  ∀ sz : Nat, Met l y ws rm (cPc D tys w0 av sz) (va_Qv post (cBc D tys wf w0 sz) (va_A w0 sz)) mc ms (va_A w0 sz)
theorem cPc_blind {D : va_G} {tys : List (ClassId × FieldType)} {w0 : va_W} {av : List Value} {sz : Nat} : FrameBlind (cPc D tys w0 av sz) := by
  intro a U g mk q
  obtain ⟨q0, q1, qP, qK, qD, qN⟩ := q
  exact ⟨q0, q1, qP, va_K.moved (u := U) (U := U.calling g mk a) (Vm.Alike.refl U.vm) qK, qD, nw4.same (u := U) (U := U.calling g mk a) rfl qN⟩
theorem fm_of {α β : Type} {f : α → Option β} {l : List α} {r : List β} (h : l.map f = r.map some) : l.filterMap f = r := by
  have h2 : (l.map f).filterMap id = (r.map some).filterMap id := by rw [h]
  rw [List.filterMap_map, List.filterMap_map] at h2
  simpa using h2
theorem CI.of {S : Type} {l : Launch} {y : MethodName} {ws ws' : List Cond} {rm : Room} {D : va_G} {tys : List (ClassId × FieldType)} {w0 : va_W} {wf : S → va_W} {av : List Value} {mc ms : Nat} {post : Int32 → S → Prop} {cc : ByteArray} {maxL : Nat} {rt : FieldType} {own : String} {lv0 : List (Nat × Value)}
    (hy : plainName y.cls = true) (hown : y.cls = own) (hw : ws = Cond.code y cc maxL (some rt) :: ws') (hn : (lg_sl av).length ≤ maxL) (hlv : lv_args 0 av = lv0)
    (body : ∀ (p : Program) (e : Env) (s : State) (m : MethodId) (args : Array Value) (below : List Frame) (meth : Method) (c : Code) (A : Nat → Prop) (Q : State → Prop), Fx p s m args meth c cc maxL ws own (some rt) D tys A →
      (∀ (pc : Nat) (lv : List (Nat × Value)) (r : Int32) (u : S), decode cc pc = .ok (.ireturn, 1) → narrow rt (.int r) = .int r → post r u → Wk p l e rm s m args below meth c maxL D A mc ms Q (wf u) lv pc [.int r]) →
      Wk p l e rm s m args below meth c maxL D A 0 0 Q w0 lv0 0 []) : CI l y ws rm D tys w0 wf av mc ms post := by
  subst hlv
  intro sz
  refine Met.ofW (cc := cc) (maxL := maxL) (ret := some rt) hy hw ?_
  intro p e s m args below meth c s₁ B hml hv
  obtain ⟨rfl, hsz, hP, hK, hD0, hN⟩ := hv
  have hts := atoms_spec (ws := ws) B.pre
  have hown' : s.vm.findClass own = some m.cls := hown ▸ findClass_of_methodNamed B.named
  subst hsz
  have hD := hD0.self (sz := s.heap.size)
  have F : Fx p s m av.toArray meth c cc maxL ws own (some rt) D tys (va_A w0 s.heap.size) := ⟨B.exec, B.bytes, hml, hown', hts, B.returns, B.notSynchronized, hK, fun q h => Or.inr h, hN⟩
  have hl := lv_entry av (n := maxL) hn
  rw [lg_entry_eq]
  exact body p e s m av.toArray below meth c (va_A w0 s.heap.size) _ F (fun pc lv r u hdg hnr hpost H locs ls hP hD hS hl => W.zret B.exec B.bytes B.returns hnr (fun t ht hW => ⟨⟨r, u, rfl, hpost, by rw [ht]; exact hP, va_K.moved hW.alike hK, hD⟩, hS.F ht⟩) hS.2.2 hdg B.notSynchronized) s.heap [] _ hP hD va_S.rf hl
theorem CV.of {S : Type} {l : Launch} {y : MethodName} {ws ws' : List Cond} {rm : Room} {D : va_G} {tys : List (ClassId × FieldType)} {w0 : va_W} {wf : S → va_W} {av : List Value} {mc ms : Nat} {post : S → Prop} {cc : ByteArray} {maxL : Nat} {own : String} {lv0 : List (Nat × Value)}
    (hy : plainName y.cls = true) (hown : y.cls = own) (hw : ws = Cond.code y cc maxL none :: ws') (hn : (lg_sl av).length ≤ maxL) (hlv : lv_args 0 av = lv0)
    (body : ∀ (p : Program) (e : Env) (s : State) (m : MethodId) (args : Array Value) (below : List Frame) (meth : Method) (c : Code) (A : Nat → Prop) (Q : State → Prop), Fx p s m args meth c cc maxL ws own none D tys A → meth.name = y.name →
      (∀ (pc : Nat) (lv : List (Nat × Value)) (u : S), decode cc pc = .ok (.return_, 1) → post u → Wk p l e rm s m args below meth c maxL D A mc ms Q (wf u) lv pc []) →
      Wk p l e rm s m args below meth c maxL D A 0 0 Q w0 lv0 0 []) : CV l y ws rm D tys w0 wf av mc ms post := by
  subst hlv
  intro sz
  refine Met.ofW (cc := cc) (maxL := maxL) (ret := none) hy hw ?_
  intro p e s m args below meth c s₁ B hml hv
  obtain ⟨rfl, hsz, hP, hK, hD0, hN⟩ := hv
  have hts := atoms_spec (ws := ws) B.pre
  have hown' : s.vm.findClass own = some m.cls := hown ▸ findClass_of_methodNamed B.named
  have hnm : meth.name = y.name := (name_of_methodNamed B.named B.method).1
  subst hsz
  have hD := hD0.self (sz := s.heap.size)
  have F : Fx p s m av.toArray meth c cc maxL ws own none D tys (va_A w0 s.heap.size) := ⟨B.exec, B.bytes, hml, hown', hts, B.returns, B.notSynchronized, hK, fun q h => Or.inr h, hN⟩
  have hl := lv_entry av (n := maxL) hn
  rw [lg_entry_eq]
  exact body p e s m av.toArray below meth c (va_A w0 s.heap.size) _ F hnm (fun pc lv u hdg hpost H locs ls hP hD hS hl => W.vret B.exec B.bytes B.returns (fun t ht hW => ⟨⟨u, rfl, hpost, by rw [ht]; exact hP, va_K.moved hW.alike hK, hD⟩, hS.F ht⟩) hS.2.2 hdg B.notSynchronized) s.heap [] _ hP hD va_S.rf hl
section WC
variable {p : Program} {l : Launch} {e : Env} {R : Room} {s : State} {m : MethodId} {args : Array Value} {below : List Frame} {meth : Method} {c : Code} {n : Nat} {D : va_G} {A : Nat → Prop} {cells slots : Nat} {Q : State → Prop} {w : va_W} {lv : List (Nat × Value)} {pc pc' : Nat} {st rest : List Value} {cc : ByteArray} {Ts : List Cond} {own : String} {ret : Option FieldType} {tys : List (ClassId × FieldType)}
variable {S : Type} {y : MethodName} {ws2 : List Cond} {rm2 : Room} {w0 wr : va_W} {wf : S → va_W} {b : Nat} {As : List Value} {mc ms maxL nA index : Nat} {bytes : ByteArray} {C : String}
theorem wk_calliV (F : Fx p s m args meth c cc n Ts own ret D tys A) {rt : FieldType} {post : Int32 → S → Prop} (hM : CI l y ws2 rm2 D tys w0 wf (.ref b :: As) mc ms post) (cw : CallW R s args own C index y bytes maxL (some rt) ws2 rm2 mc ms nA) (isC isR : List Nat) (hC : isC.map (fun i => w[i]?) = w0.map some) (hR : isR.map (fun i => w[i]?) = wr.map some) (hnC : va_nd isC = true) (hnR : va_nd isR = true) (hdis : ∀ i ∈ isR, i ∉ isC) (q0 ci : Nat) {fs : List Value} {T : u_T} {N : Nat} (hrec : w0[q0]? = some (b, .inr (ci, fs))) (hcl : vwCl[ci]? = some (C, T, N)) (hn : As.length = nA) (hst : st = As.reverse ++ (.ref b :: rest)) (hsum : (rest.map fun v => v.category).sum ≤ 8) (hdg : decode cc pc = .ok (.invokevirtual index, 3)) (hroom : cells + mc ≤ R.cells ∧ slots + ms ≤ R.slots) (hpc : pc + 3 = pc') (kk : ∀ (r : Int32) (u : S), post r u → Wk p l e R s m args below meth c n D A (cells + mc) (slots + ms) Q (wr ++ wf u) lv pc' (.int r :: rest)) : Wk p l e R s m args below meth c n D A cells slots Q w lv pc st := by
  subst hpc
  intro H locs ls hP hD hS hl
  have hPc := hP.sub isC (fm_of hC)
  have hDc := hD.sub isC hnC hC
  have hFc := va_free (wc := w0) hD hS F.hA isC hC
  refine va_calli (va_runV (As := As) (rest := rest) F.fix (hM H.size) cw ⟨cPc_blind, va_recv F.hK hPc hcl hrec, fun U hU hW => ⟨rfl, by rw [hU], by rw [hU]; exact hPc, va_K.moved hW.alike F.hK, hDc.weaken (fun _ _ _ _ => trivial), F.nw.warm hW⟩⟩ rfl hn hl.1 hst (lv_room (rest := st) (ls := ls) (m := m) (pc := pc) hsum) hdg hroom) hS (fun q _ h => hFc q h) hFc (fun r u t H1 locs1 ht hvm hpost hB hz1 hk1 hS => ?_)
  obtain ⟨hP1, hK1, hD1⟩ := hB
  rw [ht] at hP1
  obtain ⟨hP2, hD2⟩ := va_join hP hD isC isR hC hR hnR hdis hk1 hFc hP1 hD1
  exact kk r u hpost H1 locs1 ls hP2 hD2 hS hl
theorem wk_callvV (F : Fx p s m args meth c cc n Ts own ret D tys A) {post : S → Prop} (hM : CV l y ws2 rm2 D tys w0 wf (.ref b :: As) mc ms post) (cw : CallW R s args own C index y bytes maxL none ws2 rm2 mc ms nA) (isC isR : List Nat) (hC : isC.map (fun i => w[i]?) = w0.map some) (hR : isR.map (fun i => w[i]?) = wr.map some) (hnC : va_nd isC = true) (hnR : va_nd isR = true) (hdis : ∀ i ∈ isR, i ∉ isC) (q0 ci : Nat) {fs : List Value} {T : u_T} {N : Nat} (hrec : w0[q0]? = some (b, .inr (ci, fs))) (hcl : vwCl[ci]? = some (C, T, N)) (hn : As.length = nA) (hst : st = As.reverse ++ (.ref b :: rest)) (hsum : (rest.map fun v => v.category).sum ≤ 8) (hdg : decode cc pc = .ok (.invokevirtual index, 3)) (hroom : cells + mc ≤ R.cells ∧ slots + ms ≤ R.slots) (hpc : pc + 3 = pc') (kk : ∀ u : S, post u → Wk p l e R s m args below meth c n D A (cells + mc) (slots + ms) Q (wr ++ wf u) lv pc' rest) : Wk p l e R s m args below meth c n D A cells slots Q w lv pc st := by
  subst hpc
  intro H locs ls hP hD hS hl
  have hPc := hP.sub isC (fm_of hC)
  have hDc := hD.sub isC hnC hC
  have hFc := va_free (wc := w0) hD hS F.hA isC hC
  refine va_callv (va_runV (As := As) (rest := rest) F.fix (hM H.size) cw ⟨cPc_blind, va_recv F.hK hPc hcl hrec, fun U hU hW => ⟨rfl, by rw [hU], by rw [hU]; exact hPc, va_K.moved hW.alike F.hK, hDc.weaken (fun _ _ _ _ => trivial), F.nw.warm hW⟩⟩ rfl hn hl.1 hst (lv_room (rest := st) (ls := ls) (m := m) (pc := pc) hsum) hdg hroom) hS (fun q _ h => hFc q h) hFc (fun u t H1 locs1 ht hvm hpost hB hz1 hk1 hS => ?_)
  obtain ⟨hP1, hK1, hD1⟩ := hB
  rw [ht] at hP1
  obtain ⟨hP2, hD2⟩ := va_join hP hD isC isR hC hR hnR hdis hk1 hFc hP1 hD1
  exact kk u hpost H1 locs1 ls hP2 hD2 hS hl
theorem wk_calliS (F : Fx p s m args meth c cc n Ts own ret D tys A) {rt : FieldType} {post : Int32 → S → Prop} (hM : CI l y ws2 rm2 D tys w0 wf As mc ms post) (cw : CallB R s args own index y bytes maxL (some rt) ws2 rm2 mc ms nA ∧ (Cond.static y).before args s = true) (isC isR : List Nat) (hC : isC.map (fun i => w[i]?) = w0.map some) (hR : isR.map (fun i => w[i]?) = wr.map some) (hnC : va_nd isC = true) (hnR : va_nd isR = true) (hdis : ∀ i ∈ isR, i ∉ isC) (hn : As.length = nA) (hst : st = As.reverse ++ rest) (hsum : (rest.map fun v => v.category).sum ≤ 8) (hdg : decode cc pc = .ok (.invokestatic index, 3)) (hroom : cells + mc ≤ R.cells ∧ slots + ms ≤ R.slots) (hpc : pc + 3 = pc') (kk : ∀ (r : Int32) (u : S), post r u → Wk p l e R s m args below meth c n D A (cells + mc) (slots + ms) Q (wr ++ wf u) lv pc' (.int r :: rest)) : Wk p l e R s m args below meth c n D A cells slots Q w lv pc st := by
  subst hpc
  intro H locs ls hP hD hS hl
  have hPc := hP.sub isC (fm_of hC)
  have hDc := hD.sub isC hnC hC
  have hFc := va_free (wc := w0) hD hS F.hA isC hC
  refine va_calli (va_runS (As := As) (rest := rest) F.fix (hM H.size) cw ⟨cPc_blind, fun U hU hW => ⟨rfl, by rw [hU], by rw [hU]; exact hPc, va_K.moved hW.alike F.hK, hDc.weaken (fun _ _ _ _ => trivial), F.nw.warm hW⟩⟩ rfl hn hl.1 hst (lv_room (rest := st) (ls := ls) (m := m) (pc := pc) hsum) hdg hroom) hS (fun q _ h => hFc q h) hFc (fun r u t H1 locs1 ht hvm hpost hB hz1 hk1 hS => ?_)
  obtain ⟨hP1, hK1, hD1⟩ := hB
  rw [ht] at hP1
  obtain ⟨hP2, hD2⟩ := va_join hP hD isC isR hC hR hnR hdis hk1 hFc hP1 hD1
  exact kk r u hpost H1 locs1 ls hP2 hD2 hS hl
theorem wk_calliSN {host : String} (F : Fx p s m args meth c cc n Ts own ret D tys A) {rt : FieldType} {post : Int32 → S → Prop} (hM : CI l y ws2 rm2 D tys w0 wf As mc ms post) (cw : va_CN R s args own index y host bytes maxL (some rt) ws2 rm2 mc ms nA ∧ (Cond.static y).before args s = true ∧ True) (isC isR : List Nat) (hC : isC.map (fun i => w[i]?) = w0.map some) (hR : isR.map (fun i => w[i]?) = wr.map some) (hnC : va_nd isC = true) (hnR : va_nd isR = true) (hdis : ∀ i ∈ isR, i ∉ isC) (hn : As.length = nA) (hst : st = As.reverse ++ rest) (hsum : (rest.map fun v => v.category).sum ≤ 8) (hdg : decode cc pc = .ok (.invokestatic index, 3)) (hroom : cells + mc ≤ R.cells ∧ slots + ms ≤ R.slots) (hpc : pc + 3 = pc') (kk : ∀ (r : Int32) (u : S), post r u → Wk p l e R s m args below meth c n D A (cells + mc) (slots + ms) Q (wr ++ wf u) lv pc' (.int r :: rest)) : Wk p l e R s m args below meth c n D A cells slots Q w lv pc st := by
  subst hpc
  intro H locs ls hP hD hS hl
  have hPc := hP.sub isC (fm_of hC)
  have hDc := hD.sub isC hnC hC
  have hFc := va_free (wc := w0) hD hS F.hA isC hC
  refine va_calli (va_runSN (As := As) (rest := rest) F.fix (hM H.size) cw ⟨cPc_blind, fun U hU hW => ⟨rfl, by rw [hU], by rw [hU]; exact hPc, va_K.moved hW.alike F.hK, hDc.weaken (fun _ _ _ _ => trivial), F.nw.warm hW⟩⟩ rfl hn hl.1 hst (lv_room (rest := st) (ls := ls) (m := m) (pc := pc) hsum) hdg hroom) hS (fun q _ h => hFc q h) hFc (fun r u t H1 locs1 ht hvm hpost hB hz1 hk1 hS => ?_)
  obtain ⟨hP1, hK1, hD1⟩ := hB
  rw [ht] at hP1
  obtain ⟨hP2, hD2⟩ := va_join hP hD isC isR hC hR hnR hdis hk1 hFc hP1 hD1
  exact kk r u hpost H1 locs1 ls hP2 hD2 hS hl
theorem wk_callvS (F : Fx p s m args meth c cc n Ts own ret D tys A) {post : S → Prop} (hM : CV l y ws2 rm2 D tys w0 wf As mc ms post) (cw : CallB R s args own index y bytes maxL none ws2 rm2 mc ms nA ∧ (Cond.static y).before args s = true) (isC isR : List Nat) (hC : isC.map (fun i => w[i]?) = w0.map some) (hR : isR.map (fun i => w[i]?) = wr.map some) (hnC : va_nd isC = true) (hnR : va_nd isR = true) (hdis : ∀ i ∈ isR, i ∉ isC) (hn : As.length = nA) (hst : st = As.reverse ++ rest) (hsum : (rest.map fun v => v.category).sum ≤ 8) (hdg : decode cc pc = .ok (.invokestatic index, 3)) (hroom : cells + mc ≤ R.cells ∧ slots + ms ≤ R.slots) (hpc : pc + 3 = pc') (kk : ∀ u : S, post u → Wk p l e R s m args below meth c n D A (cells + mc) (slots + ms) Q (wr ++ wf u) lv pc' rest) : Wk p l e R s m args below meth c n D A cells slots Q w lv pc st := by
  subst hpc
  intro H locs ls hP hD hS hl
  have hPc := hP.sub isC (fm_of hC)
  have hDc := hD.sub isC hnC hC
  have hFc := va_free (wc := w0) hD hS F.hA isC hC
  refine va_callv (va_runS (As := As) (rest := rest) F.fix (hM H.size) cw ⟨cPc_blind, fun U hU hW => ⟨rfl, by rw [hU], by rw [hU]; exact hPc, va_K.moved hW.alike F.hK, hDc.weaken (fun _ _ _ _ => trivial), F.nw.warm hW⟩⟩ rfl hn hl.1 hst (lv_room (rest := st) (ls := ls) (m := m) (pc := pc) hsum) hdg hroom) hS (fun q _ h => hFc q h) hFc (fun u t H1 locs1 ht hvm hpost hB hz1 hk1 hS => ?_)
  obtain ⟨hP1, hK1, hD1⟩ := hB
  rw [ht] at hP1
  obtain ⟨hP2, hD2⟩ := va_join hP hD isC isR hC hR hnR hdis hk1 hFc hP1 hD1
  exact kk u hpost H1 locs1 ls hP2 hD2 hS hl
theorem wk_callvI (F : Fx p s m args meth c cc n Ts own ret D tys A) {post : S → Prop} (hM : CV l y ws2 rm2 D tys w0 wf (.ref b :: As) mc ms post) (cw : CallB R s args own index y bytes maxL none ws2 rm2 mc ms nA ∧ y.name = "<init>" ∧ (Cond.instanceMethod y).before args s = true) (isC isR : List Nat) (hC : isC.map (fun i => w[i]?) = w0.map some) (hR : isR.map (fun i => w[i]?) = wr.map some) (hnC : va_nd isC = true) (hnR : va_nd isR = true) (hdis : ∀ i ∈ isR, i ∉ isC) (hn : As.length = nA) (hst : st = As.reverse ++ (.ref b :: rest)) (hsum : (rest.map fun v => v.category).sum ≤ 8) (hdg : decode cc pc = .ok (.invokespecial index, 3)) (hroom : cells + mc ≤ R.cells ∧ slots + ms ≤ R.slots) (hpc : pc + 3 = pc') (kk : ∀ u : S, post u → Wk p l e R s m args below meth c n D A (cells + mc) (slots + ms) Q (wr ++ wf u) lv pc' rest) : Wk p l e R s m args below meth c n D A cells slots Q w lv pc st := by
  subst hpc
  intro H locs ls hP hD hS hl
  have hPc := hP.sub isC (fm_of hC)
  have hDc := hD.sub isC hnC hC
  have hFc := va_free (wc := w0) hD hS F.hA isC hC
  refine va_callv (va_runI (As := As) (rest := rest) F.fix (hM H.size) cw ⟨cPc_blind, fun U hU hW => ⟨rfl, by rw [hU], by rw [hU]; exact hPc, va_K.moved hW.alike F.hK, hDc.weaken (fun _ _ _ _ => trivial), F.nw.warm hW⟩⟩ rfl hn hl.1 hst (lv_room (rest := st) (ls := ls) (m := m) (pc := pc) hsum) hdg hroom) hS (fun q _ h => hFc q h) hFc (fun u t H1 locs1 ht hvm hpost hB hz1 hk1 hS => ?_)
  obtain ⟨hP1, hK1, hD1⟩ := hB
  rw [ht] at hP1
  obtain ⟨hP2, hD2⟩ := va_join hP hD isC isR hC hR hnR hdis hk1 hFc hP1 hD1
  exact kk u hpost H1 locs1 ls hP2 hD2 hS hl
theorem wk_callvIN {host : String} (F : Fx p s m args meth c cc n Ts own ret D tys A) {post : S → Prop} (hM : CV l y ws2 rm2 D tys w0 wf (.ref b :: As) mc ms post) (cw : va_CN R s args own index y host bytes maxL none ws2 rm2 mc ms nA ∧ y.name = "<init>" ∧ (Cond.instanceMethod y).before args s = true) (isC isR : List Nat) (hC : isC.map (fun i => w[i]?) = w0.map some) (hR : isR.map (fun i => w[i]?) = wr.map some) (hnC : va_nd isC = true) (hnR : va_nd isR = true) (hdis : ∀ i ∈ isR, i ∉ isC) (hn : As.length = nA) (hst : st = As.reverse ++ (.ref b :: rest)) (hsum : (rest.map fun v => v.category).sum ≤ 8) (hdg : decode cc pc = .ok (.invokespecial index, 3)) (hroom : cells + mc ≤ R.cells ∧ slots + ms ≤ R.slots) (hpc : pc + 3 = pc') (kk : ∀ u : S, post u → Wk p l e R s m args below meth c n D A (cells + mc) (slots + ms) Q (wr ++ wf u) lv pc' rest) : Wk p l e R s m args below meth c n D A cells slots Q w lv pc st := by
  subst hpc
  intro H locs ls hP hD hS hl
  have hPc := hP.sub isC (fm_of hC)
  have hDc := hD.sub isC hnC hC
  have hFc := va_free (wc := w0) hD hS F.hA isC hC
  refine va_callv (va_runIN (As := As) (rest := rest) F.fix (hM H.size) cw ⟨cPc_blind, fun U hU hW => ⟨rfl, by rw [hU], by rw [hU]; exact hPc, va_K.moved hW.alike F.hK, hDc.weaken (fun _ _ _ _ => trivial), F.nw.warm hW⟩⟩ rfl hn hl.1 hst (lv_room (rest := st) (ls := ls) (m := m) (pc := pc) hsum) hdg hroom) hS (fun q _ h => hFc q h) hFc (fun u t H1 locs1 ht hvm hpost hB hz1 hk1 hS => ?_)
  obtain ⟨hP1, hK1, hD1⟩ := hB
  rw [ht] at hP1
  obtain ⟨hP2, hD2⟩ := va_join hP hD isC isR hC hR hnR hdis hk1 hFc hP1 hD1
  exact kk u hpost H1 locs1 ls hP2 hD2 hS hl
theorem nd_range' (k : Nat) : ∀ a : Nat, va_nd (List.range' a k) = true := by
  induction k with
  | zero => intro a; rfl
  | succ k ih =>
    intro a
    rw [List.range'_succ]
    show (decide (a ∉ List.range' (a + 1) k) && va_nd (List.range' (a + 1) k)) = true
    rw [ih, Bool.and_true, decide_eq_true_eq]
    intro h
    have := (List.mem_range'_1.mp h).1
    omega
theorem nd_range (k : Nat) : va_nd (List.range k) = true := by
  rw [List.range_eq_range']
  exact nd_range' k 0
theorem all_map (w : va_W) : (List.range w.length).map (fun i => w[i]?) = w.map some := by
  apply List.ext_getElem?
  intro i
  by_cases h : i < w.length
  · simp [h]
  · simp [h]
/-- the callee's world is the caller's -/
theorem wk_same_i (F : Fx p s m args meth c cc n Ts own ret D tys A) {rt : FieldType} {post : Int32 → S → Prop} (hM : CI l y ws2 rm2 D tys w wf (.ref b :: As) 0 0 post) (cw : CallW R s args own C index y bytes maxL (some rt) ws2 rm2 0 0 nA) (q0 ci : Nat) {fs : List Value} {T : u_T} {N : Nat} (hrec : w[q0]? = some (b, .inr (ci, fs))) (hcl : vwCl[ci]? = some (C, T, N)) (hn : As.length = nA) (hst : st = As.reverse ++ (.ref b :: rest)) (hsum : (rest.map fun v => v.category).sum ≤ 8) (hdg : decode cc pc = .ok (.invokevirtual index, 3)) (hroom : cells ≤ R.cells ∧ slots ≤ R.slots) (hpc : pc + 3 = pc') (kk : ∀ (r : Int32) (u : S), post r u → Wk p l e R s m args below meth c n D A cells slots Q (wf u) lv pc' (.int r :: rest)) : Wk p l e R s m args below meth c n D A cells slots Q w lv pc st :=
  wk_calliV (wr := []) F hM cw (List.range w.length) [] (all_map w) rfl (nd_range _) rfl (fun _ h => absurd h List.not_mem_nil) q0 ci hrec hcl hn hst hsum hdg hroom hpc kk
theorem wk_same_v (F : Fx p s m args meth c cc n Ts own ret D tys A) {post : S → Prop} (hM : CV l y ws2 rm2 D tys w wf (.ref b :: As) 0 0 post) (cw : CallW R s args own C index y bytes maxL none ws2 rm2 0 0 nA) (q0 ci : Nat) {fs : List Value} {T : u_T} {N : Nat} (hrec : w[q0]? = some (b, .inr (ci, fs))) (hcl : vwCl[ci]? = some (C, T, N)) (hn : As.length = nA) (hst : st = As.reverse ++ (.ref b :: rest)) (hsum : (rest.map fun v => v.category).sum ≤ 8) (hdg : decode cc pc = .ok (.invokevirtual index, 3)) (hroom : cells ≤ R.cells ∧ slots ≤ R.slots) (hpc : pc + 3 = pc') (kk : ∀ u : S, post u → Wk p l e R s m args below meth c n D A cells slots Q (wf u) lv pc' rest) : Wk p l e R s m args below meth c n D A cells slots Q w lv pc st :=
  wk_callvV (wr := []) F hM cw (List.range w.length) [] (all_map w) rfl (nd_range _) rfl (fun _ h => absurd h List.not_mem_nil) q0 ci hrec hcl hn hst hsum hdg hroom hpc kk
/-- a method that answers and leaves its world as it was -/
def CP {S : Type} (l : Launch) (y : MethodName) (ws : List Cond) (rm : Room) (D : va_G) (tys : List (ClassId × FieldType)) (wf : S → va_W) (u : S) (av : List Value) (v : Int32) : Prop := CI l y ws rm D tys (wf u) wf av 0 0 (fun r u2 => r = v ∧ u2 = u)
/-- a method that sees no world -/
def CN (l : Launch) (y : MethodName) (ws : List Cond) (rm : Room) (D : va_G) (tys : List (ClassId × FieldType)) (av : List Value) (v : Int32) : Prop := CI (S := Unit) l y ws rm D tys [] (fun _ => []) av 0 0 (fun r _ => r = v)
theorem wk_same_p {u0 : S} {v : Int32} (F : Fx p s m args meth c cc n Ts own ret D tys A) {rt : FieldType} (hM : CP l y ws2 rm2 D tys wf u0 (.ref b :: As) v) (cw : CallW R s args own C index y bytes maxL (some rt) ws2 rm2 0 0 nA) (q0 ci : Nat) {fs : List Value} {T : u_T} {N : Nat} (hrec : (wf u0)[q0]? = some (b, .inr (ci, fs))) (hcl : vwCl[ci]? = some (C, T, N)) (hn : As.length = nA) (hst : st = As.reverse ++ (.ref b :: rest)) (hsum : (rest.map fun v => v.category).sum ≤ 8) (hdg : decode cc pc = .ok (.invokevirtual index, 3)) (hroom : cells ≤ R.cells ∧ slots ≤ R.slots) (hpc : pc + 3 = pc') (kk : Wk p l e R s m args below meth c n D A cells slots Q (wf u0) lv pc' (.int v :: rest)) : Wk p l e R s m args below meth c n D A cells slots Q (wf u0) lv pc st :=
  wk_same_i F hM cw q0 ci hrec hcl hn hst hsum hdg hroom hpc (fun r u h => by obtain ⟨h1, h2⟩ := h; rw [h1, h2]; exact kk)
theorem wk_sub_p {u0 : S} {v : Int32} (F : Fx p s m args meth c cc n Ts own ret D tys A) {rt : FieldType} (hM : CP l y ws2 rm2 D tys wf u0 (.ref b :: As) v) (cw : CallW R s args own C index y bytes maxL (some rt) ws2 rm2 0 0 nA) (isC isR : List Nat) (hC : isC.map (fun i => w[i]?) = (wf u0).map some) (hR : isR.map (fun i => w[i]?) = wr.map some) (hnC : va_nd isC = true) (hnR : va_nd isR = true) (hdis : ∀ i ∈ isR, i ∉ isC) (q0 ci : Nat) {fs : List Value} {T : u_T} {N : Nat} (hrec : (wf u0)[q0]? = some (b, .inr (ci, fs))) (hcl : vwCl[ci]? = some (C, T, N)) (hn : As.length = nA) (hst : st = As.reverse ++ (.ref b :: rest)) (hsum : (rest.map fun v => v.category).sum ≤ 8) (hdg : decode cc pc = .ok (.invokevirtual index, 3)) (hroom : cells ≤ R.cells ∧ slots ≤ R.slots) (hpc : pc + 3 = pc') (perm : List Nat) (hnp : va_nd perm = true) (hp : perm.map (fun i => (wr ++ wf u0)[i]?) = w.map some) (kk : Wk p l e R s m args below meth c n D A cells slots Q w lv pc' (.int v :: rest)) : Wk p l e R s m args below meth c n D A cells slots Q w lv pc st :=
  wk_calliV F hM cw isC isR hC hR hnC hnR hdis q0 ci hrec hcl hn hst hsum hdg hroom hpc (fun r u h => by obtain ⟨h1, h2⟩ := h; rw [h1, h2]; exact wk_pick perm hnp hp kk)
theorem wk_sub_i {f : Int32 × S} {w' : S → va_W} (F : Fx p s m args meth c cc n Ts own ret D tys A) {rt : FieldType} (hM : CI l y ws2 rm2 D tys w0 wf (.ref b :: As) 0 0 (fun r u => f = (r, u))) (cw : CallW R s args own C index y bytes maxL (some rt) ws2 rm2 0 0 nA) (isC isR : List Nat) (hC : isC.map (fun i => w[i]?) = w0.map some) (hR : isR.map (fun i => w[i]?) = wr.map some) (hnC : va_nd isC = true) (hnR : va_nd isR = true) (hdis : ∀ i ∈ isR, i ∉ isC) (q0 ci : Nat) {fs : List Value} {T : u_T} {N : Nat} (hrec : w0[q0]? = some (b, .inr (ci, fs))) (hcl : vwCl[ci]? = some (C, T, N)) (hn : As.length = nA) (hst : st = As.reverse ++ (.ref b :: rest)) (hsum : (rest.map fun v => v.category).sum ≤ 8) (hdg : decode cc pc = .ok (.invokevirtual index, 3)) (hroom : cells ≤ R.cells ∧ slots ≤ R.slots) (hpc : pc + 3 = pc') (hw : wr ++ wf f.2 = w' f.2) (kk : ∀ (r : Int32) (u : S), f = (r, u) → Wk p l e R s m args below meth c n D A cells slots Q (w' u) lv pc' (.int r :: rest)) : Wk p l e R s m args below meth c n D A cells slots Q w lv pc st :=
  wk_calliV F hM cw isC isR hC hR hnC hnR hdis q0 ci hrec hcl hn hst hsum hdg hroom hpc (fun r u h => (show wr ++ wf u = w' u by have h2 : f.2 = u := (by rw [h]); rw [← h2]; exact hw) ▸ kk r u h)
theorem wk_sub_v {f : S} {w' : S → va_W} (F : Fx p s m args meth c cc n Ts own ret D tys A) (hM : CV l y ws2 rm2 D tys w0 wf (.ref b :: As) 0 0 (fun u => f = u)) (cw : CallW R s args own C index y bytes maxL none ws2 rm2 0 0 nA) (isC isR : List Nat) (hC : isC.map (fun i => w[i]?) = w0.map some) (hR : isR.map (fun i => w[i]?) = wr.map some) (hnC : va_nd isC = true) (hnR : va_nd isR = true) (hdis : ∀ i ∈ isR, i ∉ isC) (q0 ci : Nat) {fs : List Value} {T : u_T} {N : Nat} (hrec : w0[q0]? = some (b, .inr (ci, fs))) (hcl : vwCl[ci]? = some (C, T, N)) (hn : As.length = nA) (hst : st = As.reverse ++ (.ref b :: rest)) (hsum : (rest.map fun v => v.category).sum ≤ 8) (hdg : decode cc pc = .ok (.invokevirtual index, 3)) (hroom : cells ≤ R.cells ∧ slots ≤ R.slots) (hpc : pc + 3 = pc') (hw : wr ++ wf f = w' f) (kk : ∀ u : S, f = u → Wk p l e R s m args below meth c n D A cells slots Q (w' u) lv pc' rest) : Wk p l e R s m args below meth c n D A cells slots Q w lv pc st :=
  wk_callvV F hM cw isC isR hC hR hnC hnR hdis q0 ci hrec hcl hn hst hsum hdg hroom hpc (fun u h => by rw [← h, hw]; exact kk f rfl)
theorem wk_none_s {v : Int32} (F : Fx p s m args meth c cc n Ts own ret D tys A) {rt : FieldType} (hM : CN l y ws2 rm2 D tys As v) (cw : CallB R s args own index y bytes maxL (some rt) ws2 rm2 0 0 nA ∧ (Cond.static y).before args s = true) (hn : As.length = nA) (hst : st = As.reverse ++ rest) (hsum : (rest.map fun v => v.category).sum ≤ 8) (hdg : decode cc pc = .ok (.invokestatic index, 3)) (hroom : cells ≤ R.cells ∧ slots ≤ R.slots) (hpc : pc + 3 = pc') (kk : Wk p l e R s m args below meth c n D A cells slots Q w lv pc' (.int v :: rest)) : Wk p l e R s m args below meth c n D A cells slots Q w lv pc st :=
  wk_calliS (wr := w) F hM cw [] (List.range w.length) rfl (all_map w) rfl (nd_range _) (fun _ _ h => absurd h List.not_mem_nil) hn hst hsum hdg hroom hpc (fun r u h => by rw [h, List.append_nil]; exact kk)
theorem wk_none_sn {host : String} {v : Int32} (F : Fx p s m args meth c cc n Ts own ret D tys A) {rt : FieldType} (hM : CN l y ws2 rm2 D tys As v) (cw : va_CN R s args own index y host bytes maxL (some rt) ws2 rm2 0 0 nA ∧ (Cond.static y).before args s = true ∧ True) (hn : As.length = nA) (hst : st = As.reverse ++ rest) (hsum : (rest.map fun v => v.category).sum ≤ 8) (hdg : decode cc pc = .ok (.invokestatic index, 3)) (hroom : cells ≤ R.cells ∧ slots ≤ R.slots) (hpc : pc + 3 = pc') (kk : Wk p l e R s m args below meth c n D A cells slots Q w lv pc' (.int v :: rest)) : Wk p l e R s m args below meth c n D A cells slots Q w lv pc st :=
  wk_calliSN (wr := w) F hM cw [] (List.range w.length) rfl (all_map w) rfl (nd_range _) (fun _ _ h => absurd h List.not_mem_nil) hn hst hsum hdg hroom hpc (fun r u h => by rw [h, List.append_nil]; exact kk)
end WC
theorem CP.of {S : Type} {l : Launch} {y : MethodName} {ws ws' : List Cond} {rm : Room} {D : va_G} {tys : List (ClassId × FieldType)} {wf : S → va_W} {u0 : S} {av : List Value} {v : Int32} {cc : ByteArray} {maxL : Nat} {rt : FieldType} {own : String} {lv0 : List (Nat × Value)}
    (hy : plainName y.cls = true) (hown : y.cls = own) (hw : ws = Cond.code y cc maxL (some rt) :: ws') (hn : (lg_sl av).length ≤ maxL) (hlv : lv_args 0 av = lv0)
    (body : ∀ (p : Program) (e : Env) (s : State) (m : MethodId) (args : Array Value) (below : List Frame) (meth : Method) (c : Code) (A : Nat → Prop) (Q : State → Prop), Fx p s m args meth c cc maxL ws own (some rt) D tys A →
      (∀ (pc : Nat) (lv : List (Nat × Value)) (r : Int32), decode cc pc = .ok (.ireturn, 1) → narrow rt (.int r) = .int r → r = v → Wk p l e rm s m args below meth c maxL D A 0 0 Q (wf u0) lv pc [.int r]) →
      Wk p l e rm s m args below meth c maxL D A 0 0 Q (wf u0) lv0 0 []) : CP l y ws rm D tys wf u0 av v :=
  CI.of hy hown hw hn hlv (fun p e s m args below meth c A Q F hret => body p e s m args below meth c A Q F (fun pc lv r hd hn2 h => hret pc lv r u0 hd hn2 ⟨h, rfl⟩))
theorem CN.of {l : Launch} {y : MethodName} {ws ws' : List Cond} {rm : Room} {D : va_G} {tys : List (ClassId × FieldType)} {av : List Value} {v : Int32} {cc : ByteArray} {maxL : Nat} {rt : FieldType} {own : String} {lv0 : List (Nat × Value)}
    (hy : plainName y.cls = true) (hown : y.cls = own) (hw : ws = Cond.code y cc maxL (some rt) :: ws') (hn : (lg_sl av).length ≤ maxL) (hlv : lv_args 0 av = lv0)
    (body : ∀ (p : Program) (e : Env) (s : State) (m : MethodId) (args : Array Value) (below : List Frame) (meth : Method) (c : Code) (A : Nat → Prop) (Q : State → Prop), Fx p s m args meth c cc maxL ws own (some rt) D tys A →
      (∀ (pc : Nat) (lv : List (Nat × Value)) (r : Int32), decode cc pc = .ok (.ireturn, 1) → narrow rt (.int r) = .int r → r = v → Wk p l e rm s m args below meth c maxL D A 0 0 Q [] lv pc [.int r]) →
      Wk p l e rm s m args below meth c maxL D A 0 0 Q [] lv0 0 []) : CN l y ws rm D tys av v :=
  CI.of hy hown hw hn hlv (fun p e s m args below meth c A Q F hret => body p e s m args below meth c A Q F (fun pc lv r hd hn2 h => hret pc lv r () hd hn2 h))
abbrev PS : Type := Nat → Nat → Int32
abbrev cty (cI cP : ClassId) : List (ClassId × FieldType) := [(cI, .int), (cP, .object "ThinVolumes$Pool")]
/-- row j of a state is f; place k of row j is x -/
def setA (u : PS) (j : Nat) (f : Nat → Int32) : PS := fun b => bif Nat.beq b j then f else u b
def wr (u : PS) (j k : Nat) (x : Int32) : PS := setA u j (upd (u j) k x)
theorem nI_inc (i : Nat) : nI i + Int32.ofInt 1 = nI (i + 1) := nI_1 i
theorem nI_dec {i : Nat} (h : 0 < i) : nI i + Int32.ofInt (-1) = nI (i - 1) := by
  obtain ⟨k, rfl⟩ : ∃ k, i = k + 1 := ⟨i - 1, by omega⟩
  exact pk_m1 k
theorem nI_decm (i : Nat) : nI i + Int32.ofInt (-1) = nI i - 1 := by
  rw [show Int32.ofInt (-1) = (-1 : Int32) from by decide]
  exact (Int32.sub_eq_add_neg _ _).symm
theorem vin {x : Int32} {N : Nat} (h0 : ¬ x < 0) (h1 : ¬ nI N ≤ x) (hN : N < 2 ^ 31) : vp_in x N := by
  obtain ⟨j, hj, rfl⟩ := nI_of h0
  refine vp_in_nI ?_ hN
  rcases Nat.lt_or_ge j N with h | h
  · exact h
  · exact absurd (nI_le h hj) h1
theorem ti_ne {x y : Int32} {k : Int} (h : ¬ x = y) (hk : y.toInt = k) : x.toInt ≠ k := fun e => h (Int32.toInt_inj.mp (e.trans hk.symm))
theorem lt_nle {x y : Int32} (h : x < y) : ¬ y ≤ x := Int32.not_le.mpr h
theorem ge_nlt {x y : Int32} (h : y ≤ x) : ¬ x < y := Int32.not_lt.mpr h
theorem nlt_nle {x : Int32} {N : Nat} (h : ¬ nI N < x) (hN : N + 1 < 2 ^ 31) : ¬ nI (N + 1) ≤ x := fun q => h (Int32.lt_of_lt_of_le (nI_lt (Nat.lt_succ_self N) hN) q)
theorem le_nle {x : Int32} {N : Nat} (h : x ≤ nI N) (hN : N + 1 < 2 ^ 31) : ¬ nI (N + 1) ≤ x := nlt_nle (Int32.not_lt.mpr h) hN
/-! a shadow's steps: a value named, an answer and a state named -/
abbrev sq {α β : Type} (x : α) (f : α → β) : β := f x
abbrev sq2 {α β γ : Type} (x : α × β) (f : α → β → γ) : γ := f x.1 x.2
abbrev sq3 {α β γ δ : Type} (x : α × β × γ) (f : α → β → γ → δ) : δ := f x.1 x.2.1 x.2.2
theorem st_let {α β : Type} {x y : α} {f : α → β} {z : β} (h : x = y) (k : f y = z) : sq x f = z := by subst h; exact k
theorem st_match {α β γ : Type} {x : α × β} {a : α} {b : β} {f : α → β → γ} {z : γ} (h : x = (a, b)) (k : f a b = z) : sq2 x f = z := by subst h; exact k
theorem st_match3 {α β γ δ : Type} {x : α × β × γ} {a : α} {b : β} {c : γ} {f : α → β → γ → δ} {z : δ} (h : x = (a, b, c)) (k : f a b c = z) : sq3 x f = z := by subst h; exact k
theorem st_pos {α : Type} {P : Prop} {i : Decidable P} {a b z : α} (h : P) (k : a = z) : (@ite α P i a b) = z := by rw [if_pos h]; exact k
theorem st_neg {α : Type} {P : Prop} {i : Decidable P} {a b z : α} (h : ¬ P) (k : b = z) : (@ite α P i a b) = z := by rw [if_neg h]; exact k
/-! the worlds -/
def wPool (cI : ClassId) (hs : Nat → Nat) (u : PS) : va_W := [(hs 0, .inr (1, [.ref (hs 1), .ref (hs 2), .ref (hs 3), .ref (hs 4), .ref (hs 5), .ref (hs 6), .ref (hs 7), .ref (hs 8), .ref (hs 9), .ref (hs 10), .ref (hs 11), .int (u 13 0), .int (u 13 1), .int (u 13 2)])),
  (hs 1, .inl (cI, 8, .inl (u 0))), (hs 2, .inl (cI, 8, .inl (u 1))), (hs 3, .inl (cI, 8, .inl (u 2))), (hs 4, .inl (cI, 8, .inl (u 3))), (hs 5, .inl (cI, 8, .inl (u 4))), (hs 6, .inl (cI, 8, .inl (u 5))), (hs 7, .inl (cI, 320, .inl (u 6))), (hs 8, .inl (cI, 30, .inl (u 7))), (hs 9, .inl (cI, 30, .inl (u 8))), (hs 10, .inl (cI, 3, .inl (u 9))),
  (hs 11, .inr (4, [.ref (hs 12), .ref (hs 13), .ref (hs 14), .int (u 13 3)])), (hs 12, .inl (cI, 10, .inl (u 10))), (hs 13, .inl (cI, 10, .inl (u 11))), (hs 14, .inl (cI, 10, .inl (u 12)))]
def wWarn (cI : ClassId) (hs : Nat → Nat) (u : PS) : va_W := [(hs 11, .inr (4, [.ref (hs 12), .ref (hs 13), .ref (hs 14), .int (u 13 3)])), (hs 12, .inl (cI, 10, .inl (u 10))), (hs 13, .inl (cI, 10, .inl (u 11))), (hs 14, .inl (cI, 10, .inl (u 12)))]
def wText (cI : ClassId) (hs : Nat → Nat) (u : PS) : va_W := [(hs 0, .inr (3, [.ref (hs 1), .int (u 2 0), .int (u 2 1), .ref (hs 2), .int (u 2 2)])), (hs 1, .inl (cI, 60, .inl (u 0))), (hs 2, .inl (cI, 3, .inl (u 1)))]
def wMod (cI : ClassId) (hs : Nat → Nat) (u : PS) : va_W := [(hs 0, .inr (6, [.ref (hs 1), .ref (hs 2), .ref (hs 3), .ref (hs 4), .int (u 6 0), .int (u 6 1), .ref (hs 5), .int (u 6 2), .int (u 6 3), .int (u 6 4), .int (u 6 5), .ref (hs 6)])),
  (hs 1, .inl (cI, 443, .inl (u 0))), (hs 2, .inl (cI, 1772, .inl (u 1))), (hs 3, .inl (cI, 443, .inl (u 2))), (hs 4, .inl (cI, 443, .inl (u 3))), (hs 5, .inl (cI, 60, .inl (u 4))), (hs 6, .inl (cI, 3, .inl (u 5)))]
theorem aP_0 {cI : ClassId} {hs : Nat → Nat} {u : PS} {f : Nat → Int32} : (wPool cI hs u).set 1 (hs 1, .inl (cI, 8, .inl f)) = wPool cI hs (setA u 0 f) := rfl
theorem aP_1 {cI : ClassId} {hs : Nat → Nat} {u : PS} {f : Nat → Int32} : (wPool cI hs u).set 2 (hs 2, .inl (cI, 8, .inl f)) = wPool cI hs (setA u 1 f) := rfl
theorem aP_2 {cI : ClassId} {hs : Nat → Nat} {u : PS} {f : Nat → Int32} : (wPool cI hs u).set 3 (hs 3, .inl (cI, 8, .inl f)) = wPool cI hs (setA u 2 f) := rfl
theorem aP_3 {cI : ClassId} {hs : Nat → Nat} {u : PS} {f : Nat → Int32} : (wPool cI hs u).set 4 (hs 4, .inl (cI, 8, .inl f)) = wPool cI hs (setA u 3 f) := rfl
theorem aP_4 {cI : ClassId} {hs : Nat → Nat} {u : PS} {f : Nat → Int32} : (wPool cI hs u).set 5 (hs 5, .inl (cI, 8, .inl f)) = wPool cI hs (setA u 4 f) := rfl
theorem aP_5 {cI : ClassId} {hs : Nat → Nat} {u : PS} {f : Nat → Int32} : (wPool cI hs u).set 6 (hs 6, .inl (cI, 8, .inl f)) = wPool cI hs (setA u 5 f) := rfl
theorem aP_6 {cI : ClassId} {hs : Nat → Nat} {u : PS} {f : Nat → Int32} : (wPool cI hs u).set 7 (hs 7, .inl (cI, 320, .inl f)) = wPool cI hs (setA u 6 f) := rfl
theorem aP_7 {cI : ClassId} {hs : Nat → Nat} {u : PS} {f : Nat → Int32} : (wPool cI hs u).set 8 (hs 8, .inl (cI, 30, .inl f)) = wPool cI hs (setA u 7 f) := rfl
theorem aP_8 {cI : ClassId} {hs : Nat → Nat} {u : PS} {f : Nat → Int32} : (wPool cI hs u).set 9 (hs 9, .inl (cI, 30, .inl f)) = wPool cI hs (setA u 8 f) := rfl
theorem aP_9 {cI : ClassId} {hs : Nat → Nat} {u : PS} {f : Nat → Int32} : (wPool cI hs u).set 10 (hs 10, .inl (cI, 3, .inl f)) = wPool cI hs (setA u 9 f) := rfl
theorem aP_10 {cI : ClassId} {hs : Nat → Nat} {u : PS} {f : Nat → Int32} : (wPool cI hs u).set 12 (hs 12, .inl (cI, 10, .inl f)) = wPool cI hs (setA u 10 f) := rfl
theorem aP_11 {cI : ClassId} {hs : Nat → Nat} {u : PS} {f : Nat → Int32} : (wPool cI hs u).set 13 (hs 13, .inl (cI, 10, .inl f)) = wPool cI hs (setA u 11 f) := rfl
theorem aP_12 {cI : ClassId} {hs : Nat → Nat} {u : PS} {f : Nat → Int32} : (wPool cI hs u).set 14 (hs 14, .inl (cI, 10, .inl f)) = wPool cI hs (setA u 12 f) := rfl
theorem sP_0 {cI : ClassId} {hs : Nat → Nat} {u : PS} {x : Int32} : (wPool cI hs u).set 0 (hs 0, .inr (1, ([.ref (hs 1), .ref (hs 2), .ref (hs 3), .ref (hs 4), .ref (hs 5), .ref (hs 6), .ref (hs 7), .ref (hs 8), .ref (hs 9), .ref (hs 10), .ref (hs 11), .int (u 13 0), .int (u 13 1), .int (u 13 2)] : List Value).set 11 (.int x))) = wPool cI hs (wr u 13 0 x) := rfl
theorem sP_1 {cI : ClassId} {hs : Nat → Nat} {u : PS} {x : Int32} : (wPool cI hs u).set 0 (hs 0, .inr (1, ([.ref (hs 1), .ref (hs 2), .ref (hs 3), .ref (hs 4), .ref (hs 5), .ref (hs 6), .ref (hs 7), .ref (hs 8), .ref (hs 9), .ref (hs 10), .ref (hs 11), .int (u 13 0), .int (u 13 1), .int (u 13 2)] : List Value).set 12 (.int x))) = wPool cI hs (wr u 13 1 x) := rfl
theorem sP_2 {cI : ClassId} {hs : Nat → Nat} {u : PS} {x : Int32} : (wPool cI hs u).set 0 (hs 0, .inr (1, ([.ref (hs 1), .ref (hs 2), .ref (hs 3), .ref (hs 4), .ref (hs 5), .ref (hs 6), .ref (hs 7), .ref (hs 8), .ref (hs 9), .ref (hs 10), .ref (hs 11), .int (u 13 0), .int (u 13 1), .int (u 13 2)] : List Value).set 13 (.int x))) = wPool cI hs (wr u 13 2 x) := rfl
theorem aW_10 {cI : ClassId} {hs : Nat → Nat} {u : PS} {f : Nat → Int32} : (wWarn cI hs u).set 1 (hs 12, .inl (cI, 10, .inl f)) = wWarn cI hs (setA u 10 f) := rfl
theorem aW_11 {cI : ClassId} {hs : Nat → Nat} {u : PS} {f : Nat → Int32} : (wWarn cI hs u).set 2 (hs 13, .inl (cI, 10, .inl f)) = wWarn cI hs (setA u 11 f) := rfl
theorem aW_12 {cI : ClassId} {hs : Nat → Nat} {u : PS} {f : Nat → Int32} : (wWarn cI hs u).set 3 (hs 14, .inl (cI, 10, .inl f)) = wWarn cI hs (setA u 12 f) := rfl
theorem sW_3 {cI : ClassId} {hs : Nat → Nat} {u : PS} {x : Int32} : (wWarn cI hs u).set 0 (hs 11, .inr (4, ([.ref (hs 12), .ref (hs 13), .ref (hs 14), .int (u 13 3)] : List Value).set 3 (.int x))) = wWarn cI hs (wr u 13 3 x) := rfl
theorem aT_0 {cI : ClassId} {hs : Nat → Nat} {u : PS} {f : Nat → Int32} : (wText cI hs u).set 1 (hs 1, .inl (cI, 60, .inl f)) = wText cI hs (setA u 0 f) := rfl
theorem aT_1 {cI : ClassId} {hs : Nat → Nat} {u : PS} {f : Nat → Int32} : (wText cI hs u).set 2 (hs 2, .inl (cI, 3, .inl f)) = wText cI hs (setA u 1 f) := rfl
theorem sT_0 {cI : ClassId} {hs : Nat → Nat} {u : PS} {x : Int32} : (wText cI hs u).set 0 (hs 0, .inr (3, ([.ref (hs 1), .int (u 2 0), .int (u 2 1), .ref (hs 2), .int (u 2 2)] : List Value).set 1 (.int x))) = wText cI hs (wr u 2 0 x) := rfl
theorem sT_1 {cI : ClassId} {hs : Nat → Nat} {u : PS} {x : Int32} : (wText cI hs u).set 0 (hs 0, .inr (3, ([.ref (hs 1), .int (u 2 0), .int (u 2 1), .ref (hs 2), .int (u 2 2)] : List Value).set 2 (.int x))) = wText cI hs (wr u 2 1 x) := rfl
theorem sT_2 {cI : ClassId} {hs : Nat → Nat} {u : PS} {x : Int32} : (wText cI hs u).set 0 (hs 0, .inr (3, ([.ref (hs 1), .int (u 2 0), .int (u 2 1), .ref (hs 2), .int (u 2 2)] : List Value).set 4 (.int x))) = wText cI hs (wr u 2 2 x) := rfl
theorem aM_0 {cI : ClassId} {hs : Nat → Nat} {u : PS} {f : Nat → Int32} : (wMod cI hs u).set 1 (hs 1, .inl (cI, 443, .inl f)) = wMod cI hs (setA u 0 f) := rfl
theorem aM_1 {cI : ClassId} {hs : Nat → Nat} {u : PS} {f : Nat → Int32} : (wMod cI hs u).set 2 (hs 2, .inl (cI, 1772, .inl f)) = wMod cI hs (setA u 1 f) := rfl
theorem aM_2 {cI : ClassId} {hs : Nat → Nat} {u : PS} {f : Nat → Int32} : (wMod cI hs u).set 3 (hs 3, .inl (cI, 443, .inl f)) = wMod cI hs (setA u 2 f) := rfl
theorem aM_3 {cI : ClassId} {hs : Nat → Nat} {u : PS} {f : Nat → Int32} : (wMod cI hs u).set 4 (hs 4, .inl (cI, 443, .inl f)) = wMod cI hs (setA u 3 f) := rfl
theorem aM_4 {cI : ClassId} {hs : Nat → Nat} {u : PS} {f : Nat → Int32} : (wMod cI hs u).set 5 (hs 5, .inl (cI, 60, .inl f)) = wMod cI hs (setA u 4 f) := rfl
theorem aM_5 {cI : ClassId} {hs : Nat → Nat} {u : PS} {f : Nat → Int32} : (wMod cI hs u).set 6 (hs 6, .inl (cI, 3, .inl f)) = wMod cI hs (setA u 5 f) := rfl
theorem sM_0 {cI : ClassId} {hs : Nat → Nat} {u : PS} {x : Int32} : (wMod cI hs u).set 0 (hs 0, .inr (6, ([.ref (hs 1), .ref (hs 2), .ref (hs 3), .ref (hs 4), .int (u 6 0), .int (u 6 1), .ref (hs 5), .int (u 6 2), .int (u 6 3), .int (u 6 4), .int (u 6 5), .ref (hs 6)] : List Value).set 4 (.int x))) = wMod cI hs (wr u 6 0 x) := rfl
theorem sM_1 {cI : ClassId} {hs : Nat → Nat} {u : PS} {x : Int32} : (wMod cI hs u).set 0 (hs 0, .inr (6, ([.ref (hs 1), .ref (hs 2), .ref (hs 3), .ref (hs 4), .int (u 6 0), .int (u 6 1), .ref (hs 5), .int (u 6 2), .int (u 6 3), .int (u 6 4), .int (u 6 5), .ref (hs 6)] : List Value).set 5 (.int x))) = wMod cI hs (wr u 6 1 x) := rfl
theorem sM_2 {cI : ClassId} {hs : Nat → Nat} {u : PS} {x : Int32} : (wMod cI hs u).set 0 (hs 0, .inr (6, ([.ref (hs 1), .ref (hs 2), .ref (hs 3), .ref (hs 4), .int (u 6 0), .int (u 6 1), .ref (hs 5), .int (u 6 2), .int (u 6 3), .int (u 6 4), .int (u 6 5), .ref (hs 6)] : List Value).set 7 (.int x))) = wMod cI hs (wr u 6 2 x) := rfl
theorem sM_3 {cI : ClassId} {hs : Nat → Nat} {u : PS} {x : Int32} : (wMod cI hs u).set 0 (hs 0, .inr (6, ([.ref (hs 1), .ref (hs 2), .ref (hs 3), .ref (hs 4), .int (u 6 0), .int (u 6 1), .ref (hs 5), .int (u 6 2), .int (u 6 3), .int (u 6 4), .int (u 6 5), .ref (hs 6)] : List Value).set 8 (.int x))) = wMod cI hs (wr u 6 3 x) := rfl
theorem sM_4 {cI : ClassId} {hs : Nat → Nat} {u : PS} {x : Int32} : (wMod cI hs u).set 0 (hs 0, .inr (6, ([.ref (hs 1), .ref (hs 2), .ref (hs 3), .ref (hs 4), .int (u 6 0), .int (u 6 1), .ref (hs 5), .int (u 6 2), .int (u 6 3), .int (u 6 4), .int (u 6 5), .ref (hs 6)] : List Value).set 9 (.int x))) = wMod cI hs (wr u 6 4 x) := rfl
theorem sM_5 {cI : ClassId} {hs : Nat → Nat} {u : PS} {x : Int32} : (wMod cI hs u).set 0 (hs 0, .inr (6, ([.ref (hs 1), .ref (hs 2), .ref (hs 3), .ref (hs 4), .int (u 6 0), .int (u 6 1), .ref (hs 5), .int (u 6 2), .int (u 6 3), .int (u 6 4), .int (u 6 5), .ref (hs 6)] : List Value).set 10 (.int x))) = wMod cI hs (wr u 6 5 x) := rfl
def wPool11 (cI : ClassId) (hs : Nat → Nat) (u : PS) : va_W := [(hs 0, .inr (1, [.ref (hs 1), .ref (hs 2), .ref (hs 3), .ref (hs 4), .ref (hs 5), .ref (hs 6), .ref (hs 7), .ref (hs 8), .ref (hs 9), .ref (hs 10), .ref (hs 11), .int (u 13 0), .int (u 13 1), .int (u 13 2)])), (hs 1, .inl (cI, 8, .inl (u 0))), (hs 2, .inl (cI, 8, .inl (u 1))), (hs 3, .inl (cI, 8, .inl (u 2))), (hs 4, .inl (cI, 8, .inl (u 3))), (hs 5, .inl (cI, 8, .inl (u 4))), (hs 6, .inl (cI, 8, .inl (u 5))), (hs 7, .inl (cI, 320, .inl (u 6))), (hs 8, .inl (cI, 30, .inl (u 7))), (hs 9, .inl (cI, 30, .inl (u 8))), (hs 10, .inl (cI, 3, .inl (u 9)))]
theorem hCW {cI : ClassId} {hs : Nat → Nat} {u : PS} : [11, 12, 13, 14].map (fun i => (wPool cI hs u)[i]?) = (wWarn cI hs u).map some := rfl
theorem hRW {cI : ClassId} {hs : Nat → Nat} {u : PS} : [0, 1, 2, 3, 4, 5, 6, 7, 8, 9, 10].map (fun i => (wPool cI hs u)[i]?) = (wPool11 cI hs u).map some := rfl
def wTwo (cI : ClassId) (hs : Nat → Nat) (u : PS) : va_W := [(hs 0, .inl (cI, 443, .inl (u 0))), (hs 1, .inl (cI, 443, .inl (u 1)))]
theorem aC_0 {cI : ClassId} {hs : Nat → Nat} {u : PS} {f : Nat → Int32} : (wTwo cI hs u).set 0 (hs 0, .inl (cI, 443, .inl f)) = wTwo cI hs (setA u 0 f) := rfl
theorem aC_1 {cI : ClassId} {hs : Nat → Nat} {u : PS} {f : Nat → Int32} : (wTwo cI hs u).set 1 (hs 1, .inl (cI, 443, .inl f)) = wTwo cI hs (setA u 1 f) := rfl
def cpyR (u : PS) (i j : Nat) : PS := setA u j (fun k => if k < 443 then u i k else u j k)
def pair2 (a b : Nat) : Nat → Nat := fun k => bif Nat.beq k 0 then a else b
def pairR (a b : Nat → Int32) : PS := fun k => bif Nat.beq k 0 then a else b
