/-! THE CLAIM OUT OF ONE WALK OF THE LAW'S BODY. Your part is whole_start (and what it stands on); all else here is the same for every law, but numbers. -/
def R_law : String := "ThinVolumesLaw"
def lw_P (b : Addr) (xs : List Int32) (args : Array Value) (s : State) : Prop := args = #[.ref b] ∧ s.IntsAt b xs ∧ xs.length ≤ 2048 ∧ (Jvm.Cond.and given_1 narrow_1).before args s = true
def lw_Q (_ : Array Value) (s : State) (o : Outcome) (t : State) : Prop := o = .returned (some (.int 1)) ∧ Framed s o t [] 600000 7302250
def lw_Z (below : List Frame) (a : Array Value) (s : State) : State → Prop := fun t => ∃ o, t.status = .running ∧ Ended t below o ∧ lw_Q a s o t
/-- the law's own end, with 1 on the stack, nothing written that was there before, its room as the claim has it -/
theorem lw_ret {p : Program} {l : Launch} {e : Env} {s : State} {m : MethodId} {below : List Frame} {meth : Method} {c : Code} {b : Nat} (hx : p.tables.exec = Jvm.exec) (hb : c.code = code) (hr : meth.sig.returnType = ret) (hlocks : meth.locks = false) {pc : Nat} {H : Heap} {ls : Array Slot} (hdg : decode code pc = .ok (.ireturn, 1)) : W p l e room_1 s m #[Value.ref b] below meth c H [] 600000 7302250 (lw_Z below #[Value.ref b] s) (F0 m pc ls [.int 1]) := by
  intro T hT X
  obtain ⟨fs, hret, hrun, hended, hW, hframe⟩ := X.leave (v := some (.int 1)) (hlocks := hlocks) (fun h => by rw [hr] at h; cases h)
  have hmeth' : T.vm.method? m = some meth := X.method'
  refine ⟨T.setFrames fs, ?_, .returned (some (.int 1)), hrun, hended, rfl, ⟨_, rfl⟩, hW, hframe⟩
  jvm_step X.here [X.here.top, hx, hb, hdg, hmeth', hr, ret, narrow_b1]
  (try refine ⟨rfl, ?_⟩); (try refine ⟨rfl, ?_⟩)
  first | (intro acts; rw [hret _ acts rfl rfl rfl]) | rw [hret _ _ rfl rfl rfl]
  exact Steps.refl _
/-- what holds at the law's entry: the machine, the code, the tables' words (any of lw_tbl by 'hts w (by decide +kernel)'), the script of L ints xs at the cell b, what the Statement gives of the start (any of its parts by flat_of_before) -/
def lw_At (p : Program) (s : State) (m : MethodId) (meth : Method) (c : Code) (b L : Nat) (xs : Nat → Int32) : Prop :=
  p.tables.exec = Jvm.exec ∧ c.code = code ∧ meth.sig.returnType = ret ∧ c.maxLocals = 4 ∧ s.vm.findClass R_law = some m.cls ∧ (∀ w ∈ lw_tbl, w.before #[Value.ref b] s = true) ∧ va_X b L xs s s.heap ∧ b < s.heap.size ∧ meth.locks = false ∧ (Jvm.Cond.and given_1 narrow_1).before #[Value.ref b] s = true
/-! THE LAW, over any relation of class and reference that the calls keep. -/
def simOk_volume (Sim : ST → PS → Prop) : Prop := ∀ (Z : ST) (μ : PS) (a : Int32), Sim Z μ → (f5_volume Z a).1 = (f6_volume μ a).1 ∧ Sim (f5_volume Z a).2 (f6_volume μ a).2
def simOk_share (Sim : ST → PS → Prop) : Prop := ∀ (Z : ST) (μ : PS) (a : Int32), Sim Z μ → (f5_share Z a).1 = (f6_share μ a).1 ∧ Sim (f5_share Z a).2 (f6_share μ a).2
def simOk_drop (Sim : ST → PS → Prop) : Prop := ∀ (Z : ST) (μ : PS) (a : Int32), Sim Z μ → (f5_drop Z a).1 = (f6_drop μ a).1 ∧ Sim (f5_drop Z a).2 (f6_drop μ a).2
def simOk_promise (Sim : ST → PS → Prop) : Prop := ∀ (Z : ST) (μ : PS) (a b : Int32), Sim Z μ → (f5_promise Z a b).1 = (f6_promise μ a b).1 ∧ Sim (f5_promise Z a b).2 (f6_promise μ a b).2
def simOk_set (Sim : ST → PS → Prop) : Prop := ∀ (Z : ST) (μ : PS) (a b : Int32), Sim Z μ → (f5_set Z a b).1 = (f6_set μ a b).1 ∧ Sim (f5_set Z a b).2 (f6_set μ a b).2
def simOk_write (Sim : ST → PS → Prop) : Prop := ∀ (Z : ST) (μ : PS) (a b c : Int32), Sim Z μ → (f5_write Z a b c).1 = (f6_write μ a b c).1 ∧ Sim (f5_write Z a b c).2 (f6_write μ a b c).2
def simOk_trim (Sim : ST → PS → Prop) : Prop := ∀ (Z : ST) (μ : PS) (a b : Int32), Sim Z μ → (f5_trim Z a b).1 = (f6_trim μ a b).1 ∧ Sim (f5_trim Z a b).2 (f6_trim μ a b).2
def simOk_sweep (Sim : ST → PS → Prop) : Prop := ∀ (Z : ST) (μ : PS) (a : Int32), Sim Z μ → (f5_sweep Z a).1 = (f6_sweep μ a).1 ∧ Sim (f5_sweep Z a).2 (f6_sweep μ a).2
def simOk_merge (Sim : ST → PS → Prop) : Prop := ∀ (Z : ST) (μ : PS), Sim Z μ → (f5_merge Z).1 = (f6_merge μ).1 ∧ Sim (f5_merge Z).2 (f6_merge μ).2
def simOk_read (Sim : ST → PS → Prop) : Prop := ∀ (Z : ST) (μ : PS) (a b c : Int32), Sim Z μ → f5_read Z a b c = f6_read μ a b c
def simOk_volumeOf (Sim : ST → PS → Prop) : Prop := ∀ (Z : ST) (μ : PS) (a b : Int32), Sim Z μ → f5_volumeOf Z a b = f6_volumeOf μ a b
def simOk_pieceOf (Sim : ST → PS → Prop) : Prop := ∀ (Z : ST) (μ : PS) (a b : Int32), Sim Z μ → f5_pieceOf Z a b = f6_pieceOf μ a b
def simOk_warningOf (Sim : ST → PS → Prop) : Prop := ∀ (Z : ST) (μ : PS) (a b : Int32), Sim Z μ → f5_warningOf Z a b = f6_warningOf μ a b
def simOk_couldGet (Sim : ST → PS → Prop) : Prop := ∀ (Z : ST) (μ : PS) (a : Int32), Sim Z μ → f5_couldGet Z a = (f6_couldGet μ a).1 ∧ Sim Z (f6_couldGet μ a).2
def simOk_couldFree (Sim : ST → PS → Prop) : Prop := ∀ (Z : ST) (μ : PS) (a : Int32), Sim Z μ → (f5_couldFree Z a).1 = (f6_couldFree μ a).1 ∧ Sim (f5_couldFree Z a).2 (f6_couldFree μ a).2
def simOk_family (Sim : ST → PS → Prop) : Prop := ∀ (Z : ST) (μ : PS) (a b : Int32), Sim Z μ → f5_family Z a b = f6_family μ a b
def simOk_ranked (Sim : ST → PS → Prop) : Prop := ∀ (Z : ST) (μ : PS) (a : Int32), Sim Z μ → f5_ranked Z a = f6_ranked μ a
def simOk_over (Sim : ST → PS → Prop) : Prop := ∀ (Z : ST) (μ : PS) (a : Int32), Sim Z μ → f5_over Z a = f6_over μ a
def simOk_count (Sim : ST → PS → Prop) : Prop := ∀ (Z : ST) (μ : PS) (a : Int32), Sim Z μ → f5_count Z a = f6_count μ a
def simOk_undo (Sim : ST → PS → Prop) : Prop := ∀ (Z : ST) (μ : PS), Sim Z μ → (f5_undo Z).1 = (f6_undo μ).1 ∧ Sim (f5_undo Z).2 (f6_undo μ).2
def simOk_type (Sim : ST → PS → Prop) : Prop := ∀ (Z : ST) (μ : PS) (a : Int32), Sim Z μ → (f5_type Z a).1 = (f6_type μ a).1 ∧ Sim (f5_type Z a).2 (f6_type μ a).2
def simOk_clearText (Sim : ST → PS → Prop) : Prop := ∀ (Z : ST) (μ : PS), Sim Z μ → (f5_clearText Z).1 = (f6_clearText μ).1 ∧ Sim (f5_clearText Z).2 (f6_clearText μ).2
def simOk_fault (Sim : ST → PS → Prop) : Prop := ∀ (Z : ST) (μ : PS) (a : Int32), Sim Z μ → (f5_fault Z a).1 = (f6_fault μ a).1 ∧ Sim (f5_fault Z a).2 (f6_fault μ a).2
def simOk_play (Sim : ST → PS → Prop) : Prop := ∀ (Z : ST) (μ : PS), Sim Z μ → (f5_play Z).1 = (f6_play μ).1 ∧ Sim (f5_play Z).2 (f6_play μ).2
def simPre (Sim : ST → PS → Prop) : Prop := ∀ (Z : ST) (μ : PS), Sim Z μ → vp_in (Z 8 0 0) 5 ∧ okH μ ∧ okL μ ∧ okP μ ∧ okW μ ∧ okT μ
def simGet (Sim : ST → PS → Prop) : Prop := ∀ (Z : ST) (μ : PS) (a : Int32), Sim Z μ → ¬ f6_isVolume μ a = 0 → f6_couldGet_T a 64 (f6_free (cpyR μ 0 3)) (cpyR μ 0 3)
def simFam (Sim : ST → PS → Prop) : Prop := ∀ (Z : ST) (μ : PS) (a : Int32), Sim Z μ → f6_family_T μ 9 ((1 : Int32) <<< (a &&& 31)) ((1 : Int32) <<< (a &&& 31))
def simPlays (Sim : ST → PS → Prop) : Prop := ∀ (Z : ST) (μ : PS), Sim Z μ → f6_plays_T 61 (playsInit (cpyR μ 0 2)) ∧ (∀ (r : Int32) (u1 u2 u3 : PS), cpyR μ 0 2 = u1 → f6_plays u1 = (r, u2) → cpyR u2 2 0 = u3 → okH u3 ∧ f6_plays_T 61 (playsInit (f6_changes u3)))
def SimOk (Sim : ST → PS → Prop) : Prop := Sim f5_init f6_init ∧ simPre Sim ∧ simGet Sim ∧ simFam Sim ∧ simPlays Sim ∧ simOk_volume Sim ∧ simOk_share Sim ∧ simOk_drop Sim ∧ simOk_promise Sim ∧ simOk_set Sim ∧ simOk_write Sim ∧ simOk_trim Sim ∧ simOk_sweep Sim ∧ simOk_merge Sim ∧ simOk_read Sim ∧ simOk_volumeOf Sim ∧ simOk_pieceOf Sim ∧ simOk_warningOf Sim ∧ simOk_couldGet Sim ∧ simOk_couldFree Sim ∧ simOk_family Sim ∧ simOk_ranked Sim ∧ simOk_over Sim ∧ simOk_count Sim ∧ simOk_undo Sim ∧ simOk_type Sim ∧ simOk_clearText Sim ∧ simOk_fault Sim ∧ simOk_play Sim
section SK
variable {Sim : ST → PS → Prop} (h : SimOk Sim)
theorem SimOk.init_ok (h : SimOk Sim) : Sim f5_init f6_init := h.1
theorem SimOk.pre_ok (h : SimOk Sim) : simPre Sim := h.2.1
theorem SimOk.get_ok (h : SimOk Sim) : simGet Sim := h.2.2.1
theorem SimOk.fam_ok (h : SimOk Sim) : simFam Sim := h.2.2.2.1
theorem SimOk.plays_ok (h : SimOk Sim) : simPlays Sim := h.2.2.2.2.1
theorem SimOk.volume_ok (h : SimOk Sim) : simOk_volume Sim := h.2.2.2.2.2.1
theorem SimOk.share_ok (h : SimOk Sim) : simOk_share Sim := h.2.2.2.2.2.2.1
theorem SimOk.drop_ok (h : SimOk Sim) : simOk_drop Sim := h.2.2.2.2.2.2.2.1
theorem SimOk.promise_ok (h : SimOk Sim) : simOk_promise Sim := h.2.2.2.2.2.2.2.2.1
theorem SimOk.set_ok (h : SimOk Sim) : simOk_set Sim := h.2.2.2.2.2.2.2.2.2.1
theorem SimOk.write_ok (h : SimOk Sim) : simOk_write Sim := h.2.2.2.2.2.2.2.2.2.2.1
theorem SimOk.trim_ok (h : SimOk Sim) : simOk_trim Sim := h.2.2.2.2.2.2.2.2.2.2.2.1
theorem SimOk.sweep_ok (h : SimOk Sim) : simOk_sweep Sim := h.2.2.2.2.2.2.2.2.2.2.2.2.1
theorem SimOk.merge_ok (h : SimOk Sim) : simOk_merge Sim := h.2.2.2.2.2.2.2.2.2.2.2.2.2.1
theorem SimOk.read_ok (h : SimOk Sim) : simOk_read Sim := h.2.2.2.2.2.2.2.2.2.2.2.2.2.2.1
theorem SimOk.volumeOf_ok (h : SimOk Sim) : simOk_volumeOf Sim := h.2.2.2.2.2.2.2.2.2.2.2.2.2.2.2.1
theorem SimOk.pieceOf_ok (h : SimOk Sim) : simOk_pieceOf Sim := h.2.2.2.2.2.2.2.2.2.2.2.2.2.2.2.2.1
theorem SimOk.warningOf_ok (h : SimOk Sim) : simOk_warningOf Sim := h.2.2.2.2.2.2.2.2.2.2.2.2.2.2.2.2.2.1
theorem SimOk.couldGet_ok (h : SimOk Sim) : simOk_couldGet Sim := h.2.2.2.2.2.2.2.2.2.2.2.2.2.2.2.2.2.2.1
theorem SimOk.couldFree_ok (h : SimOk Sim) : simOk_couldFree Sim := h.2.2.2.2.2.2.2.2.2.2.2.2.2.2.2.2.2.2.2.1
theorem SimOk.family_ok (h : SimOk Sim) : simOk_family Sim := h.2.2.2.2.2.2.2.2.2.2.2.2.2.2.2.2.2.2.2.2.1
theorem SimOk.ranked_ok (h : SimOk Sim) : simOk_ranked Sim := h.2.2.2.2.2.2.2.2.2.2.2.2.2.2.2.2.2.2.2.2.2.1
theorem SimOk.over_ok (h : SimOk Sim) : simOk_over Sim := h.2.2.2.2.2.2.2.2.2.2.2.2.2.2.2.2.2.2.2.2.2.2.1
theorem SimOk.count_ok (h : SimOk Sim) : simOk_count Sim := h.2.2.2.2.2.2.2.2.2.2.2.2.2.2.2.2.2.2.2.2.2.2.2.1
theorem SimOk.undo_ok (h : SimOk Sim) : simOk_undo Sim := h.2.2.2.2.2.2.2.2.2.2.2.2.2.2.2.2.2.2.2.2.2.2.2.2.1
theorem SimOk.type_ok (h : SimOk Sim) : simOk_type Sim := h.2.2.2.2.2.2.2.2.2.2.2.2.2.2.2.2.2.2.2.2.2.2.2.2.2.1
theorem SimOk.clearText_ok (h : SimOk Sim) : simOk_clearText Sim := h.2.2.2.2.2.2.2.2.2.2.2.2.2.2.2.2.2.2.2.2.2.2.2.2.2.2.1
theorem SimOk.fault_ok (h : SimOk Sim) : simOk_fault Sim := h.2.2.2.2.2.2.2.2.2.2.2.2.2.2.2.2.2.2.2.2.2.2.2.2.2.2.2.1
theorem SimOk.play_ok (h : SimOk Sim) : simOk_play Sim := h.2.2.2.2.2.2.2.2.2.2.2.2.2.2.2.2.2.2.2.2.2.2.2.2.2.2.2.2
end SK
theorem lw_le {i L : Nat} (hL : L ≤ 2048) (hi : i ≤ L) (h : ¬ Int32.ofNat L - 4 < nI i) : i + 4 ≤ L := by
  rw [Int32.lt_iff_toInt_lt] at h
  have h1 : (Int32.ofNat L).toInt = (L : Int) := Int32.toInt_ofNat_of_lt (by omega)
  have h2 : (nI i).toInt = (i : Int) := Int32.toInt_ofNat_of_lt (by omega)
  rw [Int32.toInt_sub, h1, h2, show (4 : Int32).toInt = 4 from rfl, Int.bmod_eq_of_le (by omega) (by omega)] at h
  omega
abbrev lvL (b a h : Nat) (i : Nat) : List (Nat × Value) := [(3, .int (nI i)), (2, .ref h), (1, .ref a), (0, .ref b)]
section LW
variable {p : Program} {l : Launch} {e : Env} {s : State} {m : MethodId} {below : List Frame} {meth : Method} {c : Code} {D : va_G} {cI cP : ClassId} {A : Nat → Prop} {cells slots : Nat} {Q : State → Prop} {b L : Nat} {xs : Nat → Int32} {ha hm : Nat → Nat} {hq : Nat → Nat → Nat} {i : Nat} {Sim : ST → PS → Prop} {Z : ST} {μ : PS}
theorem wk_sld {n pc pc' : Nat} {w : va_W} {lv : List (Nat × Value)} {rest : List Value} {args : Array Value} {R : Room} {cc : ByteArray} {Ts : List Cond} {own : String} {ret : Option FieldType} {tys : List (ClassId × FieldType)} (F : Fx p s m args meth c cc n Ts own ret D tys A) (hX : va_X b L xs s s.heap) (hbl : b < s.heap.size) (hbA : ¬ A b) {i : Int32} (hin : vp_in i L) (hdg : decode cc pc = .ok (.iaload, 1)) (hpc : pc + 1 = pc') (kk : Wk p l e R s m args below meth c n D A cells slots Q w lv pc' (.int (xs i.toNatClampNeg) :: rest)) : Wk p l e R s m args below meth c n D A cells slots Q w lv pc (.int i :: .ref b :: rest) := by
  subst hpc
  exact fun H locs ls hP hD hS hl => va_sld F.1 F.2.1 hX hbl hbA hS hin hdg (kk H locs ls hP hD hS hl)
theorem wk_slen {n pc pc' : Nat} {w : va_W} {lv : List (Nat × Value)} {rest : List Value} {args : Array Value} {R : Room} {cc : ByteArray} {Ts : List Cond} {own : String} {ret : Option FieldType} {tys : List (ClassId × FieldType)} (F : Fx p s m args meth c cc n Ts own ret D tys A) (hX : va_X b L xs s s.heap) (hbl : b < s.heap.size) (hbA : ¬ A b) (hdg : decode cc pc = .ok (.arraylength, 1)) (hpc : pc + 1 = pc') (kk : Wk p l e R s m args below meth c n D A cells slots Q w lv pc' (.int (Int32.ofNat L) :: rest)) : Wk p l e R s m args below meth c n D A cells slots Q w lv pc (.ref b :: rest) := by
  subst hpc
  exact fun H locs ls hP hD hS hl => va_slen F.1 F.2.1 hX hbl hbA hS hdg (kk H locs ls hP hD hS hl)
theorem lv_1 (hL : L ≤ 2048) (hi : i + 4 ≤ L) {k : Nat} (hk : k < 4) : vp_in (nI (i + k)) L := vp_in_nI (by omega) (by omega)
set_option maxHeartbeats 1000000 in
theorem lawC_volume (hk : SimOk Sim) (F : Fx p s m #[Value.ref b] meth c cL_law 4 wsL_law RL ret D (cty cI cP) A) (hX : va_X b L xs s s.heap) (hbl : b < s.heap.size) (hbA : ¬ A b) (hL : L ≤ 2048) (hi : i + 4 ≤ L) (hroom : cells ≤ 600000 ∧ slots ≤ 7302250) (hZ : Sim Z μ) (kk : ∀ (Z : ST) (μ : PS), Sim Z μ → Wk p l e room_1 s m #[Value.ref b] below meth c 4 D A cells slots Q (wTV cI cP ha hq Z ++ wMod cI hm μ) (lvL b (ha 0) (hm 0) i) 766 []) : Wk p l e room_1 s m #[Value.ref b] below meth c 4 D A cells slots Q (wTV cI cP ha hq Z ++ wMod cI hm μ) (lvL b (ha 0) (hm 0) i) 144 [] := by
  obtain ⟨hk5, hH, hL6, hP6, hW6, hT6⟩ := hk.pre_ok Z μ hZ
  refine wk_aload_n F dL_law_144 rfl 2 rfl (pc' := 145) rfl ?_
  refine wk_aload_n F dL_law_145 rfl 3 rfl (pc' := 146) rfl ?_
  refine wk_iload_n F dL_law_146 rfl 0 rfl (pc' := 147) rfl ?_
  refine wk_iconst (v := nI 1) F dL_law_147 rfl (pc' := 148) rfl ?_
  refine wk_iadd F dL_law_148 (pc' := 149) rfl ?_
  refine wk_top (nI_add i 1) ?_
  refine wk_sld F hX hbl hbA (lv_1 hL hi (by decide)) dL_law_149 (pc' := 150) rfl ?_
  refine wk_fr_i F (c5_volume l D cI cP ha hq Z (xs (nI (i + 1)).toNatClampNeg) hk5) (cwV 1 F.hts gL_law_X5_volume rfl rfl rfl hdX5_volume ⟨Nat.le_of_ble_eq_true rfl, Nat.le_of_ble_eq_true rfl⟩) 0 5 rfl rfl rfl rfl (Nat.le_of_ble_eq_true rfl) dL_law_150 hroom (pc' := 153) rfl (fun r5 Z1 e5 => ?_)
  refine wk_perm List.perm_append_comm ?_
  refine wk_aload_n F dL_law_153 rfl 1 rfl (pc' := 154) rfl ?_
  refine wk_aload_n F dL_law_154 rfl 3 rfl (pc' := 155) rfl ?_
  refine wk_iload_n F dL_law_155 rfl 0 rfl (pc' := 156) rfl ?_
  refine wk_iconst (v := nI 1) F dL_law_156 rfl (pc' := 157) rfl ?_
  refine wk_iadd F dL_law_157 (pc' := 158) rfl ?_
  refine wk_top (nI_add i 1) ?_
  refine wk_sld F hX hbl hbA (lv_1 hL hi (by decide)) dL_law_158 (pc' := 159) rfl ?_
  refine wk_fr_i F (c6_volume l D cI cP hm μ (xs (nI (i + 1)).toNatClampNeg) hH) (cwV 1 F.hts gL_law_X6_volume rfl rfl rfl hdX6_volume ⟨Nat.le_of_ble_eq_true rfl, Nat.le_of_ble_eq_true rfl⟩) 0 6 rfl rfl rfl rfl (Nat.le_of_ble_eq_true rfl) dL_law_159 hroom (pc' := 162) rfl (fun r6 μ1 e6 => ?_)
  refine wk_perm List.perm_append_comm ?_
  have hh := hk.volume_ok Z μ (xs (nI (i + 1)).toNatClampNeg) hZ
  rw [e5] at hh
  rw [e6] at hh
  refine wk_icmp_eq (tgt := 766) F dL_law_162 (by decide) (pc' := 165) rfl (fun _ => ?_) (fun q => absurd hh.1 q)
  exact kk Z1 μ1 hh.2
set_option maxHeartbeats 1000000 in
theorem lawC_share (hk : SimOk Sim) (F : Fx p s m #[Value.ref b] meth c cL_law 4 wsL_law RL ret D (cty cI cP) A) (hX : va_X b L xs s s.heap) (hbl : b < s.heap.size) (hbA : ¬ A b) (hL : L ≤ 2048) (hi : i + 4 ≤ L) (hroom : cells ≤ 600000 ∧ slots ≤ 7302250) (hZ : Sim Z μ) (kk : ∀ (Z : ST) (μ : PS), Sim Z μ → Wk p l e room_1 s m #[Value.ref b] below meth c 4 D A cells slots Q (wTV cI cP ha hq Z ++ wMod cI hm μ) (lvL b (ha 0) (hm 0) i) 766 []) : Wk p l e room_1 s m #[Value.ref b] below meth c 4 D A cells slots Q (wTV cI cP ha hq Z ++ wMod cI hm μ) (lvL b (ha 0) (hm 0) i) 167 [] := by
  obtain ⟨hk5, hH, hL6, hP6, hW6, hT6⟩ := hk.pre_ok Z μ hZ
  refine wk_aload_n F dL_law_167 rfl 2 rfl (pc' := 168) rfl ?_
  refine wk_aload_n F dL_law_168 rfl 3 rfl (pc' := 169) rfl ?_
  refine wk_iload_n F dL_law_169 rfl 0 rfl (pc' := 170) rfl ?_
  refine wk_iconst (v := nI 1) F dL_law_170 rfl (pc' := 171) rfl ?_
  refine wk_iadd F dL_law_171 (pc' := 172) rfl ?_
  refine wk_top (nI_add i 1) ?_
  refine wk_sld F hX hbl hbA (lv_1 hL hi (by decide)) dL_law_172 (pc' := 173) rfl ?_
  refine wk_fr_i F (c5_share l D cI cP ha hq Z (xs (nI (i + 1)).toNatClampNeg) hk5) (cwV 1 F.hts gL_law_X5_share rfl rfl rfl hdX5_share ⟨Nat.le_of_ble_eq_true rfl, Nat.le_of_ble_eq_true rfl⟩) 0 5 rfl rfl rfl rfl (Nat.le_of_ble_eq_true rfl) dL_law_173 hroom (pc' := 176) rfl (fun r5 Z1 e5 => ?_)
  refine wk_perm List.perm_append_comm ?_
  refine wk_aload_n F dL_law_176 rfl 1 rfl (pc' := 177) rfl ?_
  refine wk_aload_n F dL_law_177 rfl 3 rfl (pc' := 178) rfl ?_
  refine wk_iload_n F dL_law_178 rfl 0 rfl (pc' := 179) rfl ?_
  refine wk_iconst (v := nI 1) F dL_law_179 rfl (pc' := 180) rfl ?_
  refine wk_iadd F dL_law_180 (pc' := 181) rfl ?_
  refine wk_top (nI_add i 1) ?_
  refine wk_sld F hX hbl hbA (lv_1 hL hi (by decide)) dL_law_181 (pc' := 182) rfl ?_
  refine wk_fr_i F (c6_share l D cI cP hm μ (xs (nI (i + 1)).toNatClampNeg) hH) (cwV 1 F.hts gL_law_X6_share rfl rfl rfl hdX6_share ⟨Nat.le_of_ble_eq_true rfl, Nat.le_of_ble_eq_true rfl⟩) 0 6 rfl rfl rfl rfl (Nat.le_of_ble_eq_true rfl) dL_law_182 hroom (pc' := 185) rfl (fun r6 μ1 e6 => ?_)
  refine wk_perm List.perm_append_comm ?_
  have hh := hk.share_ok Z μ (xs (nI (i + 1)).toNatClampNeg) hZ
  rw [e5] at hh
  rw [e6] at hh
  refine wk_icmp_eq (tgt := 766) F dL_law_185 (by decide) (pc' := 188) rfl (fun _ => ?_) (fun q => absurd hh.1 q)
  exact kk Z1 μ1 hh.2
set_option maxHeartbeats 1000000 in
theorem lawC_drop (hk : SimOk Sim) (F : Fx p s m #[Value.ref b] meth c cL_law 4 wsL_law RL ret D (cty cI cP) A) (hX : va_X b L xs s s.heap) (hbl : b < s.heap.size) (hbA : ¬ A b) (hL : L ≤ 2048) (hi : i + 4 ≤ L) (hroom : cells ≤ 600000 ∧ slots ≤ 7302250) (hZ : Sim Z μ) (kk : ∀ (Z : ST) (μ : PS), Sim Z μ → Wk p l e room_1 s m #[Value.ref b] below meth c 4 D A cells slots Q (wTV cI cP ha hq Z ++ wMod cI hm μ) (lvL b (ha 0) (hm 0) i) 766 []) : Wk p l e room_1 s m #[Value.ref b] below meth c 4 D A cells slots Q (wTV cI cP ha hq Z ++ wMod cI hm μ) (lvL b (ha 0) (hm 0) i) 190 [] := by
  obtain ⟨hk5, hH, hL6, hP6, hW6, hT6⟩ := hk.pre_ok Z μ hZ
  refine wk_aload_n F dL_law_190 rfl 2 rfl (pc' := 191) rfl ?_
  refine wk_aload_n F dL_law_191 rfl 3 rfl (pc' := 192) rfl ?_
  refine wk_iload_n F dL_law_192 rfl 0 rfl (pc' := 193) rfl ?_
  refine wk_iconst (v := nI 1) F dL_law_193 rfl (pc' := 194) rfl ?_
  refine wk_iadd F dL_law_194 (pc' := 195) rfl ?_
  refine wk_top (nI_add i 1) ?_
  refine wk_sld F hX hbl hbA (lv_1 hL hi (by decide)) dL_law_195 (pc' := 196) rfl ?_
  refine wk_fr_i F (c5_drop l D cI cP ha hq Z (xs (nI (i + 1)).toNatClampNeg) hk5) (cwV 1 F.hts gL_law_X5_drop rfl rfl rfl hdX5_drop ⟨Nat.le_of_ble_eq_true rfl, Nat.le_of_ble_eq_true rfl⟩) 0 5 rfl rfl rfl rfl (Nat.le_of_ble_eq_true rfl) dL_law_196 hroom (pc' := 199) rfl (fun r5 Z1 e5 => ?_)
  refine wk_perm List.perm_append_comm ?_
  refine wk_aload_n F dL_law_199 rfl 1 rfl (pc' := 200) rfl ?_
  refine wk_aload_n F dL_law_200 rfl 3 rfl (pc' := 201) rfl ?_
  refine wk_iload_n F dL_law_201 rfl 0 rfl (pc' := 202) rfl ?_
  refine wk_iconst (v := nI 1) F dL_law_202 rfl (pc' := 203) rfl ?_
  refine wk_iadd F dL_law_203 (pc' := 204) rfl ?_
  refine wk_top (nI_add i 1) ?_
  refine wk_sld F hX hbl hbA (lv_1 hL hi (by decide)) dL_law_204 (pc' := 205) rfl ?_
  refine wk_fr_i F (c6_drop l D cI cP hm μ (xs (nI (i + 1)).toNatClampNeg) hH hL6) (cwV 1 F.hts gL_law_X6_drop rfl rfl rfl hdX6_drop ⟨Nat.le_of_ble_eq_true rfl, Nat.le_of_ble_eq_true rfl⟩) 0 6 rfl rfl rfl rfl (Nat.le_of_ble_eq_true rfl) dL_law_205 hroom (pc' := 208) rfl (fun r6 μ1 e6 => ?_)
  refine wk_perm List.perm_append_comm ?_
  have hh := hk.drop_ok Z μ (xs (nI (i + 1)).toNatClampNeg) hZ
  rw [e5] at hh
  rw [e6] at hh
  refine wk_icmp_eq (tgt := 766) F dL_law_208 (by decide) (pc' := 211) rfl (fun _ => ?_) (fun q => absurd hh.1 q)
  exact kk Z1 μ1 hh.2
set_option maxHeartbeats 1000000 in
theorem lawC_promise (hk : SimOk Sim) (F : Fx p s m #[Value.ref b] meth c cL_law 4 wsL_law RL ret D (cty cI cP) A) (hX : va_X b L xs s s.heap) (hbl : b < s.heap.size) (hbA : ¬ A b) (hL : L ≤ 2048) (hi : i + 4 ≤ L) (hroom : cells ≤ 600000 ∧ slots ≤ 7302250) (hZ : Sim Z μ) (kk : ∀ (Z : ST) (μ : PS), Sim Z μ → Wk p l e room_1 s m #[Value.ref b] below meth c 4 D A cells slots Q (wTV cI cP ha hq Z ++ wMod cI hm μ) (lvL b (ha 0) (hm 0) i) 766 []) : Wk p l e room_1 s m #[Value.ref b] below meth c 4 D A cells slots Q (wTV cI cP ha hq Z ++ wMod cI hm μ) (lvL b (ha 0) (hm 0) i) 213 [] := by
  obtain ⟨hk5, hH, hL6, hP6, hW6, hT6⟩ := hk.pre_ok Z μ hZ
  refine wk_aload_n F dL_law_213 rfl 2 rfl (pc' := 214) rfl ?_
  refine wk_aload_n F dL_law_214 rfl 3 rfl (pc' := 215) rfl ?_
  refine wk_iload_n F dL_law_215 rfl 0 rfl (pc' := 216) rfl ?_
  refine wk_iconst (v := nI 1) F dL_law_216 rfl (pc' := 217) rfl ?_
  refine wk_iadd F dL_law_217 (pc' := 218) rfl ?_
  refine wk_top (nI_add i 1) ?_
  refine wk_sld F hX hbl hbA (lv_1 hL hi (by decide)) dL_law_218 (pc' := 219) rfl ?_
  refine wk_aload_n F dL_law_219 rfl 3 rfl (pc' := 220) rfl ?_
  refine wk_iload_n F dL_law_220 rfl 0 rfl (pc' := 221) rfl ?_
  refine wk_iconst (v := nI 2) F dL_law_221 rfl (pc' := 222) rfl ?_
  refine wk_iadd F dL_law_222 (pc' := 223) rfl ?_
  refine wk_top (nI_add i 2) ?_
  refine wk_sld F hX hbl hbA (lv_1 hL hi (by decide)) dL_law_223 (pc' := 224) rfl ?_
  refine wk_fr_i F (c5_promise l D cI cP ha hq Z (xs (nI (i + 1)).toNatClampNeg) (xs (nI (i + 2)).toNatClampNeg) hk5) (cwV 2 F.hts gL_law_X5_promise rfl rfl rfl hdX5_promise ⟨Nat.le_of_ble_eq_true rfl, Nat.le_of_ble_eq_true rfl⟩) 0 5 rfl rfl rfl rfl (Nat.le_of_ble_eq_true rfl) dL_law_224 hroom (pc' := 227) rfl (fun r5 Z1 e5 => ?_)
  refine wk_perm List.perm_append_comm ?_
  refine wk_aload_n F dL_law_227 rfl 1 rfl (pc' := 228) rfl ?_
  refine wk_aload_n F dL_law_228 rfl 3 rfl (pc' := 229) rfl ?_
  refine wk_iload_n F dL_law_229 rfl 0 rfl (pc' := 230) rfl ?_
  refine wk_iconst (v := nI 1) F dL_law_230 rfl (pc' := 231) rfl ?_
  refine wk_iadd F dL_law_231 (pc' := 232) rfl ?_
  refine wk_top (nI_add i 1) ?_
  refine wk_sld F hX hbl hbA (lv_1 hL hi (by decide)) dL_law_232 (pc' := 233) rfl ?_
  refine wk_aload_n F dL_law_233 rfl 3 rfl (pc' := 234) rfl ?_
  refine wk_iload_n F dL_law_234 rfl 0 rfl (pc' := 235) rfl ?_
  refine wk_iconst (v := nI 2) F dL_law_235 rfl (pc' := 236) rfl ?_
  refine wk_iadd F dL_law_236 (pc' := 237) rfl ?_
  refine wk_top (nI_add i 2) ?_
  refine wk_sld F hX hbl hbA (lv_1 hL hi (by decide)) dL_law_237 (pc' := 238) rfl ?_
  refine wk_fr_i F (c6_promise l D cI cP hm μ (xs (nI (i + 1)).toNatClampNeg) (xs (nI (i + 2)).toNatClampNeg) hH hL6) (cwV 2 F.hts gL_law_X6_promise rfl rfl rfl hdX6_promise ⟨Nat.le_of_ble_eq_true rfl, Nat.le_of_ble_eq_true rfl⟩) 0 6 rfl rfl rfl rfl (Nat.le_of_ble_eq_true rfl) dL_law_238 hroom (pc' := 241) rfl (fun r6 μ1 e6 => ?_)
  refine wk_perm List.perm_append_comm ?_
  have hh := hk.promise_ok Z μ (xs (nI (i + 1)).toNatClampNeg) (xs (nI (i + 2)).toNatClampNeg) hZ
  rw [e5] at hh
  rw [e6] at hh
  refine wk_icmp_eq (tgt := 766) F dL_law_241 (by decide) (pc' := 244) rfl (fun _ => ?_) (fun q => absurd hh.1 q)
  exact kk Z1 μ1 hh.2
set_option maxHeartbeats 1000000 in
theorem lawC_set (hk : SimOk Sim) (F : Fx p s m #[Value.ref b] meth c cL_law 4 wsL_law RL ret D (cty cI cP) A) (hX : va_X b L xs s s.heap) (hbl : b < s.heap.size) (hbA : ¬ A b) (hL : L ≤ 2048) (hi : i + 4 ≤ L) (hroom : cells ≤ 600000 ∧ slots ≤ 7302250) (hZ : Sim Z μ) (kk : ∀ (Z : ST) (μ : PS), Sim Z μ → Wk p l e room_1 s m #[Value.ref b] below meth c 4 D A cells slots Q (wTV cI cP ha hq Z ++ wMod cI hm μ) (lvL b (ha 0) (hm 0) i) 766 []) : Wk p l e room_1 s m #[Value.ref b] below meth c 4 D A cells slots Q (wTV cI cP ha hq Z ++ wMod cI hm μ) (lvL b (ha 0) (hm 0) i) 246 [] := by
  obtain ⟨hk5, hH, hL6, hP6, hW6, hT6⟩ := hk.pre_ok Z μ hZ
  refine wk_aload_n F dL_law_246 rfl 2 rfl (pc' := 247) rfl ?_
  refine wk_aload_n F dL_law_247 rfl 3 rfl (pc' := 248) rfl ?_
  refine wk_iload_n F dL_law_248 rfl 0 rfl (pc' := 249) rfl ?_
  refine wk_iconst (v := nI 1) F dL_law_249 rfl (pc' := 250) rfl ?_
  refine wk_iadd F dL_law_250 (pc' := 251) rfl ?_
  refine wk_top (nI_add i 1) ?_
  refine wk_sld F hX hbl hbA (lv_1 hL hi (by decide)) dL_law_251 (pc' := 252) rfl ?_
  refine wk_aload_n F dL_law_252 rfl 3 rfl (pc' := 253) rfl ?_
  refine wk_iload_n F dL_law_253 rfl 0 rfl (pc' := 254) rfl ?_
  refine wk_iconst (v := nI 2) F dL_law_254 rfl (pc' := 255) rfl ?_
  refine wk_iadd F dL_law_255 (pc' := 256) rfl ?_
  refine wk_top (nI_add i 2) ?_
  refine wk_sld F hX hbl hbA (lv_1 hL hi (by decide)) dL_law_256 (pc' := 257) rfl ?_
  refine wk_fr_i F (c5_set l D cI cP ha hq Z (xs (nI (i + 1)).toNatClampNeg) (xs (nI (i + 2)).toNatClampNeg) hk5) (cwV 2 F.hts gL_law_X5_set rfl rfl rfl hdX5_set ⟨Nat.le_of_ble_eq_true rfl, Nat.le_of_ble_eq_true rfl⟩) 0 5 rfl rfl rfl rfl (Nat.le_of_ble_eq_true rfl) dL_law_257 hroom (pc' := 260) rfl (fun r5 Z1 e5 => ?_)
  refine wk_perm List.perm_append_comm ?_
  refine wk_aload_n F dL_law_260 rfl 1 rfl (pc' := 261) rfl ?_
  refine wk_aload_n F dL_law_261 rfl 3 rfl (pc' := 262) rfl ?_
  refine wk_iload_n F dL_law_262 rfl 0 rfl (pc' := 263) rfl ?_
  refine wk_iconst (v := nI 1) F dL_law_263 rfl (pc' := 264) rfl ?_
  refine wk_iadd F dL_law_264 (pc' := 265) rfl ?_
  refine wk_top (nI_add i 1) ?_
  refine wk_sld F hX hbl hbA (lv_1 hL hi (by decide)) dL_law_265 (pc' := 266) rfl ?_
  refine wk_aload_n F dL_law_266 rfl 3 rfl (pc' := 267) rfl ?_
  refine wk_iload_n F dL_law_267 rfl 0 rfl (pc' := 268) rfl ?_
  refine wk_iconst (v := nI 2) F dL_law_268 rfl (pc' := 269) rfl ?_
  refine wk_iadd F dL_law_269 (pc' := 270) rfl ?_
  refine wk_top (nI_add i 2) ?_
  refine wk_sld F hX hbl hbA (lv_1 hL hi (by decide)) dL_law_270 (pc' := 271) rfl ?_
  refine wk_fr_i F (c6_set l D cI cP hm μ (xs (nI (i + 1)).toNatClampNeg) (xs (nI (i + 2)).toNatClampNeg) hH hL6) (cwV 2 F.hts gL_law_X6_set rfl rfl rfl hdX6_set ⟨Nat.le_of_ble_eq_true rfl, Nat.le_of_ble_eq_true rfl⟩) 0 6 rfl rfl rfl rfl (Nat.le_of_ble_eq_true rfl) dL_law_271 hroom (pc' := 274) rfl (fun r6 μ1 e6 => ?_)
  refine wk_perm List.perm_append_comm ?_
  have hh := hk.set_ok Z μ (xs (nI (i + 1)).toNatClampNeg) (xs (nI (i + 2)).toNatClampNeg) hZ
  rw [e5] at hh
  rw [e6] at hh
  refine wk_icmp_eq (tgt := 766) F dL_law_274 (by decide) (pc' := 277) rfl (fun _ => ?_) (fun q => absurd hh.1 q)
  exact kk Z1 μ1 hh.2
set_option maxHeartbeats 1000000 in
theorem lawC_write (hk : SimOk Sim) (F : Fx p s m #[Value.ref b] meth c cL_law 4 wsL_law RL ret D (cty cI cP) A) (hX : va_X b L xs s s.heap) (hbl : b < s.heap.size) (hbA : ¬ A b) (hL : L ≤ 2048) (hi : i + 4 ≤ L) (hroom : cells ≤ 600000 ∧ slots ≤ 7302250) (hZ : Sim Z μ) (kk : ∀ (Z : ST) (μ : PS), Sim Z μ → Wk p l e room_1 s m #[Value.ref b] below meth c 4 D A cells slots Q (wTV cI cP ha hq Z ++ wMod cI hm μ) (lvL b (ha 0) (hm 0) i) 766 []) : Wk p l e room_1 s m #[Value.ref b] below meth c 4 D A cells slots Q (wTV cI cP ha hq Z ++ wMod cI hm μ) (lvL b (ha 0) (hm 0) i) 279 [] := by
  obtain ⟨hk5, hH, hL6, hP6, hW6, hT6⟩ := hk.pre_ok Z μ hZ
  refine wk_aload_n F dL_law_279 rfl 2 rfl (pc' := 280) rfl ?_
  refine wk_aload_n F dL_law_280 rfl 3 rfl (pc' := 281) rfl ?_
  refine wk_iload_n F dL_law_281 rfl 0 rfl (pc' := 282) rfl ?_
  refine wk_iconst (v := nI 1) F dL_law_282 rfl (pc' := 283) rfl ?_
  refine wk_iadd F dL_law_283 (pc' := 284) rfl ?_
  refine wk_top (nI_add i 1) ?_
  refine wk_sld F hX hbl hbA (lv_1 hL hi (by decide)) dL_law_284 (pc' := 285) rfl ?_
  refine wk_aload_n F dL_law_285 rfl 3 rfl (pc' := 286) rfl ?_
  refine wk_iload_n F dL_law_286 rfl 0 rfl (pc' := 287) rfl ?_
  refine wk_iconst (v := nI 2) F dL_law_287 rfl (pc' := 288) rfl ?_
  refine wk_iadd F dL_law_288 (pc' := 289) rfl ?_
  refine wk_top (nI_add i 2) ?_
  refine wk_sld F hX hbl hbA (lv_1 hL hi (by decide)) dL_law_289 (pc' := 290) rfl ?_
  refine wk_aload_n F dL_law_290 rfl 3 rfl (pc' := 291) rfl ?_
  refine wk_iload_n F dL_law_291 rfl 0 rfl (pc' := 292) rfl ?_
  refine wk_iconst (v := nI 3) F dL_law_292 rfl (pc' := 293) rfl ?_
  refine wk_iadd F dL_law_293 (pc' := 294) rfl ?_
  refine wk_top (nI_add i 3) ?_
  refine wk_sld F hX hbl hbA (lv_1 hL hi (by decide)) dL_law_294 (pc' := 295) rfl ?_
  refine wk_fr_i F (c5_write l D cI cP ha hq Z (xs (nI (i + 1)).toNatClampNeg) (xs (nI (i + 2)).toNatClampNeg) (xs (nI (i + 3)).toNatClampNeg) hk5) (cwV 3 F.hts gL_law_X5_write rfl rfl rfl hdX5_write ⟨Nat.le_of_ble_eq_true rfl, Nat.le_of_ble_eq_true rfl⟩) 0 5 rfl rfl rfl rfl (Nat.le_of_ble_eq_true rfl) dL_law_295 hroom (pc' := 298) rfl (fun r5 Z1 e5 => ?_)
  refine wk_perm List.perm_append_comm ?_
  refine wk_aload_n F dL_law_298 rfl 1 rfl (pc' := 299) rfl ?_
  refine wk_aload_n F dL_law_299 rfl 3 rfl (pc' := 300) rfl ?_
  refine wk_iload_n F dL_law_300 rfl 0 rfl (pc' := 301) rfl ?_
  refine wk_iconst (v := nI 1) F dL_law_301 rfl (pc' := 302) rfl ?_
  refine wk_iadd F dL_law_302 (pc' := 303) rfl ?_
  refine wk_top (nI_add i 1) ?_
  refine wk_sld F hX hbl hbA (lv_1 hL hi (by decide)) dL_law_303 (pc' := 304) rfl ?_
  refine wk_aload_n F dL_law_304 rfl 3 rfl (pc' := 305) rfl ?_
  refine wk_iload_n F dL_law_305 rfl 0 rfl (pc' := 306) rfl ?_
  refine wk_iconst (v := nI 2) F dL_law_306 rfl (pc' := 307) rfl ?_
  refine wk_iadd F dL_law_307 (pc' := 308) rfl ?_
  refine wk_top (nI_add i 2) ?_
  refine wk_sld F hX hbl hbA (lv_1 hL hi (by decide)) dL_law_308 (pc' := 309) rfl ?_
  refine wk_aload_n F dL_law_309 rfl 3 rfl (pc' := 310) rfl ?_
  refine wk_iload_n F dL_law_310 rfl 0 rfl (pc' := 311) rfl ?_
  refine wk_iconst (v := nI 3) F dL_law_311 rfl (pc' := 312) rfl ?_
  refine wk_iadd F dL_law_312 (pc' := 313) rfl ?_
  refine wk_top (nI_add i 3) ?_
  refine wk_sld F hX hbl hbA (lv_1 hL hi (by decide)) dL_law_313 (pc' := 314) rfl ?_
  refine wk_fr_i F (c6_write l D cI cP hm μ (xs (nI (i + 1)).toNatClampNeg) (xs (nI (i + 2)).toNatClampNeg) (xs (nI (i + 3)).toNatClampNeg) hH hL6 hP6) (cwV 3 F.hts gL_law_X6_write rfl rfl rfl hdX6_write ⟨Nat.le_of_ble_eq_true rfl, Nat.le_of_ble_eq_true rfl⟩) 0 6 rfl rfl rfl rfl (Nat.le_of_ble_eq_true rfl) dL_law_314 hroom (pc' := 317) rfl (fun r6 μ1 e6 => ?_)
  refine wk_perm List.perm_append_comm ?_
  have hh := hk.write_ok Z μ (xs (nI (i + 1)).toNatClampNeg) (xs (nI (i + 2)).toNatClampNeg) (xs (nI (i + 3)).toNatClampNeg) hZ
  rw [e5] at hh
  rw [e6] at hh
  refine wk_icmp_eq (tgt := 766) F dL_law_317 (by decide) (pc' := 320) rfl (fun _ => ?_) (fun q => absurd hh.1 q)
  exact kk Z1 μ1 hh.2
set_option maxHeartbeats 1000000 in
theorem lawC_trim (hk : SimOk Sim) (F : Fx p s m #[Value.ref b] meth c cL_law 4 wsL_law RL ret D (cty cI cP) A) (hX : va_X b L xs s s.heap) (hbl : b < s.heap.size) (hbA : ¬ A b) (hL : L ≤ 2048) (hi : i + 4 ≤ L) (hroom : cells ≤ 600000 ∧ slots ≤ 7302250) (hZ : Sim Z μ) (kk : ∀ (Z : ST) (μ : PS), Sim Z μ → Wk p l e room_1 s m #[Value.ref b] below meth c 4 D A cells slots Q (wTV cI cP ha hq Z ++ wMod cI hm μ) (lvL b (ha 0) (hm 0) i) 766 []) : Wk p l e room_1 s m #[Value.ref b] below meth c 4 D A cells slots Q (wTV cI cP ha hq Z ++ wMod cI hm μ) (lvL b (ha 0) (hm 0) i) 322 [] := by
  obtain ⟨hk5, hH, hL6, hP6, hW6, hT6⟩ := hk.pre_ok Z μ hZ
  refine wk_aload_n F dL_law_322 rfl 2 rfl (pc' := 323) rfl ?_
  refine wk_aload_n F dL_law_323 rfl 3 rfl (pc' := 324) rfl ?_
  refine wk_iload_n F dL_law_324 rfl 0 rfl (pc' := 325) rfl ?_
  refine wk_iconst (v := nI 1) F dL_law_325 rfl (pc' := 326) rfl ?_
  refine wk_iadd F dL_law_326 (pc' := 327) rfl ?_
  refine wk_top (nI_add i 1) ?_
  refine wk_sld F hX hbl hbA (lv_1 hL hi (by decide)) dL_law_327 (pc' := 328) rfl ?_
  refine wk_aload_n F dL_law_328 rfl 3 rfl (pc' := 329) rfl ?_
  refine wk_iload_n F dL_law_329 rfl 0 rfl (pc' := 330) rfl ?_
  refine wk_iconst (v := nI 2) F dL_law_330 rfl (pc' := 331) rfl ?_
  refine wk_iadd F dL_law_331 (pc' := 332) rfl ?_
  refine wk_top (nI_add i 2) ?_
  refine wk_sld F hX hbl hbA (lv_1 hL hi (by decide)) dL_law_332 (pc' := 333) rfl ?_
  refine wk_fr_i F (c5_trim l D cI cP ha hq Z (xs (nI (i + 1)).toNatClampNeg) (xs (nI (i + 2)).toNatClampNeg) hk5) (cwV 2 F.hts gL_law_X5_trim rfl rfl rfl hdX5_trim ⟨Nat.le_of_ble_eq_true rfl, Nat.le_of_ble_eq_true rfl⟩) 0 5 rfl rfl rfl rfl (Nat.le_of_ble_eq_true rfl) dL_law_333 hroom (pc' := 336) rfl (fun r5 Z1 e5 => ?_)
  refine wk_perm List.perm_append_comm ?_
  refine wk_aload_n F dL_law_336 rfl 1 rfl (pc' := 337) rfl ?_
  refine wk_aload_n F dL_law_337 rfl 3 rfl (pc' := 338) rfl ?_
  refine wk_iload_n F dL_law_338 rfl 0 rfl (pc' := 339) rfl ?_
  refine wk_iconst (v := nI 1) F dL_law_339 rfl (pc' := 340) rfl ?_
  refine wk_iadd F dL_law_340 (pc' := 341) rfl ?_
  refine wk_top (nI_add i 1) ?_
  refine wk_sld F hX hbl hbA (lv_1 hL hi (by decide)) dL_law_341 (pc' := 342) rfl ?_
  refine wk_aload_n F dL_law_342 rfl 3 rfl (pc' := 343) rfl ?_
  refine wk_iload_n F dL_law_343 rfl 0 rfl (pc' := 344) rfl ?_
  refine wk_iconst (v := nI 2) F dL_law_344 rfl (pc' := 345) rfl ?_
  refine wk_iadd F dL_law_345 (pc' := 346) rfl ?_
  refine wk_top (nI_add i 2) ?_
  refine wk_sld F hX hbl hbA (lv_1 hL hi (by decide)) dL_law_346 (pc' := 347) rfl ?_
  refine wk_fr_i F (c6_trim l D cI cP hm μ (xs (nI (i + 1)).toNatClampNeg) (xs (nI (i + 2)).toNatClampNeg) hH hL6) (cwV 2 F.hts gL_law_X6_trim rfl rfl rfl hdX6_trim ⟨Nat.le_of_ble_eq_true rfl, Nat.le_of_ble_eq_true rfl⟩) 0 6 rfl rfl rfl rfl (Nat.le_of_ble_eq_true rfl) dL_law_347 hroom (pc' := 350) rfl (fun r6 μ1 e6 => ?_)
  refine wk_perm List.perm_append_comm ?_
  have hh := hk.trim_ok Z μ (xs (nI (i + 1)).toNatClampNeg) (xs (nI (i + 2)).toNatClampNeg) hZ
  rw [e5] at hh
  rw [e6] at hh
  refine wk_icmp_eq (tgt := 766) F dL_law_350 (by decide) (pc' := 353) rfl (fun _ => ?_) (fun q => absurd hh.1 q)
  exact kk Z1 μ1 hh.2
set_option maxHeartbeats 1000000 in
theorem lawC_sweep (hk : SimOk Sim) (F : Fx p s m #[Value.ref b] meth c cL_law 4 wsL_law RL ret D (cty cI cP) A) (hX : va_X b L xs s s.heap) (hbl : b < s.heap.size) (hbA : ¬ A b) (hL : L ≤ 2048) (hi : i + 4 ≤ L) (hroom : cells ≤ 600000 ∧ slots ≤ 7302250) (hZ : Sim Z μ) (kk : ∀ (Z : ST) (μ : PS), Sim Z μ → Wk p l e room_1 s m #[Value.ref b] below meth c 4 D A cells slots Q (wTV cI cP ha hq Z ++ wMod cI hm μ) (lvL b (ha 0) (hm 0) i) 766 []) : Wk p l e room_1 s m #[Value.ref b] below meth c 4 D A cells slots Q (wTV cI cP ha hq Z ++ wMod cI hm μ) (lvL b (ha 0) (hm 0) i) 355 [] := by
  obtain ⟨hk5, hH, hL6, hP6, hW6, hT6⟩ := hk.pre_ok Z μ hZ
  refine wk_aload_n F dL_law_355 rfl 2 rfl (pc' := 356) rfl ?_
  refine wk_aload_n F dL_law_356 rfl 3 rfl (pc' := 357) rfl ?_
  refine wk_iload_n F dL_law_357 rfl 0 rfl (pc' := 358) rfl ?_
  refine wk_iconst (v := nI 1) F dL_law_358 rfl (pc' := 359) rfl ?_
  refine wk_iadd F dL_law_359 (pc' := 360) rfl ?_
  refine wk_top (nI_add i 1) ?_
  refine wk_sld F hX hbl hbA (lv_1 hL hi (by decide)) dL_law_360 (pc' := 361) rfl ?_
  refine wk_fr_i F (c5_sweep l D cI cP ha hq Z (xs (nI (i + 1)).toNatClampNeg) hk5) (cwV 1 F.hts gL_law_X5_sweep rfl rfl rfl hdX5_sweep ⟨Nat.le_of_ble_eq_true rfl, Nat.le_of_ble_eq_true rfl⟩) 0 5 rfl rfl rfl rfl (Nat.le_of_ble_eq_true rfl) dL_law_361 hroom (pc' := 364) rfl (fun r5 Z1 e5 => ?_)
  refine wk_perm List.perm_append_comm ?_
  refine wk_aload_n F dL_law_364 rfl 1 rfl (pc' := 365) rfl ?_
  refine wk_aload_n F dL_law_365 rfl 3 rfl (pc' := 366) rfl ?_
  refine wk_iload_n F dL_law_366 rfl 0 rfl (pc' := 367) rfl ?_
  refine wk_iconst (v := nI 1) F dL_law_367 rfl (pc' := 368) rfl ?_
  refine wk_iadd F dL_law_368 (pc' := 369) rfl ?_
  refine wk_top (nI_add i 1) ?_
  refine wk_sld F hX hbl hbA (lv_1 hL hi (by decide)) dL_law_369 (pc' := 370) rfl ?_
  refine wk_fr_i F (c6_sweep l D cI cP hm μ (xs (nI (i + 1)).toNatClampNeg) hH hL6 hP6) (cwV 1 F.hts gL_law_X6_sweep rfl rfl rfl hdX6_sweep ⟨Nat.le_of_ble_eq_true rfl, Nat.le_of_ble_eq_true rfl⟩) 0 6 rfl rfl rfl rfl (Nat.le_of_ble_eq_true rfl) dL_law_370 hroom (pc' := 373) rfl (fun r6 μ1 e6 => ?_)
  refine wk_perm List.perm_append_comm ?_
  have hh := hk.sweep_ok Z μ (xs (nI (i + 1)).toNatClampNeg) hZ
  rw [e5] at hh
  rw [e6] at hh
  refine wk_icmp_eq (tgt := 766) F dL_law_373 (by decide) (pc' := 376) rfl (fun _ => ?_) (fun q => absurd hh.1 q)
  exact kk Z1 μ1 hh.2
set_option maxHeartbeats 1000000 in
theorem lawC_merge (hk : SimOk Sim) (F : Fx p s m #[Value.ref b] meth c cL_law 4 wsL_law RL ret D (cty cI cP) A) (hX : va_X b L xs s s.heap) (hbl : b < s.heap.size) (hbA : ¬ A b) (hL : L ≤ 2048) (hi : i + 4 ≤ L) (hroom : cells ≤ 600000 ∧ slots ≤ 7302250) (hZ : Sim Z μ) (kk : ∀ (Z : ST) (μ : PS), Sim Z μ → Wk p l e room_1 s m #[Value.ref b] below meth c 4 D A cells slots Q (wTV cI cP ha hq Z ++ wMod cI hm μ) (lvL b (ha 0) (hm 0) i) 766 []) : Wk p l e room_1 s m #[Value.ref b] below meth c 4 D A cells slots Q (wTV cI cP ha hq Z ++ wMod cI hm μ) (lvL b (ha 0) (hm 0) i) 378 [] := by
  obtain ⟨hk5, hH, hL6, hP6, hW6, hT6⟩ := hk.pre_ok Z μ hZ
  refine wk_aload_n F dL_law_378 rfl 2 rfl (pc' := 379) rfl ?_
  refine wk_fr_i F (c5_merge l D cI cP ha hq Z hk5) (cwV 0 F.hts gL_law_X5_merge rfl rfl rfl hdX5_merge ⟨Nat.le_of_ble_eq_true rfl, Nat.le_of_ble_eq_true rfl⟩) 0 5 rfl rfl rfl rfl (Nat.le_of_ble_eq_true rfl) dL_law_379 hroom (pc' := 382) rfl (fun r5 Z1 e5 => ?_)
  refine wk_perm List.perm_append_comm ?_
  refine wk_aload_n F dL_law_382 rfl 1 rfl (pc' := 383) rfl ?_
  refine wk_fr_i F (c6_merge l D cI cP hm μ hH hL6) (cwV 0 F.hts gL_law_X6_merge rfl rfl rfl hdX6_merge ⟨Nat.le_of_ble_eq_true rfl, Nat.le_of_ble_eq_true rfl⟩) 0 6 rfl rfl rfl rfl (Nat.le_of_ble_eq_true rfl) dL_law_383 hroom (pc' := 386) rfl (fun r6 μ1 e6 => ?_)
  refine wk_perm List.perm_append_comm ?_
  have hh := hk.merge_ok Z μ hZ
  rw [e5] at hh
  rw [e6] at hh
  refine wk_icmp_eq (tgt := 766) F dL_law_386 (by decide) (pc' := 389) rfl (fun _ => ?_) (fun q => absurd hh.1 q)
  exact kk Z1 μ1 hh.2
set_option maxHeartbeats 1000000 in
theorem lawC_read (hk : SimOk Sim) (F : Fx p s m #[Value.ref b] meth c cL_law 4 wsL_law RL ret D (cty cI cP) A) (hX : va_X b L xs s s.heap) (hbl : b < s.heap.size) (hbA : ¬ A b) (hL : L ≤ 2048) (hi : i + 4 ≤ L) (hroom : cells ≤ 600000 ∧ slots ≤ 7302250) (hZ : Sim Z μ) (kk : ∀ (Z : ST) (μ : PS), Sim Z μ → Wk p l e room_1 s m #[Value.ref b] below meth c 4 D A cells slots Q (wTV cI cP ha hq Z ++ wMod cI hm μ) (lvL b (ha 0) (hm 0) i) 766 []) : Wk p l e room_1 s m #[Value.ref b] below meth c 4 D A cells slots Q (wTV cI cP ha hq Z ++ wMod cI hm μ) (lvL b (ha 0) (hm 0) i) 391 [] := by
  obtain ⟨hk5, hH, hL6, hP6, hW6, hT6⟩ := hk.pre_ok Z μ hZ
  refine wk_aload_n F dL_law_391 rfl 2 rfl (pc' := 392) rfl ?_
  refine wk_aload_n F dL_law_392 rfl 3 rfl (pc' := 393) rfl ?_
  refine wk_iload_n F dL_law_393 rfl 0 rfl (pc' := 394) rfl ?_
  refine wk_iconst (v := nI 1) F dL_law_394 rfl (pc' := 395) rfl ?_
  refine wk_iadd F dL_law_395 (pc' := 396) rfl ?_
  refine wk_top (nI_add i 1) ?_
  refine wk_sld F hX hbl hbA (lv_1 hL hi (by decide)) dL_law_396 (pc' := 397) rfl ?_
  refine wk_aload_n F dL_law_397 rfl 3 rfl (pc' := 398) rfl ?_
  refine wk_iload_n F dL_law_398 rfl 0 rfl (pc' := 399) rfl ?_
  refine wk_iconst (v := nI 2) F dL_law_399 rfl (pc' := 400) rfl ?_
  refine wk_iadd F dL_law_400 (pc' := 401) rfl ?_
  refine wk_top (nI_add i 2) ?_
  refine wk_sld F hX hbl hbA (lv_1 hL hi (by decide)) dL_law_401 (pc' := 402) rfl ?_
  refine wk_aload_n F dL_law_402 rfl 3 rfl (pc' := 403) rfl ?_
  refine wk_iload_n F dL_law_403 rfl 0 rfl (pc' := 404) rfl ?_
  refine wk_iconst (v := nI 3) F dL_law_404 rfl (pc' := 405) rfl ?_
  refine wk_iadd F dL_law_405 (pc' := 406) rfl ?_
  refine wk_top (nI_add i 3) ?_
  refine wk_sld F hX hbl hbA (lv_1 hL hi (by decide)) dL_law_406 (pc' := 407) rfl ?_
  refine wk_fr_p F (c5_read l D cI cP ha hq Z (xs (nI (i + 1)).toNatClampNeg) (xs (nI (i + 2)).toNatClampNeg) (xs (nI (i + 3)).toNatClampNeg)) (cwV 3 F.hts gL_law_X5_read rfl rfl rfl hdX5_read ⟨Nat.le_of_ble_eq_true rfl, Nat.le_of_ble_eq_true rfl⟩) 0 5 rfl rfl rfl rfl (Nat.le_of_ble_eq_true rfl) dL_law_407 hroom (pc' := 410) rfl ?_
  refine wk_perm List.perm_append_comm ?_
  refine wk_aload_n F dL_law_410 rfl 1 rfl (pc' := 411) rfl ?_
  refine wk_aload_n F dL_law_411 rfl 3 rfl (pc' := 412) rfl ?_
  refine wk_iload_n F dL_law_412 rfl 0 rfl (pc' := 413) rfl ?_
  refine wk_iconst (v := nI 1) F dL_law_413 rfl (pc' := 414) rfl ?_
  refine wk_iadd F dL_law_414 (pc' := 415) rfl ?_
  refine wk_top (nI_add i 1) ?_
  refine wk_sld F hX hbl hbA (lv_1 hL hi (by decide)) dL_law_415 (pc' := 416) rfl ?_
  refine wk_aload_n F dL_law_416 rfl 3 rfl (pc' := 417) rfl ?_
  refine wk_iload_n F dL_law_417 rfl 0 rfl (pc' := 418) rfl ?_
  refine wk_iconst (v := nI 2) F dL_law_418 rfl (pc' := 419) rfl ?_
  refine wk_iadd F dL_law_419 (pc' := 420) rfl ?_
  refine wk_top (nI_add i 2) ?_
  refine wk_sld F hX hbl hbA (lv_1 hL hi (by decide)) dL_law_420 (pc' := 421) rfl ?_
  refine wk_aload_n F dL_law_421 rfl 3 rfl (pc' := 422) rfl ?_
  refine wk_iload_n F dL_law_422 rfl 0 rfl (pc' := 423) rfl ?_
  refine wk_iconst (v := nI 3) F dL_law_423 rfl (pc' := 424) rfl ?_
  refine wk_iadd F dL_law_424 (pc' := 425) rfl ?_
  refine wk_top (nI_add i 3) ?_
  refine wk_sld F hX hbl hbA (lv_1 hL hi (by decide)) dL_law_425 (pc' := 426) rfl ?_
  refine wk_fr_p F (c6_read l D cI cP hm μ (xs (nI (i + 1)).toNatClampNeg) (xs (nI (i + 2)).toNatClampNeg) (xs (nI (i + 3)).toNatClampNeg) hL6 hP6) (cwV 3 F.hts gL_law_X6_read rfl rfl rfl hdX6_read ⟨Nat.le_of_ble_eq_true rfl, Nat.le_of_ble_eq_true rfl⟩) 0 6 rfl rfl rfl rfl (Nat.le_of_ble_eq_true rfl) dL_law_426 hroom (pc' := 429) rfl ?_
  refine wk_perm List.perm_append_comm ?_
  have hh := hk.read_ok Z μ (xs (nI (i + 1)).toNatClampNeg) (xs (nI (i + 2)).toNatClampNeg) (xs (nI (i + 3)).toNatClampNeg) hZ
  refine wk_icmp_eq (tgt := 766) F dL_law_429 (by decide) (pc' := 432) rfl (fun _ => ?_) (fun q => absurd hh q)
  exact kk Z μ hZ
set_option maxHeartbeats 1000000 in
theorem lawC_volumeOf (hk : SimOk Sim) (F : Fx p s m #[Value.ref b] meth c cL_law 4 wsL_law RL ret D (cty cI cP) A) (hX : va_X b L xs s s.heap) (hbl : b < s.heap.size) (hbA : ¬ A b) (hL : L ≤ 2048) (hi : i + 4 ≤ L) (hroom : cells ≤ 600000 ∧ slots ≤ 7302250) (hZ : Sim Z μ) (kk : ∀ (Z : ST) (μ : PS), Sim Z μ → Wk p l e room_1 s m #[Value.ref b] below meth c 4 D A cells slots Q (wTV cI cP ha hq Z ++ wMod cI hm μ) (lvL b (ha 0) (hm 0) i) 766 []) : Wk p l e room_1 s m #[Value.ref b] below meth c 4 D A cells slots Q (wTV cI cP ha hq Z ++ wMod cI hm μ) (lvL b (ha 0) (hm 0) i) 434 [] := by
  obtain ⟨hk5, hH, hL6, hP6, hW6, hT6⟩ := hk.pre_ok Z μ hZ
  refine wk_aload_n F dL_law_434 rfl 2 rfl (pc' := 435) rfl ?_
  refine wk_aload_n F dL_law_435 rfl 3 rfl (pc' := 436) rfl ?_
  refine wk_iload_n F dL_law_436 rfl 0 rfl (pc' := 437) rfl ?_
  refine wk_iconst (v := nI 1) F dL_law_437 rfl (pc' := 438) rfl ?_
  refine wk_iadd F dL_law_438 (pc' := 439) rfl ?_
  refine wk_top (nI_add i 1) ?_
  refine wk_sld F hX hbl hbA (lv_1 hL hi (by decide)) dL_law_439 (pc' := 440) rfl ?_
  refine wk_aload_n F dL_law_440 rfl 3 rfl (pc' := 441) rfl ?_
  refine wk_iload_n F dL_law_441 rfl 0 rfl (pc' := 442) rfl ?_
  refine wk_iconst (v := nI 2) F dL_law_442 rfl (pc' := 443) rfl ?_
  refine wk_iadd F dL_law_443 (pc' := 444) rfl ?_
  refine wk_top (nI_add i 2) ?_
  refine wk_sld F hX hbl hbA (lv_1 hL hi (by decide)) dL_law_444 (pc' := 445) rfl ?_
  refine wk_fr_p F (c5_volumeOf l D cI cP ha hq Z (xs (nI (i + 1)).toNatClampNeg) (xs (nI (i + 2)).toNatClampNeg)) (cwV 2 F.hts gL_law_X5_volumeOf rfl rfl rfl hdX5_volumeOf ⟨Nat.le_of_ble_eq_true rfl, Nat.le_of_ble_eq_true rfl⟩) 0 5 rfl rfl rfl rfl (Nat.le_of_ble_eq_true rfl) dL_law_445 hroom (pc' := 448) rfl ?_
  refine wk_perm List.perm_append_comm ?_
  refine wk_aload_n F dL_law_448 rfl 1 rfl (pc' := 449) rfl ?_
  refine wk_aload_n F dL_law_449 rfl 3 rfl (pc' := 450) rfl ?_
  refine wk_iload_n F dL_law_450 rfl 0 rfl (pc' := 451) rfl ?_
  refine wk_iconst (v := nI 1) F dL_law_451 rfl (pc' := 452) rfl ?_
  refine wk_iadd F dL_law_452 (pc' := 453) rfl ?_
  refine wk_top (nI_add i 1) ?_
  refine wk_sld F hX hbl hbA (lv_1 hL hi (by decide)) dL_law_453 (pc' := 454) rfl ?_
  refine wk_aload_n F dL_law_454 rfl 3 rfl (pc' := 455) rfl ?_
  refine wk_iload_n F dL_law_455 rfl 0 rfl (pc' := 456) rfl ?_
  refine wk_iconst (v := nI 2) F dL_law_456 rfl (pc' := 457) rfl ?_
  refine wk_iadd F dL_law_457 (pc' := 458) rfl ?_
  refine wk_top (nI_add i 2) ?_
  refine wk_sld F hX hbl hbA (lv_1 hL hi (by decide)) dL_law_458 (pc' := 459) rfl ?_
  refine wk_fr_p F (c6_volumeOf l D cI cP hm μ (xs (nI (i + 1)).toNatClampNeg) (xs (nI (i + 2)).toNatClampNeg) hL6) (cwV 2 F.hts gL_law_X6_volumeOf rfl rfl rfl hdX6_volumeOf ⟨Nat.le_of_ble_eq_true rfl, Nat.le_of_ble_eq_true rfl⟩) 0 6 rfl rfl rfl rfl (Nat.le_of_ble_eq_true rfl) dL_law_459 hroom (pc' := 462) rfl ?_
  refine wk_perm List.perm_append_comm ?_
  have hh := hk.volumeOf_ok Z μ (xs (nI (i + 1)).toNatClampNeg) (xs (nI (i + 2)).toNatClampNeg) hZ
  refine wk_icmp_eq (tgt := 766) F dL_law_462 (by decide) (pc' := 465) rfl (fun _ => ?_) (fun q => absurd hh q)
  exact kk Z μ hZ
set_option maxHeartbeats 1000000 in
theorem lawC_pieceOf (hk : SimOk Sim) (F : Fx p s m #[Value.ref b] meth c cL_law 4 wsL_law RL ret D (cty cI cP) A) (hX : va_X b L xs s s.heap) (hbl : b < s.heap.size) (hbA : ¬ A b) (hL : L ≤ 2048) (hi : i + 4 ≤ L) (hroom : cells ≤ 600000 ∧ slots ≤ 7302250) (hZ : Sim Z μ) (kk : ∀ (Z : ST) (μ : PS), Sim Z μ → Wk p l e room_1 s m #[Value.ref b] below meth c 4 D A cells slots Q (wTV cI cP ha hq Z ++ wMod cI hm μ) (lvL b (ha 0) (hm 0) i) 766 []) : Wk p l e room_1 s m #[Value.ref b] below meth c 4 D A cells slots Q (wTV cI cP ha hq Z ++ wMod cI hm μ) (lvL b (ha 0) (hm 0) i) 467 [] := by
  obtain ⟨hk5, hH, hL6, hP6, hW6, hT6⟩ := hk.pre_ok Z μ hZ
  refine wk_aload_n F dL_law_467 rfl 2 rfl (pc' := 468) rfl ?_
  refine wk_aload_n F dL_law_468 rfl 3 rfl (pc' := 469) rfl ?_
  refine wk_iload_n F dL_law_469 rfl 0 rfl (pc' := 470) rfl ?_
  refine wk_iconst (v := nI 1) F dL_law_470 rfl (pc' := 471) rfl ?_
  refine wk_iadd F dL_law_471 (pc' := 472) rfl ?_
  refine wk_top (nI_add i 1) ?_
  refine wk_sld F hX hbl hbA (lv_1 hL hi (by decide)) dL_law_472 (pc' := 473) rfl ?_
  refine wk_aload_n F dL_law_473 rfl 3 rfl (pc' := 474) rfl ?_
  refine wk_iload_n F dL_law_474 rfl 0 rfl (pc' := 475) rfl ?_
  refine wk_iconst (v := nI 2) F dL_law_475 rfl (pc' := 476) rfl ?_
  refine wk_iadd F dL_law_476 (pc' := 477) rfl ?_
  refine wk_top (nI_add i 2) ?_
  refine wk_sld F hX hbl hbA (lv_1 hL hi (by decide)) dL_law_477 (pc' := 478) rfl ?_
  refine wk_fr_p F (c5_pieceOf l D cI cP ha hq Z (xs (nI (i + 1)).toNatClampNeg) (xs (nI (i + 2)).toNatClampNeg)) (cwV 2 F.hts gL_law_X5_pieceOf rfl rfl rfl hdX5_pieceOf ⟨Nat.le_of_ble_eq_true rfl, Nat.le_of_ble_eq_true rfl⟩) 0 5 rfl rfl rfl rfl (Nat.le_of_ble_eq_true rfl) dL_law_478 hroom (pc' := 481) rfl ?_
  refine wk_perm List.perm_append_comm ?_
  refine wk_aload_n F dL_law_481 rfl 1 rfl (pc' := 482) rfl ?_
  refine wk_aload_n F dL_law_482 rfl 3 rfl (pc' := 483) rfl ?_
  refine wk_iload_n F dL_law_483 rfl 0 rfl (pc' := 484) rfl ?_
  refine wk_iconst (v := nI 1) F dL_law_484 rfl (pc' := 485) rfl ?_
  refine wk_iadd F dL_law_485 (pc' := 486) rfl ?_
  refine wk_top (nI_add i 1) ?_
  refine wk_sld F hX hbl hbA (lv_1 hL hi (by decide)) dL_law_486 (pc' := 487) rfl ?_
  refine wk_aload_n F dL_law_487 rfl 3 rfl (pc' := 488) rfl ?_
  refine wk_iload_n F dL_law_488 rfl 0 rfl (pc' := 489) rfl ?_
  refine wk_iconst (v := nI 2) F dL_law_489 rfl (pc' := 490) rfl ?_
  refine wk_iadd F dL_law_490 (pc' := 491) rfl ?_
  refine wk_top (nI_add i 2) ?_
  refine wk_sld F hX hbl hbA (lv_1 hL hi (by decide)) dL_law_491 (pc' := 492) rfl ?_
  refine wk_fr_p F (c6_pieceOf l D cI cP hm μ (xs (nI (i + 1)).toNatClampNeg) (xs (nI (i + 2)).toNatClampNeg) hL6) (cwV 2 F.hts gL_law_X6_pieceOf rfl rfl rfl hdX6_pieceOf ⟨Nat.le_of_ble_eq_true rfl, Nat.le_of_ble_eq_true rfl⟩) 0 6 rfl rfl rfl rfl (Nat.le_of_ble_eq_true rfl) dL_law_492 hroom (pc' := 495) rfl ?_
  refine wk_perm List.perm_append_comm ?_
  have hh := hk.pieceOf_ok Z μ (xs (nI (i + 1)).toNatClampNeg) (xs (nI (i + 2)).toNatClampNeg) hZ
  refine wk_icmp_eq (tgt := 766) F dL_law_495 (by decide) (pc' := 498) rfl (fun _ => ?_) (fun q => absurd hh q)
  exact kk Z μ hZ
set_option maxHeartbeats 1000000 in
theorem lawC_warningOf (hk : SimOk Sim) (F : Fx p s m #[Value.ref b] meth c cL_law 4 wsL_law RL ret D (cty cI cP) A) (hX : va_X b L xs s s.heap) (hbl : b < s.heap.size) (hbA : ¬ A b) (hL : L ≤ 2048) (hi : i + 4 ≤ L) (hroom : cells ≤ 600000 ∧ slots ≤ 7302250) (hZ : Sim Z μ) (kk : ∀ (Z : ST) (μ : PS), Sim Z μ → Wk p l e room_1 s m #[Value.ref b] below meth c 4 D A cells slots Q (wTV cI cP ha hq Z ++ wMod cI hm μ) (lvL b (ha 0) (hm 0) i) 766 []) : Wk p l e room_1 s m #[Value.ref b] below meth c 4 D A cells slots Q (wTV cI cP ha hq Z ++ wMod cI hm μ) (lvL b (ha 0) (hm 0) i) 500 [] := by
  obtain ⟨hk5, hH, hL6, hP6, hW6, hT6⟩ := hk.pre_ok Z μ hZ
  refine wk_aload_n F dL_law_500 rfl 2 rfl (pc' := 501) rfl ?_
  refine wk_aload_n F dL_law_501 rfl 3 rfl (pc' := 502) rfl ?_
  refine wk_iload_n F dL_law_502 rfl 0 rfl (pc' := 503) rfl ?_
  refine wk_iconst (v := nI 1) F dL_law_503 rfl (pc' := 504) rfl ?_
  refine wk_iadd F dL_law_504 (pc' := 505) rfl ?_
  refine wk_top (nI_add i 1) ?_
  refine wk_sld F hX hbl hbA (lv_1 hL hi (by decide)) dL_law_505 (pc' := 506) rfl ?_
  refine wk_aload_n F dL_law_506 rfl 3 rfl (pc' := 507) rfl ?_
  refine wk_iload_n F dL_law_507 rfl 0 rfl (pc' := 508) rfl ?_
  refine wk_iconst (v := nI 2) F dL_law_508 rfl (pc' := 509) rfl ?_
  refine wk_iadd F dL_law_509 (pc' := 510) rfl ?_
  refine wk_top (nI_add i 2) ?_
  refine wk_sld F hX hbl hbA (lv_1 hL hi (by decide)) dL_law_510 (pc' := 511) rfl ?_
  refine wk_fr_p F (c5_warningOf l D cI cP ha hq Z (xs (nI (i + 1)).toNatClampNeg) (xs (nI (i + 2)).toNatClampNeg)) (cwV 2 F.hts gL_law_X5_warningOf rfl rfl rfl hdX5_warningOf ⟨Nat.le_of_ble_eq_true rfl, Nat.le_of_ble_eq_true rfl⟩) 0 5 rfl rfl rfl rfl (Nat.le_of_ble_eq_true rfl) dL_law_511 hroom (pc' := 514) rfl ?_
  refine wk_perm List.perm_append_comm ?_
  refine wk_aload_n F dL_law_514 rfl 1 rfl (pc' := 515) rfl ?_
  refine wk_aload_n F dL_law_515 rfl 3 rfl (pc' := 516) rfl ?_
  refine wk_iload_n F dL_law_516 rfl 0 rfl (pc' := 517) rfl ?_
  refine wk_iconst (v := nI 1) F dL_law_517 rfl (pc' := 518) rfl ?_
  refine wk_iadd F dL_law_518 (pc' := 519) rfl ?_
  refine wk_top (nI_add i 1) ?_
  refine wk_sld F hX hbl hbA (lv_1 hL hi (by decide)) dL_law_519 (pc' := 520) rfl ?_
  refine wk_aload_n F dL_law_520 rfl 3 rfl (pc' := 521) rfl ?_
  refine wk_iload_n F dL_law_521 rfl 0 rfl (pc' := 522) rfl ?_
  refine wk_iconst (v := nI 2) F dL_law_522 rfl (pc' := 523) rfl ?_
  refine wk_iadd F dL_law_523 (pc' := 524) rfl ?_
  refine wk_top (nI_add i 2) ?_
  refine wk_sld F hX hbl hbA (lv_1 hL hi (by decide)) dL_law_524 (pc' := 525) rfl ?_
  refine wk_fr_p F (c6_warningOf l D cI cP hm μ (xs (nI (i + 1)).toNatClampNeg) (xs (nI (i + 2)).toNatClampNeg) hW6) (cwV 2 F.hts gL_law_X6_warningOf rfl rfl rfl hdX6_warningOf ⟨Nat.le_of_ble_eq_true rfl, Nat.le_of_ble_eq_true rfl⟩) 0 6 rfl rfl rfl rfl (Nat.le_of_ble_eq_true rfl) dL_law_525 hroom (pc' := 528) rfl ?_
  refine wk_perm List.perm_append_comm ?_
  have hh := hk.warningOf_ok Z μ (xs (nI (i + 1)).toNatClampNeg) (xs (nI (i + 2)).toNatClampNeg) hZ
  refine wk_icmp_eq (tgt := 766) F dL_law_528 (by decide) (pc' := 531) rfl (fun _ => ?_) (fun q => absurd hh q)
  exact kk Z μ hZ
set_option maxHeartbeats 1000000 in
theorem lawC_couldGet (hk : SimOk Sim) (F : Fx p s m #[Value.ref b] meth c cL_law 4 wsL_law RL ret D (cty cI cP) A) (hX : va_X b L xs s s.heap) (hbl : b < s.heap.size) (hbA : ¬ A b) (hL : L ≤ 2048) (hi : i + 4 ≤ L) (hroom : cells ≤ 600000 ∧ slots ≤ 7302250) (hZ : Sim Z μ) (kk : ∀ (Z : ST) (μ : PS), Sim Z μ → Wk p l e room_1 s m #[Value.ref b] below meth c 4 D A cells slots Q (wTV cI cP ha hq Z ++ wMod cI hm μ) (lvL b (ha 0) (hm 0) i) 766 []) : Wk p l e room_1 s m #[Value.ref b] below meth c 4 D A cells slots Q (wTV cI cP ha hq Z ++ wMod cI hm μ) (lvL b (ha 0) (hm 0) i) 533 [] := by
  obtain ⟨hk5, hH, hL6, hP6, hW6, hT6⟩ := hk.pre_ok Z μ hZ
  refine wk_aload_n F dL_law_533 rfl 2 rfl (pc' := 534) rfl ?_
  refine wk_aload_n F dL_law_534 rfl 3 rfl (pc' := 535) rfl ?_
  refine wk_iload_n F dL_law_535 rfl 0 rfl (pc' := 536) rfl ?_
  refine wk_iconst (v := nI 1) F dL_law_536 rfl (pc' := 537) rfl ?_
  refine wk_iadd F dL_law_537 (pc' := 538) rfl ?_
  refine wk_top (nI_add i 1) ?_
  refine wk_sld F hX hbl hbA (lv_1 hL hi (by decide)) dL_law_538 (pc' := 539) rfl ?_
  refine wk_fr_p F (c5_couldGet l D cI cP ha hq Z (xs (nI (i + 1)).toNatClampNeg)) (cwV 1 F.hts gL_law_X5_couldGet rfl rfl rfl hdX5_couldGet ⟨Nat.le_of_ble_eq_true rfl, Nat.le_of_ble_eq_true rfl⟩) 0 5 rfl rfl rfl rfl (Nat.le_of_ble_eq_true rfl) dL_law_539 hroom (pc' := 542) rfl ?_
  refine wk_perm List.perm_append_comm ?_
  refine wk_aload_n F dL_law_542 rfl 1 rfl (pc' := 543) rfl ?_
  refine wk_aload_n F dL_law_543 rfl 3 rfl (pc' := 544) rfl ?_
  refine wk_iload_n F dL_law_544 rfl 0 rfl (pc' := 545) rfl ?_
  refine wk_iconst (v := nI 1) F dL_law_545 rfl (pc' := 546) rfl ?_
  refine wk_iadd F dL_law_546 (pc' := 547) rfl ?_
  refine wk_top (nI_add i 1) ?_
  refine wk_sld F hX hbl hbA (lv_1 hL hi (by decide)) dL_law_547 (pc' := 548) rfl ?_
  refine wk_fr_i F (c6_couldGetV l D cI cP hm μ (xs (nI (i + 1)).toNatClampNeg) hL6 (hk.get_ok Z μ _ hZ)) (cwV 1 F.hts gL_law_X6_couldGet rfl rfl rfl hdX6_couldGet ⟨Nat.le_of_ble_eq_true rfl, Nat.le_of_ble_eq_true rfl⟩) 0 6 rfl rfl rfl rfl (Nat.le_of_ble_eq_true rfl) dL_law_548 hroom (pc' := 551) rfl (fun r6 μ1 e6 => ?_)
  refine wk_perm List.perm_append_comm ?_
  have hh := hk.couldGet_ok Z μ (xs (nI (i + 1)).toNatClampNeg) hZ
  rw [e6] at hh
  refine wk_icmp_eq (tgt := 766) F dL_law_551 (by decide) (pc' := 554) rfl (fun _ => ?_) (fun q => absurd hh.1 q)
  exact kk Z μ1 hh.2
set_option maxHeartbeats 1000000 in
theorem lawC_couldFree (hk : SimOk Sim) (F : Fx p s m #[Value.ref b] meth c cL_law 4 wsL_law RL ret D (cty cI cP) A) (hX : va_X b L xs s s.heap) (hbl : b < s.heap.size) (hbA : ¬ A b) (hL : L ≤ 2048) (hi : i + 4 ≤ L) (hroom : cells ≤ 600000 ∧ slots ≤ 7302250) (hZ : Sim Z μ) (kk : ∀ (Z : ST) (μ : PS), Sim Z μ → Wk p l e room_1 s m #[Value.ref b] below meth c 4 D A cells slots Q (wTV cI cP ha hq Z ++ wMod cI hm μ) (lvL b (ha 0) (hm 0) i) 766 []) : Wk p l e room_1 s m #[Value.ref b] below meth c 4 D A cells slots Q (wTV cI cP ha hq Z ++ wMod cI hm μ) (lvL b (ha 0) (hm 0) i) 556 [] := by
  obtain ⟨hk5, hH, hL6, hP6, hW6, hT6⟩ := hk.pre_ok Z μ hZ
  refine wk_aload_n F dL_law_556 rfl 2 rfl (pc' := 557) rfl ?_
  refine wk_aload_n F dL_law_557 rfl 3 rfl (pc' := 558) rfl ?_
  refine wk_iload_n F dL_law_558 rfl 0 rfl (pc' := 559) rfl ?_
  refine wk_iconst (v := nI 1) F dL_law_559 rfl (pc' := 560) rfl ?_
  refine wk_iadd F dL_law_560 (pc' := 561) rfl ?_
  refine wk_top (nI_add i 1) ?_
  refine wk_sld F hX hbl hbA (lv_1 hL hi (by decide)) dL_law_561 (pc' := 562) rfl ?_
  refine wk_fr_i F (c5_couldFree l D cI cP ha hq Z (xs (nI (i + 1)).toNatClampNeg)) (cwV 1 F.hts gL_law_X5_couldFree rfl rfl rfl hdX5_couldFree ⟨Nat.le_of_ble_eq_true rfl, Nat.le_of_ble_eq_true rfl⟩) 0 5 rfl rfl rfl rfl (Nat.le_of_ble_eq_true rfl) dL_law_562 hroom (pc' := 565) rfl (fun r5 Z1 e5 => ?_)
  refine wk_perm List.perm_append_comm ?_
  refine wk_aload_n F dL_law_565 rfl 1 rfl (pc' := 566) rfl ?_
  refine wk_aload_n F dL_law_566 rfl 3 rfl (pc' := 567) rfl ?_
  refine wk_iload_n F dL_law_567 rfl 0 rfl (pc' := 568) rfl ?_
  refine wk_iconst (v := nI 1) F dL_law_568 rfl (pc' := 569) rfl ?_
  refine wk_iadd F dL_law_569 (pc' := 570) rfl ?_
  refine wk_top (nI_add i 1) ?_
  refine wk_sld F hX hbl hbA (lv_1 hL hi (by decide)) dL_law_570 (pc' := 571) rfl ?_
  refine wk_fr_i F (c6_couldFree l D cI cP hm μ (xs (nI (i + 1)).toNatClampNeg) hL6 hP6) (cwV 1 F.hts gL_law_X6_couldFree rfl rfl rfl hdX6_couldFree ⟨Nat.le_of_ble_eq_true rfl, Nat.le_of_ble_eq_true rfl⟩) 0 6 rfl rfl rfl rfl (Nat.le_of_ble_eq_true rfl) dL_law_571 hroom (pc' := 574) rfl (fun r6 μ1 e6 => ?_)
  refine wk_perm List.perm_append_comm ?_
  have hh := hk.couldFree_ok Z μ (xs (nI (i + 1)).toNatClampNeg) hZ
  rw [e5] at hh
  rw [e6] at hh
  refine wk_icmp_eq (tgt := 766) F dL_law_574 (by decide) (pc' := 577) rfl (fun _ => ?_) (fun q => absurd hh.1 q)
  exact kk Z1 μ1 hh.2
set_option maxHeartbeats 1000000 in
theorem lawC_family (hk : SimOk Sim) (F : Fx p s m #[Value.ref b] meth c cL_law 4 wsL_law RL ret D (cty cI cP) A) (hX : va_X b L xs s s.heap) (hbl : b < s.heap.size) (hbA : ¬ A b) (hL : L ≤ 2048) (hi : i + 4 ≤ L) (hroom : cells ≤ 600000 ∧ slots ≤ 7302250) (hZ : Sim Z μ) (kk : ∀ (Z : ST) (μ : PS), Sim Z μ → Wk p l e room_1 s m #[Value.ref b] below meth c 4 D A cells slots Q (wTV cI cP ha hq Z ++ wMod cI hm μ) (lvL b (ha 0) (hm 0) i) 766 []) : Wk p l e room_1 s m #[Value.ref b] below meth c 4 D A cells slots Q (wTV cI cP ha hq Z ++ wMod cI hm μ) (lvL b (ha 0) (hm 0) i) 579 [] := by
  obtain ⟨hk5, hH, hL6, hP6, hW6, hT6⟩ := hk.pre_ok Z μ hZ
  refine wk_aload_n F dL_law_579 rfl 2 rfl (pc' := 580) rfl ?_
  refine wk_aload_n F dL_law_580 rfl 3 rfl (pc' := 581) rfl ?_
  refine wk_iload_n F dL_law_581 rfl 0 rfl (pc' := 582) rfl ?_
  refine wk_iconst (v := nI 1) F dL_law_582 rfl (pc' := 583) rfl ?_
  refine wk_iadd F dL_law_583 (pc' := 584) rfl ?_
  refine wk_top (nI_add i 1) ?_
  refine wk_sld F hX hbl hbA (lv_1 hL hi (by decide)) dL_law_584 (pc' := 585) rfl ?_
  refine wk_aload_n F dL_law_585 rfl 3 rfl (pc' := 586) rfl ?_
  refine wk_iload_n F dL_law_586 rfl 0 rfl (pc' := 587) rfl ?_
  refine wk_iconst (v := nI 2) F dL_law_587 rfl (pc' := 588) rfl ?_
  refine wk_iadd F dL_law_588 (pc' := 589) rfl ?_
  refine wk_top (nI_add i 2) ?_
  refine wk_sld F hX hbl hbA (lv_1 hL hi (by decide)) dL_law_589 (pc' := 590) rfl ?_
  refine wk_fr_p F (c5_family l D cI cP ha hq Z (xs (nI (i + 1)).toNatClampNeg) (xs (nI (i + 2)).toNatClampNeg)) (cwV 2 F.hts gL_law_X5_family rfl rfl rfl hdX5_family ⟨Nat.le_of_ble_eq_true rfl, Nat.le_of_ble_eq_true rfl⟩) 0 5 rfl rfl rfl rfl (Nat.le_of_ble_eq_true rfl) dL_law_590 hroom (pc' := 593) rfl ?_
  refine wk_perm List.perm_append_comm ?_
  refine wk_aload_n F dL_law_593 rfl 1 rfl (pc' := 594) rfl ?_
  refine wk_aload_n F dL_law_594 rfl 3 rfl (pc' := 595) rfl ?_
  refine wk_iload_n F dL_law_595 rfl 0 rfl (pc' := 596) rfl ?_
  refine wk_iconst (v := nI 1) F dL_law_596 rfl (pc' := 597) rfl ?_
  refine wk_iadd F dL_law_597 (pc' := 598) rfl ?_
  refine wk_top (nI_add i 1) ?_
  refine wk_sld F hX hbl hbA (lv_1 hL hi (by decide)) dL_law_598 (pc' := 599) rfl ?_
  refine wk_aload_n F dL_law_599 rfl 3 rfl (pc' := 600) rfl ?_
  refine wk_iload_n F dL_law_600 rfl 0 rfl (pc' := 601) rfl ?_
  refine wk_iconst (v := nI 2) F dL_law_601 rfl (pc' := 602) rfl ?_
  refine wk_iadd F dL_law_602 (pc' := 603) rfl ?_
  refine wk_top (nI_add i 2) ?_
  refine wk_sld F hX hbl hbA (lv_1 hL hi (by decide)) dL_law_603 (pc' := 604) rfl ?_
  refine wk_fr_p F (c6_family l D cI cP hm μ (xs (nI (i + 1)).toNatClampNeg) (xs (nI (i + 2)).toNatClampNeg) hL6 (hk.fam_ok Z μ _ hZ)) (cwV 2 F.hts gL_law_X6_family rfl rfl rfl hdX6_family ⟨Nat.le_of_ble_eq_true rfl, Nat.le_of_ble_eq_true rfl⟩) 0 6 rfl rfl rfl rfl (Nat.le_of_ble_eq_true rfl) dL_law_604 hroom (pc' := 607) rfl ?_
  refine wk_perm List.perm_append_comm ?_
  have hh := hk.family_ok Z μ (xs (nI (i + 1)).toNatClampNeg) (xs (nI (i + 2)).toNatClampNeg) hZ
  refine wk_icmp_eq (tgt := 766) F dL_law_607 (by decide) (pc' := 610) rfl (fun _ => ?_) (fun q => absurd hh q)
  exact kk Z μ hZ
set_option maxHeartbeats 1000000 in
theorem lawC_ranked (hk : SimOk Sim) (F : Fx p s m #[Value.ref b] meth c cL_law 4 wsL_law RL ret D (cty cI cP) A) (hX : va_X b L xs s s.heap) (hbl : b < s.heap.size) (hbA : ¬ A b) (hL : L ≤ 2048) (hi : i + 4 ≤ L) (hroom : cells ≤ 600000 ∧ slots ≤ 7302250) (hZ : Sim Z μ) (kk : ∀ (Z : ST) (μ : PS), Sim Z μ → Wk p l e room_1 s m #[Value.ref b] below meth c 4 D A cells slots Q (wTV cI cP ha hq Z ++ wMod cI hm μ) (lvL b (ha 0) (hm 0) i) 766 []) : Wk p l e room_1 s m #[Value.ref b] below meth c 4 D A cells slots Q (wTV cI cP ha hq Z ++ wMod cI hm μ) (lvL b (ha 0) (hm 0) i) 612 [] := by
  obtain ⟨hk5, hH, hL6, hP6, hW6, hT6⟩ := hk.pre_ok Z μ hZ
  refine wk_aload_n F dL_law_612 rfl 2 rfl (pc' := 613) rfl ?_
  refine wk_aload_n F dL_law_613 rfl 3 rfl (pc' := 614) rfl ?_
  refine wk_iload_n F dL_law_614 rfl 0 rfl (pc' := 615) rfl ?_
  refine wk_iconst (v := nI 1) F dL_law_615 rfl (pc' := 616) rfl ?_
  refine wk_iadd F dL_law_616 (pc' := 617) rfl ?_
  refine wk_top (nI_add i 1) ?_
  refine wk_sld F hX hbl hbA (lv_1 hL hi (by decide)) dL_law_617 (pc' := 618) rfl ?_
  refine wk_fr_p F (c5_ranked l D cI cP ha hq Z (xs (nI (i + 1)).toNatClampNeg)) (cwV 1 F.hts gL_law_X5_ranked rfl rfl rfl hdX5_ranked ⟨Nat.le_of_ble_eq_true rfl, Nat.le_of_ble_eq_true rfl⟩) 0 5 rfl rfl rfl rfl (Nat.le_of_ble_eq_true rfl) dL_law_618 hroom (pc' := 621) rfl ?_
  refine wk_perm List.perm_append_comm ?_
  refine wk_aload_n F dL_law_621 rfl 1 rfl (pc' := 622) rfl ?_
  refine wk_aload_n F dL_law_622 rfl 3 rfl (pc' := 623) rfl ?_
  refine wk_iload_n F dL_law_623 rfl 0 rfl (pc' := 624) rfl ?_
  refine wk_iconst (v := nI 1) F dL_law_624 rfl (pc' := 625) rfl ?_
  refine wk_iadd F dL_law_625 (pc' := 626) rfl ?_
  refine wk_top (nI_add i 1) ?_
  refine wk_sld F hX hbl hbA (lv_1 hL hi (by decide)) dL_law_626 (pc' := 627) rfl ?_
  refine wk_fr_p F (c6_ranked l D cI cP hm μ (xs (nI (i + 1)).toNatClampNeg)) (cwV 1 F.hts gL_law_X6_ranked rfl rfl rfl hdX6_ranked ⟨Nat.le_of_ble_eq_true rfl, Nat.le_of_ble_eq_true rfl⟩) 0 6 rfl rfl rfl rfl (Nat.le_of_ble_eq_true rfl) dL_law_627 hroom (pc' := 630) rfl ?_
  refine wk_perm List.perm_append_comm ?_
  have hh := hk.ranked_ok Z μ (xs (nI (i + 1)).toNatClampNeg) hZ
  refine wk_icmp_eq (tgt := 766) F dL_law_630 (by decide) (pc' := 633) rfl (fun _ => ?_) (fun q => absurd hh q)
  exact kk Z μ hZ
set_option maxHeartbeats 1000000 in
theorem lawC_over (hk : SimOk Sim) (F : Fx p s m #[Value.ref b] meth c cL_law 4 wsL_law RL ret D (cty cI cP) A) (hX : va_X b L xs s s.heap) (hbl : b < s.heap.size) (hbA : ¬ A b) (hL : L ≤ 2048) (hi : i + 4 ≤ L) (hroom : cells ≤ 600000 ∧ slots ≤ 7302250) (hZ : Sim Z μ) (kk : ∀ (Z : ST) (μ : PS), Sim Z μ → Wk p l e room_1 s m #[Value.ref b] below meth c 4 D A cells slots Q (wTV cI cP ha hq Z ++ wMod cI hm μ) (lvL b (ha 0) (hm 0) i) 766 []) : Wk p l e room_1 s m #[Value.ref b] below meth c 4 D A cells slots Q (wTV cI cP ha hq Z ++ wMod cI hm μ) (lvL b (ha 0) (hm 0) i) 635 [] := by
  obtain ⟨hk5, hH, hL6, hP6, hW6, hT6⟩ := hk.pre_ok Z μ hZ
  refine wk_aload_n F dL_law_635 rfl 2 rfl (pc' := 636) rfl ?_
  refine wk_aload_n F dL_law_636 rfl 3 rfl (pc' := 637) rfl ?_
  refine wk_iload_n F dL_law_637 rfl 0 rfl (pc' := 638) rfl ?_
  refine wk_iconst (v := nI 1) F dL_law_638 rfl (pc' := 639) rfl ?_
  refine wk_iadd F dL_law_639 (pc' := 640) rfl ?_
  refine wk_top (nI_add i 1) ?_
  refine wk_sld F hX hbl hbA (lv_1 hL hi (by decide)) dL_law_640 (pc' := 641) rfl ?_
  refine wk_fr_p F (c5_over l D cI cP ha hq Z (xs (nI (i + 1)).toNatClampNeg)) (cwV 1 F.hts gL_law_X5_over rfl rfl rfl hdX5_over ⟨Nat.le_of_ble_eq_true rfl, Nat.le_of_ble_eq_true rfl⟩) 0 5 rfl rfl rfl rfl (Nat.le_of_ble_eq_true rfl) dL_law_641 hroom (pc' := 644) rfl ?_
  refine wk_perm List.perm_append_comm ?_
  refine wk_aload_n F dL_law_644 rfl 1 rfl (pc' := 645) rfl ?_
  refine wk_aload_n F dL_law_645 rfl 3 rfl (pc' := 646) rfl ?_
  refine wk_iload_n F dL_law_646 rfl 0 rfl (pc' := 647) rfl ?_
  refine wk_iconst (v := nI 1) F dL_law_647 rfl (pc' := 648) rfl ?_
  refine wk_iadd F dL_law_648 (pc' := 649) rfl ?_
  refine wk_top (nI_add i 1) ?_
  refine wk_sld F hX hbl hbA (lv_1 hL hi (by decide)) dL_law_649 (pc' := 650) rfl ?_
  refine wk_fr_p F (c6_over l D cI cP hm μ (xs (nI (i + 1)).toNatClampNeg) hL6) (cwV 1 F.hts gL_law_X6_over rfl rfl rfl hdX6_over ⟨Nat.le_of_ble_eq_true rfl, Nat.le_of_ble_eq_true rfl⟩) 0 6 rfl rfl rfl rfl (Nat.le_of_ble_eq_true rfl) dL_law_650 hroom (pc' := 653) rfl ?_
  refine wk_perm List.perm_append_comm ?_
  have hh := hk.over_ok Z μ (xs (nI (i + 1)).toNatClampNeg) hZ
  refine wk_icmp_eq (tgt := 766) F dL_law_653 (by decide) (pc' := 656) rfl (fun _ => ?_) (fun q => absurd hh q)
  exact kk Z μ hZ
set_option maxHeartbeats 1000000 in
theorem lawC_count (hk : SimOk Sim) (F : Fx p s m #[Value.ref b] meth c cL_law 4 wsL_law RL ret D (cty cI cP) A) (hX : va_X b L xs s s.heap) (hbl : b < s.heap.size) (hbA : ¬ A b) (hL : L ≤ 2048) (hi : i + 4 ≤ L) (hroom : cells ≤ 600000 ∧ slots ≤ 7302250) (hZ : Sim Z μ) (kk : ∀ (Z : ST) (μ : PS), Sim Z μ → Wk p l e room_1 s m #[Value.ref b] below meth c 4 D A cells slots Q (wTV cI cP ha hq Z ++ wMod cI hm μ) (lvL b (ha 0) (hm 0) i) 766 []) : Wk p l e room_1 s m #[Value.ref b] below meth c 4 D A cells slots Q (wTV cI cP ha hq Z ++ wMod cI hm μ) (lvL b (ha 0) (hm 0) i) 658 [] := by
  obtain ⟨hk5, hH, hL6, hP6, hW6, hT6⟩ := hk.pre_ok Z μ hZ
  refine wk_aload_n F dL_law_658 rfl 2 rfl (pc' := 659) rfl ?_
  refine wk_aload_n F dL_law_659 rfl 3 rfl (pc' := 660) rfl ?_
  refine wk_iload_n F dL_law_660 rfl 0 rfl (pc' := 661) rfl ?_
  refine wk_iconst (v := nI 1) F dL_law_661 rfl (pc' := 662) rfl ?_
  refine wk_iadd F dL_law_662 (pc' := 663) rfl ?_
  refine wk_top (nI_add i 1) ?_
  refine wk_sld F hX hbl hbA (lv_1 hL hi (by decide)) dL_law_663 (pc' := 664) rfl ?_
  refine wk_fr_p F (c5_count l D cI cP ha hq Z (xs (nI (i + 1)).toNatClampNeg)) (cwV 1 F.hts gL_law_X5_count rfl rfl rfl hdX5_count ⟨Nat.le_of_ble_eq_true rfl, Nat.le_of_ble_eq_true rfl⟩) 0 5 rfl rfl rfl rfl (Nat.le_of_ble_eq_true rfl) dL_law_664 hroom (pc' := 667) rfl ?_
  refine wk_perm List.perm_append_comm ?_
  refine wk_aload_n F dL_law_667 rfl 1 rfl (pc' := 668) rfl ?_
  refine wk_aload_n F dL_law_668 rfl 3 rfl (pc' := 669) rfl ?_
  refine wk_iload_n F dL_law_669 rfl 0 rfl (pc' := 670) rfl ?_
  refine wk_iconst (v := nI 1) F dL_law_670 rfl (pc' := 671) rfl ?_
  refine wk_iadd F dL_law_671 (pc' := 672) rfl ?_
  refine wk_top (nI_add i 1) ?_
  refine wk_sld F hX hbl hbA (lv_1 hL hi (by decide)) dL_law_672 (pc' := 673) rfl ?_
  refine wk_fr_p F (c6_count l D cI cP hm μ (xs (nI (i + 1)).toNatClampNeg) hL6) (cwV 1 F.hts gL_law_X6_count rfl rfl rfl hdX6_count ⟨Nat.le_of_ble_eq_true rfl, Nat.le_of_ble_eq_true rfl⟩) 0 6 rfl rfl rfl rfl (Nat.le_of_ble_eq_true rfl) dL_law_673 hroom (pc' := 676) rfl ?_
  refine wk_perm List.perm_append_comm ?_
  have hh := hk.count_ok Z μ (xs (nI (i + 1)).toNatClampNeg) hZ
  refine wk_icmp_eq (tgt := 766) F dL_law_676 (by decide) (pc' := 679) rfl (fun _ => ?_) (fun q => absurd hh q)
  exact kk Z μ hZ
set_option maxHeartbeats 1000000 in
theorem lawC_undo (hk : SimOk Sim) (F : Fx p s m #[Value.ref b] meth c cL_law 4 wsL_law RL ret D (cty cI cP) A) (hX : va_X b L xs s s.heap) (hbl : b < s.heap.size) (hbA : ¬ A b) (hL : L ≤ 2048) (hi : i + 4 ≤ L) (hroom : cells ≤ 600000 ∧ slots ≤ 7302250) (hZ : Sim Z μ) (kk : ∀ (Z : ST) (μ : PS), Sim Z μ → Wk p l e room_1 s m #[Value.ref b] below meth c 4 D A cells slots Q (wTV cI cP ha hq Z ++ wMod cI hm μ) (lvL b (ha 0) (hm 0) i) 766 []) : Wk p l e room_1 s m #[Value.ref b] below meth c 4 D A cells slots Q (wTV cI cP ha hq Z ++ wMod cI hm μ) (lvL b (ha 0) (hm 0) i) 681 [] := by
  obtain ⟨hk5, hH, hL6, hP6, hW6, hT6⟩ := hk.pre_ok Z μ hZ
  refine wk_aload_n F dL_law_681 rfl 2 rfl (pc' := 682) rfl ?_
  refine wk_fr_i F (c5_undo l D cI cP ha hq Z) (cwV 0 F.hts gL_law_X5_undo rfl rfl rfl hdX5_undo ⟨Nat.le_of_ble_eq_true rfl, Nat.le_of_ble_eq_true rfl⟩) 0 5 rfl rfl rfl rfl (Nat.le_of_ble_eq_true rfl) dL_law_682 hroom (pc' := 685) rfl (fun r5 Z1 e5 => ?_)
  refine wk_perm List.perm_append_comm ?_
  refine wk_aload_n F dL_law_685 rfl 1 rfl (pc' := 686) rfl ?_
  refine wk_fr_i F (c6_undo l D cI cP hm μ hH) (cwV 0 F.hts gL_law_X6_undo rfl rfl rfl hdX6_undo ⟨Nat.le_of_ble_eq_true rfl, Nat.le_of_ble_eq_true rfl⟩) 0 6 rfl rfl rfl rfl (Nat.le_of_ble_eq_true rfl) dL_law_686 hroom (pc' := 689) rfl (fun r6 μ1 e6 => ?_)
  refine wk_perm List.perm_append_comm ?_
  have hh := hk.undo_ok Z μ hZ
  rw [e5] at hh
  rw [e6] at hh
  refine wk_icmp_eq (tgt := 766) F dL_law_689 (by decide) (pc' := 692) rfl (fun _ => ?_) (fun q => absurd hh.1 q)
  exact kk Z1 μ1 hh.2
set_option maxHeartbeats 1000000 in
theorem lawC_type (hk : SimOk Sim) (F : Fx p s m #[Value.ref b] meth c cL_law 4 wsL_law RL ret D (cty cI cP) A) (hX : va_X b L xs s s.heap) (hbl : b < s.heap.size) (hbA : ¬ A b) (hL : L ≤ 2048) (hi : i + 4 ≤ L) (hroom : cells ≤ 600000 ∧ slots ≤ 7302250) (hZ : Sim Z μ) (kk : ∀ (Z : ST) (μ : PS), Sim Z μ → Wk p l e room_1 s m #[Value.ref b] below meth c 4 D A cells slots Q (wTV cI cP ha hq Z ++ wMod cI hm μ) (lvL b (ha 0) (hm 0) i) 766 []) : Wk p l e room_1 s m #[Value.ref b] below meth c 4 D A cells slots Q (wTV cI cP ha hq Z ++ wMod cI hm μ) (lvL b (ha 0) (hm 0) i) 694 [] := by
  obtain ⟨hk5, hH, hL6, hP6, hW6, hT6⟩ := hk.pre_ok Z μ hZ
  refine wk_aload_n F dL_law_694 rfl 2 rfl (pc' := 695) rfl ?_
  refine wk_aload_n F dL_law_695 rfl 3 rfl (pc' := 696) rfl ?_
  refine wk_iload_n F dL_law_696 rfl 0 rfl (pc' := 697) rfl ?_
  refine wk_iconst (v := nI 1) F dL_law_697 rfl (pc' := 698) rfl ?_
  refine wk_iadd F dL_law_698 (pc' := 699) rfl ?_
  refine wk_top (nI_add i 1) ?_
  refine wk_sld F hX hbl hbA (lv_1 hL hi (by decide)) dL_law_699 (pc' := 700) rfl ?_
  refine wk_fr_i F (c5_type l D cI cP ha hq Z (xs (nI (i + 1)).toNatClampNeg)) (cwV 1 F.hts gL_law_X5_type rfl rfl rfl hdX5_type ⟨Nat.le_of_ble_eq_true rfl, Nat.le_of_ble_eq_true rfl⟩) 0 5 rfl rfl rfl rfl (Nat.le_of_ble_eq_true rfl) dL_law_700 hroom (pc' := 703) rfl (fun r5 Z1 e5 => ?_)
  refine wk_perm List.perm_append_comm ?_
  refine wk_aload_n F dL_law_703 rfl 1 rfl (pc' := 704) rfl ?_
  refine wk_aload_n F dL_law_704 rfl 3 rfl (pc' := 705) rfl ?_
  refine wk_iload_n F dL_law_705 rfl 0 rfl (pc' := 706) rfl ?_
  refine wk_iconst (v := nI 1) F dL_law_706 rfl (pc' := 707) rfl ?_
  refine wk_iadd F dL_law_707 (pc' := 708) rfl ?_
  refine wk_top (nI_add i 1) ?_
  refine wk_sld F hX hbl hbA (lv_1 hL hi (by decide)) dL_law_708 (pc' := 709) rfl ?_
  refine wk_fr_i F (c6_type l D cI cP hm μ (xs (nI (i + 1)).toNatClampNeg) hT6) (cwV 1 F.hts gL_law_X6_type rfl rfl rfl hdX6_type ⟨Nat.le_of_ble_eq_true rfl, Nat.le_of_ble_eq_true rfl⟩) 0 6 rfl rfl rfl rfl (Nat.le_of_ble_eq_true rfl) dL_law_709 hroom (pc' := 712) rfl (fun r6 μ1 e6 => ?_)
  refine wk_perm List.perm_append_comm ?_
  have hh := hk.type_ok Z μ (xs (nI (i + 1)).toNatClampNeg) hZ
  rw [e5] at hh
  rw [e6] at hh
  refine wk_icmp_eq (tgt := 766) F dL_law_712 (by decide) (pc' := 715) rfl (fun _ => ?_) (fun q => absurd hh.1 q)
  exact kk Z1 μ1 hh.2
set_option maxHeartbeats 1000000 in
theorem lawC_clearText (hk : SimOk Sim) (F : Fx p s m #[Value.ref b] meth c cL_law 4 wsL_law RL ret D (cty cI cP) A) (hX : va_X b L xs s s.heap) (hbl : b < s.heap.size) (hbA : ¬ A b) (hL : L ≤ 2048) (hi : i + 4 ≤ L) (hroom : cells ≤ 600000 ∧ slots ≤ 7302250) (hZ : Sim Z μ) (kk : ∀ (Z : ST) (μ : PS), Sim Z μ → Wk p l e room_1 s m #[Value.ref b] below meth c 4 D A cells slots Q (wTV cI cP ha hq Z ++ wMod cI hm μ) (lvL b (ha 0) (hm 0) i) 766 []) : Wk p l e room_1 s m #[Value.ref b] below meth c 4 D A cells slots Q (wTV cI cP ha hq Z ++ wMod cI hm μ) (lvL b (ha 0) (hm 0) i) 717 [] := by
  obtain ⟨hk5, hH, hL6, hP6, hW6, hT6⟩ := hk.pre_ok Z μ hZ
  refine wk_aload_n F dL_law_717 rfl 2 rfl (pc' := 718) rfl ?_
  refine wk_fr_i F (c5_clearText l D cI cP ha hq Z) (cwV 0 F.hts gL_law_X5_clearText rfl rfl rfl hdX5_clearText ⟨Nat.le_of_ble_eq_true rfl, Nat.le_of_ble_eq_true rfl⟩) 0 5 rfl rfl rfl rfl (Nat.le_of_ble_eq_true rfl) dL_law_718 hroom (pc' := 721) rfl (fun r5 Z1 e5 => ?_)
  refine wk_perm List.perm_append_comm ?_
  refine wk_aload_n F dL_law_721 rfl 1 rfl (pc' := 722) rfl ?_
  refine wk_fr_i F (c6_clearText l D cI cP hm μ) (cwV 0 F.hts gL_law_X6_clearText rfl rfl rfl hdX6_clearText ⟨Nat.le_of_ble_eq_true rfl, Nat.le_of_ble_eq_true rfl⟩) 0 6 rfl rfl rfl rfl (Nat.le_of_ble_eq_true rfl) dL_law_722 hroom (pc' := 725) rfl (fun r6 μ1 e6 => ?_)
  refine wk_perm List.perm_append_comm ?_
  have hh := hk.clearText_ok Z μ hZ
  rw [e5] at hh
  rw [e6] at hh
  refine wk_icmp_eq (tgt := 766) F dL_law_725 (by decide) (pc' := 728) rfl (fun _ => ?_) (fun q => absurd hh.1 q)
  exact kk Z1 μ1 hh.2
set_option maxHeartbeats 1000000 in
theorem lawC_fault (hk : SimOk Sim) (F : Fx p s m #[Value.ref b] meth c cL_law 4 wsL_law RL ret D (cty cI cP) A) (hX : va_X b L xs s s.heap) (hbl : b < s.heap.size) (hbA : ¬ A b) (hL : L ≤ 2048) (hi : i + 4 ≤ L) (hroom : cells ≤ 600000 ∧ slots ≤ 7302250) (hZ : Sim Z μ) (kk : ∀ (Z : ST) (μ : PS), Sim Z μ → Wk p l e room_1 s m #[Value.ref b] below meth c 4 D A cells slots Q (wTV cI cP ha hq Z ++ wMod cI hm μ) (lvL b (ha 0) (hm 0) i) 766 []) : Wk p l e room_1 s m #[Value.ref b] below meth c 4 D A cells slots Q (wTV cI cP ha hq Z ++ wMod cI hm μ) (lvL b (ha 0) (hm 0) i) 730 [] := by
  obtain ⟨hk5, hH, hL6, hP6, hW6, hT6⟩ := hk.pre_ok Z μ hZ
  refine wk_aload_n F dL_law_730 rfl 2 rfl (pc' := 731) rfl ?_
  refine wk_aload_n F dL_law_731 rfl 3 rfl (pc' := 732) rfl ?_
  refine wk_iload_n F dL_law_732 rfl 0 rfl (pc' := 733) rfl ?_
  refine wk_iconst (v := nI 1) F dL_law_733 rfl (pc' := 734) rfl ?_
  refine wk_iadd F dL_law_734 (pc' := 735) rfl ?_
  refine wk_top (nI_add i 1) ?_
  refine wk_sld F hX hbl hbA (lv_1 hL hi (by decide)) dL_law_735 (pc' := 736) rfl ?_
  refine wk_fr_i F (c5_fault l D cI cP ha hq Z (xs (nI (i + 1)).toNatClampNeg)) (cwV 1 F.hts gL_law_X5_fault rfl rfl rfl hdX5_fault ⟨Nat.le_of_ble_eq_true rfl, Nat.le_of_ble_eq_true rfl⟩) 0 5 rfl rfl rfl rfl (Nat.le_of_ble_eq_true rfl) dL_law_736 hroom (pc' := 739) rfl (fun r5 Z1 e5 => ?_)
  refine wk_perm List.perm_append_comm ?_
  refine wk_aload_n F dL_law_739 rfl 1 rfl (pc' := 740) rfl ?_
  refine wk_aload_n F dL_law_740 rfl 3 rfl (pc' := 741) rfl ?_
  refine wk_iload_n F dL_law_741 rfl 0 rfl (pc' := 742) rfl ?_
  refine wk_iconst (v := nI 1) F dL_law_742 rfl (pc' := 743) rfl ?_
  refine wk_iadd F dL_law_743 (pc' := 744) rfl ?_
  refine wk_top (nI_add i 1) ?_
  refine wk_sld F hX hbl hbA (lv_1 hL hi (by decide)) dL_law_744 (pc' := 745) rfl ?_
  refine wk_fr_i F (c6_fault l D cI cP hm μ (xs (nI (i + 1)).toNatClampNeg) (hk.plays_ok Z μ hZ).1) (cwV 1 F.hts gL_law_X6_fault rfl rfl rfl hdX6_fault ⟨Nat.le_of_ble_eq_true rfl, Nat.le_of_ble_eq_true rfl⟩) 0 6 rfl rfl rfl rfl (Nat.le_of_ble_eq_true rfl) dL_law_745 hroom (pc' := 748) rfl (fun r6 μ1 e6 => ?_)
  refine wk_perm List.perm_append_comm ?_
  have hh := hk.fault_ok Z μ (xs (nI (i + 1)).toNatClampNeg) hZ
  rw [e5] at hh
  rw [e6] at hh
  refine wk_icmp_eq (tgt := 766) F dL_law_748 (by decide) (pc' := 751) rfl (fun _ => ?_) (fun q => absurd hh.1 q)
  exact kk Z1 μ1 hh.2
set_option maxHeartbeats 1000000 in
theorem lawC_play (hk : SimOk Sim) (F : Fx p s m #[Value.ref b] meth c cL_law 4 wsL_law RL ret D (cty cI cP) A) (hX : va_X b L xs s s.heap) (hbl : b < s.heap.size) (hbA : ¬ A b) (hL : L ≤ 2048) (hi : i + 4 ≤ L) (hroom : cells ≤ 600000 ∧ slots ≤ 7302250) (hZ : Sim Z μ) (kk : ∀ (Z : ST) (μ : PS), Sim Z μ → Wk p l e room_1 s m #[Value.ref b] below meth c 4 D A cells slots Q (wTV cI cP ha hq Z ++ wMod cI hm μ) (lvL b (ha 0) (hm 0) i) 766 []) : Wk p l e room_1 s m #[Value.ref b] below meth c 4 D A cells slots Q (wTV cI cP ha hq Z ++ wMod cI hm μ) (lvL b (ha 0) (hm 0) i) 753 [] := by
  obtain ⟨hk5, hH, hL6, hP6, hW6, hT6⟩ := hk.pre_ok Z μ hZ
  refine wk_aload_n F dL_law_753 rfl 2 rfl (pc' := 754) rfl ?_
  refine wk_fr_i F (c5_play l D cI cP ha hq Z hk5) (cwV 0 F.hts gL_law_X5_play rfl rfl rfl hdX5_play ⟨Nat.le_of_ble_eq_true rfl, Nat.le_of_ble_eq_true rfl⟩) 0 5 rfl rfl rfl rfl (Nat.le_of_ble_eq_true rfl) dL_law_754 hroom (pc' := 757) rfl (fun r5 Z1 e5 => ?_)
  refine wk_perm List.perm_append_comm ?_
  refine wk_aload_n F dL_law_757 rfl 1 rfl (pc' := 758) rfl ?_
  refine wk_fr_i F (c6_play l D cI cP hm μ (hk.plays_ok Z μ hZ).1 (hk.plays_ok Z μ hZ).2) (cwV 0 F.hts gL_law_X6_play rfl rfl rfl hdX6_play ⟨Nat.le_of_ble_eq_true rfl, Nat.le_of_ble_eq_true rfl⟩) 0 6 rfl rfl rfl rfl (Nat.le_of_ble_eq_true rfl) dL_law_758 hroom (pc' := 761) rfl (fun r6 μ1 e6 => ?_)
  refine wk_perm List.perm_append_comm ?_
  have hh := hk.play_ok Z μ hZ
  rw [e5] at hh
  rw [e6] at hh
  refine wk_icmp_eq (tgt := 766) F dL_law_761 (by decide) (pc' := 764) rfl (fun _ => ?_) (fun q => absurd hh.1 q)
  exact kk Z1 μ1 hh.2
set_option maxHeartbeats 2000000 in
theorem law_loop (hk : SimOk Sim) (F : Fx p s m #[Value.ref b] meth c cL_law 4 wsL_law RL ret D (cty cI cP) A) (hX : va_X b L xs s s.heap) (hbl : b < s.heap.size) (hbA : ¬ A b) (hL : L ≤ 2048) (hroom : cells ≤ 600000 ∧ slots ≤ 7302250) (hend : ∀ (Z : ST) (μ : PS) (i : Nat), Wk p l e room_1 s m #[Value.ref b] below meth c 4 D A cells slots Q (wTV cI cP ha hq Z ++ wMod cI hm μ) (lvL b (ha 0) (hm 0) i) 773 [.int 1]) : ∀ (n i : Nat) (Z : ST) (μ : PS), i ≤ L → L < i + n → Sim Z μ → Wk p l e room_1 s m #[Value.ref b] below meth c 4 D A cells slots Q (wTV cI cP ha hq Z ++ wMod cI hm μ) (lvL b (ha 0) (hm 0) i) 18 [] := by
  intro n
  induction n with
  | zero => intro i Z μ h1 h2; exact absurd h2 (by omega)
  | succ n ih =>
  intro i Z μ h1 h2 hZ
  refine wk_iload_n F dL_law_18 rfl 0 rfl (pc' := 19) rfl ?_
  refine wk_aload_n F dL_law_19 rfl 3 rfl (pc' := 20) rfl ?_
  refine wk_slen F hX hbl hbA dL_law_20 (pc' := 21) rfl ?_
  refine wk_iconst (v := 4) F dL_law_21 rfl (pc' := 22) rfl ?_
  refine wk_isub F dL_law_22 (pc' := 23) rfl ?_
  refine wk_icmp_gt (tgt := 772) F dL_law_23 (by decide) (pc' := 26) rfl (fun _ => ?_) (fun hc => ?_)
  · refine wk_iconst (v := 1) F dL_law_772 rfl (pc' := 773) rfl ?_
    exact hend Z μ i
  have hi : i + 4 ≤ L := lw_le hL h1 hc
  have hnext : ∀ (Z : ST) (μ : PS), Sim Z μ → Wk p l e room_1 s m #[Value.ref b] below meth c 4 D A cells slots Q (wTV cI cP ha hq Z ++ wMod cI hm μ) (lvL b (ha 0) (hm 0) i) 766 [] := by
    intro Z μ hZ
    refine wk_iinc (v := nI (i + 4)) F dL_law_766 (k := 0) rfl (nI_add i 4) (by decide) rfl (pc' := 769) rfl ?_
    refine wk_goto (tgt := 18) F dL_law_769 (by decide) ?_
    exact ih (i + 4) Z μ hi (by omega) hZ
  refine wk_aload_n F dL_law_26 rfl 3 rfl (pc' := 27) rfl ?_
  refine wk_iload_n F dL_law_27 rfl 0 rfl (pc' := 28) rfl ?_
  refine wk_sld F hX hbl hbA (vp_in_nI (by omega) (by omega)) dL_law_28 (pc' := 29) rfl ?_
  refine wk_bipush (v := 31) F dL_law_29 rfl (pc' := 31) rfl ?_
  refine wk_iand F dL_law_31 (pc' := 32) rfl ?_
  generalize xs (nI i).toNatClampNeg &&& 31 = x
  by_cases q0 : x = 0
  · subst q0
    refine wk_tableIn (off := 112) (tgt := 144) F dL_law_32 (by decide) (by decide) (by decide) (by decide) ?_
    exact lawC_volume hk F hX hbl hbA hL hi hroom hZ hnext
  by_cases q1 : x = 1
  · subst q1
    refine wk_tableIn (off := 135) (tgt := 167) F dL_law_32 (by decide) (by decide) (by decide) (by decide) ?_
    exact lawC_share hk F hX hbl hbA hL hi hroom hZ hnext
  by_cases q2 : x = 2
  · subst q2
    refine wk_tableIn (off := 158) (tgt := 190) F dL_law_32 (by decide) (by decide) (by decide) (by decide) ?_
    exact lawC_drop hk F hX hbl hbA hL hi hroom hZ hnext
  by_cases q3 : x = 3
  · subst q3
    refine wk_tableIn (off := 181) (tgt := 213) F dL_law_32 (by decide) (by decide) (by decide) (by decide) ?_
    exact lawC_promise hk F hX hbl hbA hL hi hroom hZ hnext
  by_cases q4 : x = 4
  · subst q4
    refine wk_tableIn (off := 214) (tgt := 246) F dL_law_32 (by decide) (by decide) (by decide) (by decide) ?_
    exact lawC_set hk F hX hbl hbA hL hi hroom hZ hnext
  by_cases q5 : x = 5
  · subst q5
    refine wk_tableIn (off := 247) (tgt := 279) F dL_law_32 (by decide) (by decide) (by decide) (by decide) ?_
    exact lawC_write hk F hX hbl hbA hL hi hroom hZ hnext
  by_cases q6 : x = 6
  · subst q6
    refine wk_tableIn (off := 290) (tgt := 322) F dL_law_32 (by decide) (by decide) (by decide) (by decide) ?_
    exact lawC_trim hk F hX hbl hbA hL hi hroom hZ hnext
  by_cases q7 : x = 7
  · subst q7
    refine wk_tableIn (off := 323) (tgt := 355) F dL_law_32 (by decide) (by decide) (by decide) (by decide) ?_
    exact lawC_sweep hk F hX hbl hbA hL hi hroom hZ hnext
  by_cases q8 : x = 8
  · subst q8
    refine wk_tableIn (off := 346) (tgt := 378) F dL_law_32 (by decide) (by decide) (by decide) (by decide) ?_
    exact lawC_merge hk F hX hbl hbA hL hi hroom hZ hnext
  by_cases q9 : x = 9
  · subst q9
    refine wk_tableIn (off := 359) (tgt := 391) F dL_law_32 (by decide) (by decide) (by decide) (by decide) ?_
    exact lawC_read hk F hX hbl hbA hL hi hroom hZ hnext
  by_cases q10 : x = 10
  · subst q10
    refine wk_tableIn (off := 402) (tgt := 434) F dL_law_32 (by decide) (by decide) (by decide) (by decide) ?_
    exact lawC_volumeOf hk F hX hbl hbA hL hi hroom hZ hnext
  by_cases q11 : x = 11
  · subst q11
    refine wk_tableIn (off := 435) (tgt := 467) F dL_law_32 (by decide) (by decide) (by decide) (by decide) ?_
    exact lawC_pieceOf hk F hX hbl hbA hL hi hroom hZ hnext
  by_cases q12 : x = 12
  · subst q12
    refine wk_tableIn (off := 468) (tgt := 500) F dL_law_32 (by decide) (by decide) (by decide) (by decide) ?_
    exact lawC_warningOf hk F hX hbl hbA hL hi hroom hZ hnext
  by_cases q13 : x = 13
  · subst q13
    refine wk_tableIn (off := 501) (tgt := 533) F dL_law_32 (by decide) (by decide) (by decide) (by decide) ?_
    exact lawC_couldGet hk F hX hbl hbA hL hi hroom hZ hnext
  by_cases q14 : x = 14
  · subst q14
    refine wk_tableIn (off := 524) (tgt := 556) F dL_law_32 (by decide) (by decide) (by decide) (by decide) ?_
    exact lawC_couldFree hk F hX hbl hbA hL hi hroom hZ hnext
  by_cases q15 : x = 15
  · subst q15
    refine wk_tableIn (off := 547) (tgt := 579) F dL_law_32 (by decide) (by decide) (by decide) (by decide) ?_
    exact lawC_family hk F hX hbl hbA hL hi hroom hZ hnext
  by_cases q16 : x = 16
  · subst q16
    refine wk_tableIn (off := 580) (tgt := 612) F dL_law_32 (by decide) (by decide) (by decide) (by decide) ?_
    exact lawC_ranked hk F hX hbl hbA hL hi hroom hZ hnext
  by_cases q17 : x = 17
  · subst q17
    refine wk_tableIn (off := 603) (tgt := 635) F dL_law_32 (by decide) (by decide) (by decide) (by decide) ?_
    exact lawC_over hk F hX hbl hbA hL hi hroom hZ hnext
  by_cases q18 : x = 18
  · subst q18
    refine wk_tableIn (off := 626) (tgt := 658) F dL_law_32 (by decide) (by decide) (by decide) (by decide) ?_
    exact lawC_count hk F hX hbl hbA hL hi hroom hZ hnext
  by_cases q19 : x = 19
  · subst q19
    refine wk_tableIn (off := 649) (tgt := 681) F dL_law_32 (by decide) (by decide) (by decide) (by decide) ?_
    exact lawC_undo hk F hX hbl hbA hL hi hroom hZ hnext
  by_cases q20 : x = 20
  · subst q20
    refine wk_tableIn (off := 662) (tgt := 694) F dL_law_32 (by decide) (by decide) (by decide) (by decide) ?_
    exact lawC_type hk F hX hbl hbA hL hi hroom hZ hnext
  by_cases q21 : x = 21
  · subst q21
    refine wk_tableIn (off := 685) (tgt := 717) F dL_law_32 (by decide) (by decide) (by decide) (by decide) ?_
    exact lawC_clearText hk F hX hbl hbA hL hi hroom hZ hnext
  by_cases q22 : x = 22
  · subst q22
    refine wk_tableIn (off := 698) (tgt := 730) F dL_law_32 (by decide) (by decide) (by decide) (by decide) ?_
    exact lawC_fault hk F hX hbl hbA hL hi hroom hZ hnext
  by_cases q23 : x = 23
  · subst q23
    refine wk_tableIn (off := 721) (tgt := 753) F dL_law_32 (by decide) (by decide) (by decide) (by decide) ?_
    exact lawC_play hk F hX hbl hbA hL hi hroom hZ hnext
  have t0 := ti_ne (k := 0) q0 rfl
  have t1 := ti_ne (k := 1) q1 rfl
  have t2 := ti_ne (k := 2) q2 rfl
  have t3 := ti_ne (k := 3) q3 rfl
  have t4 := ti_ne (k := 4) q4 rfl
  have t5 := ti_ne (k := 5) q5 rfl
  have t6 := ti_ne (k := 6) q6 rfl
  have t7 := ti_ne (k := 7) q7 rfl
  have t8 := ti_ne (k := 8) q8 rfl
  have t9 := ti_ne (k := 9) q9 rfl
  have t10 := ti_ne (k := 10) q10 rfl
  have t11 := ti_ne (k := 11) q11 rfl
  have t12 := ti_ne (k := 12) q12 rfl
  have t13 := ti_ne (k := 13) q13 rfl
  have t14 := ti_ne (k := 14) q14 rfl
  have t15 := ti_ne (k := 15) q15 rfl
  have t16 := ti_ne (k := 16) q16 rfl
  have t17 := ti_ne (k := 17) q17 rfl
  have t18 := ti_ne (k := 18) q18 rfl
  have t19 := ti_ne (k := 19) q19 rfl
  have t20 := ti_ne (k := 20) q20 rfl
  have t21 := ti_ne (k := 21) q21 rfl
  have t22 := ti_ne (k := 22) q22 rfl
  have t23 := ti_ne (k := 23) q23 rfl
  refine wk_tableOut (tgt := 766) F dL_law_32 (by omega) (by decide) ?_
  exact hnext Z μ hZ
end LW
theorem lw_tys {s : State} {b : Nat} (hts : ∀ w ∈ lw_tbl, w.before #[Value.ref b] s = true) : ∃ (cI cP : ClassId), ∀ (k : Nat) (q : ClassId × FieldType), (cty cI cP)[k]? = some q → ArrOfT s q.1 q.2 ∧ va_RA s q.1 q.2 := by
  obtain ⟨cI, kI, comp, f1, f2, f3⟩ := Cond.arrayClass_spec (hts (.arrayClass .int) (List.mem_of_getElem? (i := 98) (by decide +kernel)))
  obtain ⟨comp2, cP, kP, g1, g2, g3, g4, g5⟩ := Cond.arrayOver_spec (hts (.arrayOver (.object "ThinVolumes$Pool")) (List.mem_of_getElem? (i := 162) (by decide +kernel)))
  refine ⟨cI, cP, fun k q hq => ?_⟩
  match k, hq with
  | 0, hq => cases hq; exact ⟨fun n z => ⟨(fun k h => by cases h), kI, f2, comp, f3⟩, f1⟩
  | 1, hq => cases hq; exact ⟨fun n z => ⟨(fun k h => by cases h), kP, g3, comp2, g4⟩, kP, comp2, g3, g4, g1, g5⟩
  | k + 2, hq => simp [cty] at hq
theorem lw_cls {s : State} {b : Nat} (hts : ∀ w ∈ lw_tbl, w.before #[Value.ref b] s = true) : ∃ D : va_G, ∀ (k : Nat) (q : vw_C), vwCl[k]? = some q → u_Kn s q.1 q.2.1 q.2.2 (D.1 k) (D.2 k) := by
  obtain ⟨c0, i0, h0⟩ := u_known (C := RX0) (T := TX0) (N := 2) (n := 2) hts inX0 (hts (.instantiable RX0 2) (by decide +kernel))
  obtain ⟨c1, i1, h1⟩ := u_known (C := RX1) (T := TX1) (N := 14) (n := 14) hts inX1 (hts (.instantiable RX1 14) (by decide +kernel))
  obtain ⟨c2, i2, h2⟩ := u_known (C := RX2) (T := TX2) (N := 3) (n := 3) hts inX2 (hts (.instantiable RX2 3) (by decide +kernel))
  obtain ⟨c3, i3, h3⟩ := u_known (C := RX3) (T := TX3) (N := 5) (n := 5) hts inX3 (hts (.instantiable RX3 5) (by decide +kernel))
  obtain ⟨c4, i4, h4⟩ := u_known (C := RX4) (T := TX4) (N := 4) (n := 4) hts inX4 (hts (.instantiable RX4 4) (by decide +kernel))
  obtain ⟨c5, i5, h5⟩ := u_known (C := RX5) (T := TX5) (N := 4) (n := 4) hts inX5 (hts (.instantiable RX5 4) (by decide +kernel))
  obtain ⟨c6, i6, h6⟩ := u_known (C := RX6) (T := TX6) (N := 12) (n := 12) hts inX6 (hts (.instantiable RX6 12) (by decide +kernel))
  refine ⟨(fun k => match k with | 0 => c0 | 1 => c1 | 2 => c2 | 3 => c3 | 4 => c4 | 5 => c5 | _ => c6, fun k => match k with | 0 => i0 | 1 => i1 | 2 => i2 | 3 => i3 | 4 => i4 | 5 => i5 | _ => i6), fun k q hq => ?_⟩
  match k, hq with
  | 0, hq => cases hq; exact h0
  | 1, hq => cases hq; exact h1
  | 2, hq => cases hq; exact h2
  | 3, hq => cases hq; exact h3
  | 4, hq => cases hq; exact h4
  | 5, hq => cases hq; exact h5
  | 6, hq => cases hq; exact h6
  | k + 7, hq => simp [vwCl] at hq
theorem lw_nw4 {s : State} {b : Nat} (hts : ∀ w ∈ lw_tbl, w.before #[Value.ref b] s = true) : nw4 s := ⟨va_Nw.of rfl (hts _ (show Cond.methodLinkNest RX1 44 yX4_init RX5 ∈ lw_tbl by decide +kernel)), va_Nw.of rfl (hts _ (show Cond.methodLinkNest RX5 25 yX3_init RX5 ∈ lw_tbl by decide +kernel)), va_Nw.of rfl (hts _ (show Cond.methodLinkNest RX5 32 yX2_init RX5 ∈ lw_tbl by decide +kernel)), va_Nw.of rfl (hts _ (show Cond.methodLinkNest RX2 78 yX5_isError RX5 ∈ lw_tbl by decide +kernel)), va_AO.of (hts _ (show Cond.arrayOver (.object "ThinVolumes$Pool") ∈ lw_tbl from List.mem_of_getElem? (i := 162) (by decide +kernel)))⟩
set_option maxHeartbeats 4000000 in
theorem law_start {Sim : ST → PS → Prop} (hk : SimOk Sim) {p : Program} {e : Env} {s : State} {m : MethodId} {below : List Frame} {meth : Method} {c : Code} (l : Launch) {b L : Nat} {xs : Nat → Int32} (hL : L ≤ 2048) (C0 : lw_At p s m meth c b L xs) : W p l e room_1 s m #[Value.ref b] below meth c s.heap [] 0 0 (lw_Z below #[Value.ref b] s) (entryFrame m ([Value.ref b] : List Value).toArray 4) := by
  obtain ⟨hx, hb, hr, hml, hown, hts, hX, hbl, hlocks, hgv⟩ := id C0
  have hbA : ¬ (fun q : Nat => s.heap.size ≤ q) b := Nat.not_le.mpr hbl
  obtain ⟨D, hcl⟩ := lw_cls hts
  obtain ⟨cI, cP, hty⟩ := lw_tys hts
  have F : Fx p s m #[Value.ref b] meth c cL_law 4 wsL_law RL ret D (cty cI cP) (fun q : Nat => s.heap.size ≤ q) := ⟨hx, hb, hml, hown, fun w h => hts w (wsL_law_in w h), hr, hlocks, ⟨hcl, hty⟩, fun _ h => h, lw_nw4 hts⟩
  have hS : va_S (fun q : Nat => s.heap.size ≤ q) s.heap s.heap [] := va_S.rf
  have hP : va_P D vwCl [] s.heap := fun k q h => by simp at h
  have hD : va_D (fun q : Nat => s.heap.size ≤ q) [] := ⟨fun i j p q h => by simp at h, fun k q h => by simp at h⟩
  have hl := lv_entry ([.ref b]) (n := 4) (Nat.le_of_ble_eq_true rfl)
  rw [lg_entry_eq]
  generalize (lg_sl ([.ref b]) ++ List.replicate (4 - (lg_sl ([.ref b])).length) Slot.unset).toArray = ls at hl ⊢
  have hl : lv_has ls 4 [(0, .ref b)] := hl
  suffices K : Wk p l e room_1 s m #[Value.ref b] below meth c 4 D (fun q : Nat => s.heap.size ≤ q) 0 0 (lw_Z below #[Value.ref b] s) [] [(0, .ref b)] 0 [] from K s.heap [] ls hP hD hS hl
  have w_0 := F.at (x := Cond.classLink RL 7 RX5) 0 rfl
  have w_1 := F.at (x := Cond.instantiable RX5 4) 1 rfl
  have w_2 := F.at (x := Cond.initialized RX5) 2 rfl
  have w_3 := F.at (x := Cond.classLink RL 10 RX6) 3 rfl
  have w_4 := F.at (x := Cond.instantiable RX6 12) 4 rfl
  have w_5 := F.at (x := Cond.initialized RX6) 5 rfl
  have w_6 := F.at (x := Cond.methodLink RL 9 yX5_init) 6 rfl
  have w_7 := F.at (x := Cond.instanceMethod yX5_init) 7 rfl
  have w_8 := F.at (x := Cond.methodLink RL 12 yX6_init) 71 rfl
  have w_9 := F.at (x := Cond.instanceMethod yX6_init) 72 rfl
  have k_5 : ∀ w ∈ wsX50, w ∈ wsL_law := fun _ h => (List.mem_append_left _ (List.mem_append_left _ (List.mem_append_left _ (List.mem_append_left _ (List.mem_append_left _ (List.mem_append_left _ (List.mem_append_left _ (List.mem_append_right _ h))))))))
  have k_6 : ∀ w ∈ wsX60, w ∈ wsL_law := fun _ h => (List.mem_append_left _ (List.mem_append_left _ (List.mem_append_left _ (List.mem_append_left _ (List.mem_append_left _ (List.mem_append_left _ (List.mem_append_right _ h)))))))
  refine wk_new (ci := 5) (fs := [.null, .null, .null, .null]) (C := RX5) (T := TX5) (N := 4) F k_5 tyX5_ok w_0 w_1 w_2 rfl (fun j hj => by rcases (show j = 0 ∨ j = 1 ∨ j = 2 ∨ j = 3 by omega) with rfl | rfl | rfl | rfl <;> rfl) (Nat.le_of_ble_eq_true rfl) (Nat.le_of_ble_eq_true rfl) dL_law_0 (pc' := 3) rfl (fun q1 => ?_)
  refine wk_dup F dL_law_3 rfl (pc' := 4) rfl ?_
  refine wk_fr_I2 (wr := []) F (c5_init l D cI cP q1) (cwI 0 F.hts gL_law_X5_init rfl rfl rfl w_2 w_6 w_7 rfl hdX5_init ⟨(Nat.le_of_ble_eq_true rfl), (Nat.le_of_ble_eq_true rfl)⟩) rfl rfl (Nat.le_of_ble_eq_true rfl) dL_law_4 ⟨(Nat.le_of_ble_eq_true rfl), (Nat.le_of_ble_eq_true rfl)⟩ (pc' := 7) rfl (fun zz hz => ?_)
  obtain ⟨ha, hq⟩ := zz
  dsimp only at hz
  subst hz
  refine wk_astore_n (lv' := [(1, .ref (ha 0)), (0, .ref b)]) F dL_law_7 rfl (by decide) rfl (pc' := 8) rfl ?_
  refine wk_new (ci := 6) (fs := [.null, .null, .null, .null, .int 0, .int 0, .null, .int 0, .int 0, .int 0, .int 0, .null]) (C := RX6) (T := TX6) (N := 12) F k_6 tyX6_ok w_3 w_4 w_5 rfl (fun j hj => by rcases (show j = 0 ∨ j = 1 ∨ j = 2 ∨ j = 3 ∨ j = 4 ∨ j = 5 ∨ j = 6 ∨ j = 7 ∨ j = 8 ∨ j = 9 ∨ j = 10 ∨ j = 11 by omega) with rfl | rfl | rfl | rfl | rfl | rfl | rfl | rfl | rfl | rfl | rfl | rfl <;> rfl) (Nat.le_of_ble_eq_true rfl) (Nat.le_of_ble_eq_true rfl) dL_law_8 (pc' := 11) rfl (fun q2 => ?_)
  refine wk_dup F dL_law_11 rfl (pc' := 12) rfl ?_
  refine wk_fr_I2 F (c6_init l D cI cP q2) (cwI 0 F.hts gL_law_X6_init rfl rfl rfl w_5 w_8 w_9 rfl hdX6_init ⟨(Nat.le_of_ble_eq_true rfl), (Nat.le_of_ble_eq_true rfl)⟩) rfl rfl (Nat.le_of_ble_eq_true rfl) dL_law_12 ⟨(Nat.le_of_ble_eq_true rfl), (Nat.le_of_ble_eq_true rfl)⟩ (pc' := 15) rfl (fun zz hz => ?_)
  obtain ⟨hm, μ⟩ := zz
  obtain ⟨e1, e2⟩ := hz
  dsimp only at e1 e2
  subst e1
  subst e2
  refine wk_astore_n (lv' := [(2, .ref (hm 0)), (1, .ref (ha 0)), (0, .ref b)]) F dL_law_15 rfl (by decide) rfl (pc' := 16) rfl ?_
  refine wk_iconst (v := nI 0) F dL_law_16 rfl (pc' := 17) rfl ?_
  refine wk_istore_n (lv' := lvL b (ha 0) (hm 0) 0) F dL_law_17 rfl (by decide) rfl (pc' := 18) rfl ?_
  refine wk_perm List.perm_append_comm ?_
  refine wk_w (w' := wTV cI cP ha hq f5_init ++ wMod cI hm f6_init) (by rw [List.append_nil]) ?_
  exact law_loop hk F hX hbl hbA hL ⟨(Nat.le_of_ble_eq_true rfl), (Nat.le_of_ble_eq_true rfl)⟩ (fun Z μ i => fun H locs ls hP hD hS hl => va_forget (fun q hq => hS.2.2 q hq) (W.widen (k := 600000) (n := 7302250) (Nat.le_of_ble_eq_true rfl) (Nat.le_of_ble_eq_true rfl) (lw_ret hx hb hr hlocks dL_law_773))) (L + 1) 0 f5_init f6_init (Nat.zero_le _) (by omega) hk.init_ok
