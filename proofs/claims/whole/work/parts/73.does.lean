/-! An order is done: class and model side by side. -/
def rsn (a : Int32) : Int32 := if a = -1000001 then 2 else if f5_isError a = 0 then 0 else 3
theorem rsn_eq (Z : ST) (a : Int32) : f2_reasonOf Z a = rsn a := rfl
theorem no_err {a c : Int32} (h : f5_isError a = 0) (hc : f5_isError c = 1) : a ≠ c := fun q => by
  rw [q, hc] at h; exact absurd h ne10
theorem chg_run {τ : PS} (h : τ 6 1 = 1) : f6_changes τ = τ := by
  unfold f6_changes
  rw [h, if_neg ne10]
theorem sub_both (a b x : Int32) : (a + x) - (b + x) = a - b := by
  rw [Int32.sub_eq_add_neg, Int32.sub_eq_add_neg, Int32.neg_add, Int32.sub_eq_add_neg, Int32.add_assoc, Int32.add_comm (-b) (-x), ← Int32.add_assoc x, ← Int32.sub_eq_add_neg x x, Int32.sub_self, Int32.zero_add]
theorem dn_eq (τ : PS) (a : Int32) : f6_isDone τ a = ((if a = -1000002 then (3 : Int32) else if a = -1000003 then (3 : Int32) else (0 : Int32)), wr τ 6 5 (τ 6 5 + (if a = -1000005 then (1 : Int32) else (0 : Int32)))) := by
  unfold f6_isDone
  dsimp only [sq]
  by_cases h1 : a = -1000005
  · have h2 : ¬ a = -1000002 := by rw [h1]; decide
    have h3 : ¬ a = -1000003 := by rw [h1]; decide
    rw [if_pos h1, if_pos h1, if_neg h2, if_neg h2, if_neg h3, if_neg h3]
  · rw [if_neg h1, if_neg h1]
    by_cases h2 : a = -1000002
    · rw [if_pos h2, if_pos h2]
    · rw [if_neg h2, if_neg h2]
      by_cases h3 : a = -1000003
      · rw [if_pos h3, if_pos h3]
      · rw [if_neg h3, if_neg h3]
def fine (U τ1 : PS) (C : Int32 × PS) (r : Int32) (τ2 : PS) : Prop := rsn C.1 = r ∧ (∀ j, j ≠ 0 → j ≠ 6 → τ2 j = τ1 j) ∧ (∀ i, i ≠ 5 → τ2 6 i = τ1 6 i) ∧ (∃ b, b ≤ 1 ∧ τ2 6 5 = τ1 6 5 + nI b) ∧ (r = 0 → RI C.2 (τ2 0) ∧ τ2 6 5 - C.2 13 0 = τ1 6 5 - U 13 0)
theorem fine_2 (U τ1 : PS) : fine U τ1 ((-1000001 : Int32), U) 2 τ1 := ⟨(show rsn (-1000001) = 2 by decide), fun _ _ _ => rfl, fun _ _ => rfl, ⟨0, by decide, (e_add0 _).symm⟩, fun q => absurd q (by decide)⟩
theorem fin_ok {U τ1 : PS} {C M : Int32 × PS} (ho : opOk U τ1 C M) (run : τ1 6 1 = 1) (ha : ans U C) : ∃ r τ2, f6_isDone M.2 M.1 = (r, τ2) ∧ fine U τ1 C r τ2 := by
  rw [dn_eq]
  refine ⟨_, _, rfl, ?_⟩
  have b1 : ∀ (x : Int32), ∃ b, b ≤ 1 ∧ x + (if M.1 = -1000005 then (1 : Int32) else (0 : Int32)) = x + nI b := fun x => by
    split
    · exact ⟨1, by decide, rfl⟩
    · exact ⟨0, by decide, rfl⟩
  have w65 : ∀ x, (wr M.2 6 5 x) 6 5 = x := fun x => pk_us (f := M.2 6) (k := 5) (x := x)
  rcases ho with ⟨e1, e2, e3⟩ | ⟨e1, e2, e3, e4⟩
  · have k : C.1 = -1000002 ∨ C.1 = -1000003 := by
      rcases ha with a | a | ⟨a, _⟩
      · exact Or.inl a
      · exact Or.inr a
      · rw [e1] at a; exact absurd a ne10
    have m1 : M.1 = C.1 := by rw [e3]
    have m2 : M.2 = τ1 := by rw [e3]
    have r3 : (if M.1 = -1000002 then (3 : Int32) else if M.1 = -1000003 then (3 : Int32) else (0 : Int32)) = 3 := by
      rw [m1]
      rcases k with k | k
      · rw [if_pos k]
      · rw [if_pos k, ite_self]
    have rs : rsn C.1 = 3 := by
      unfold rsn
      rw [e1, if_neg ne10]
      rcases k with k | k <;> rw [k, if_neg (by decide)]
    refine ⟨rs.trans r3.symm, fun j _ h6 => (wr_ne h6).trans (by rw [m2]), fun i hi => ?_, ?_, fun q => ?_⟩
    · show upd (M.2 6) 5 _ i = τ1 6 i
      rw [pk_un hi, m2]
    · rw [w65, ← m2]; exact b1 _
    · rw [r3] at q; exact absurd q (by decide)
  · rw [chg_run run] at e4
    have n1 := no_err e1 (c := -1000001) (by decide)
    have n2 := no_err e1 (c := -1000002) (by decide)
    have n3 := no_err e1 (c := -1000003) (by decide)
    have m6 : M.2 6 = τ1 6 := e4 6 (by decide)
    have rs : rsn C.1 = 0 := by
      unfold rsn
      rw [if_neg n1, if_pos e1]
    have a2 : C.2 13 0 = U 13 0 + (if C.1 = -1000005 then (1 : Int32) else (0 : Int32)) := by
      rcases ha with a | a | ⟨_, a⟩
      · exact absurd a n2
      · exact absurd a n3
      · exact a
    have r0 : (if M.1 = -1000002 then (3 : Int32) else if M.1 = -1000003 then (3 : Int32) else (0 : Int32)) = 0 := by
      rw [e2, if_neg n2, if_neg n3]
    refine ⟨rs.trans r0.symm, fun j h0 h6 => (wr_ne h6).trans (e4 j h0), fun i hi => ?_, ?_, fun _ => ⟨?_, ?_⟩⟩
    · show upd (M.2 6) 5 _ i = τ1 6 i
      rw [pk_un hi, m6]
    · rw [w65, m6]; exact b1 _
    · rw [wr_ne (by decide)]; exact e3
    · rw [w65, m6, e2, a2]; exact sub_both _ _ _
section DO
variable {τ τ1 U : PS}
theorem does_no {c : Int32} (lt : τ 4 (τ 6 3).toNatClampNeg = c) (hf : f6_isForm τ c (nI (due c)) = (0, τ1)) : f6_does τ = (1, τ1) := by
  unfold f6_does
  dsimp only [sq2]
  rw [lt]
  have z0 : (0 : Int32) = 0 := rfl
  by_cases h1 : c = 119
  · subst h1
    rw [show nI (due 119) = 3 by decide] at hf
    rw [if_pos rfl, hf]; dsimp only; rw [if_pos z0]
  · rw [if_neg h1]
    by_cases h2 : c = 116
    · subst h2
      rw [show nI (due 116) = 2 by decide] at hf
      rw [if_pos rfl, hf]; dsimp only; rw [if_pos z0]
    · rw [if_neg h2]
      by_cases h3 : c = 115
      · subst h3
        rw [show nI (due 115) = 1 by decide] at hf
        rw [if_pos rfl, hf]; dsimp only; rw [if_pos z0]
      · rw [if_neg h3]
        by_cases h4 : c = 99
        · subst h4
          rw [show nI (due 99) = 1 by decide] at hf
          rw [if_pos rfl, hf]; dsimp only; rw [if_pos z0]
        · rw [if_neg h4]
          by_cases h5 : c = 100
          · subst h5
            rw [show nI (due 100) = 1 by decide] at hf
            rw [if_pos rfl, hf]; dsimp only; rw [if_pos z0]
          · rw [if_neg h5]
            have d0 : due c = 0 := by
              unfold due
              rw [if_neg h1, if_neg h2, if_neg h3, if_neg h4, if_neg h5]
            rw [d0, nI_0] at hf
            rw [hf]; dsimp only; rw [if_pos z0]
theorem does_w (lt : τ 4 (τ 6 3).toNatClampNeg = 119) (hf : f6_isForm τ 119 (nI (due 119)) = (1, τ1)) (hR : RI U (τ1 0)) (run : τ1 6 1 = 1) {m : Nat} (hm : m ≤ 99) (h2 : τ1 5 2 = nI m) : ∃ r τ2, f6_does τ = (r, τ2) ∧ fine U τ1 (f1_writePlace U (τ1 5 0) (τ1 5 1) (τ1 5 2)) r τ2 := by
  rw [show nI (due 119) = 3 by decide] at hf
  unfold f6_does
  dsimp only [sq2]
  rw [lt, if_pos rfl, hf]
  dsimp only
  rw [if_neg ne10, e_isVol hR.L, e_isPlace hR, h2]
  by_cases z : f1_hasPlace U (τ1 5 0) (τ1 5 1) = 0
  · have e : f1_writePlace U (τ1 5 0) (τ1 5 1) (nI m) = (-1000001, U) := by rw [write_eq, if_pos z]
    rw [e, if_pos z, ite_self]
    exact ⟨2, τ1, rfl, fine_2 U τ1⟩
  · have y : ¬ f1_lives U (τ1 5 0) = 0 := fun y => z (by unfold f1_hasPlace; rw [if_pos y])
    rw [if_neg z, if_neg y]
    obtain ⟨r, τ2, q1, q2⟩ := fin_ok (e_write hR _ _ _) run (a_write hR z hm)
    rw [q1]
    exact ⟨r, τ2, rfl, q2⟩
theorem does_t (lt : τ 4 (τ 6 3).toNatClampNeg = 116) (hf : f6_isForm τ 116 (nI (due 116)) = (1, τ1)) (hR : RI U (τ1 0)) (run : τ1 6 1 = 1) : ∃ r τ2, f6_does τ = (r, τ2) ∧ fine U τ1 (f1_trimPlace U (τ1 5 0) (τ1 5 1)) r τ2 := by
  rw [show nI (due 116) = 2 by decide] at hf
  unfold f6_does
  dsimp only [sq2]
  rw [lt, if_neg (by decide), if_pos rfl, hf]
  dsimp only
  rw [if_neg ne10, e_isVol hR.L, e_isPlace hR]
  by_cases z : f1_hasPlace U (τ1 5 0) (τ1 5 1) = 0
  · have e : f1_trimPlace U (τ1 5 0) (τ1 5 1) = (-1000001, U) := by unfold f1_trimPlace; rw [if_pos z]
    rw [e, if_pos z, ite_self]
    exact ⟨2, τ1, rfl, fine_2 U τ1⟩
  · have y : ¬ f1_lives U (τ1 5 0) = 0 := fun y => z (by unfold f1_hasPlace; rw [if_pos y])
    rw [if_neg z, if_neg y]
    obtain ⟨r, τ2, q1, q2⟩ := fin_ok (e_trim hR _ _) run (a_trim z)
    rw [q1]
    exact ⟨r, τ2, rfl, q2⟩
theorem does_s (lt : τ 4 (τ 6 3).toNatClampNeg = 115) (hf : f6_isForm τ 115 (nI (due 115)) = (1, τ1)) (hR : RI U (τ1 0)) (run : τ1 6 1 = 1) : ∃ r τ2, f6_does τ = (r, τ2) ∧ fine U τ1 (f1_sweepVolume U (τ1 5 0)) r τ2 := by
  rw [show nI (due 115) = 1 by decide] at hf
  unfold f6_does
  dsimp only [sq2]
  rw [lt, if_neg (by decide), if_neg (by decide), if_pos rfl, hf]
  dsimp only
  rw [if_neg ne10, e_isVol hR.L]
  by_cases z : f1_lives U (τ1 5 0) = 0
  · have e : f1_sweepVolume U (τ1 5 0) = (-1000001, U) := by unfold f1_sweepVolume; rw [if_pos z]
    rw [e, if_pos z]
    exact ⟨2, τ1, rfl, fine_2 U τ1⟩
  · rw [if_neg z]
    obtain ⟨r, τ2, q1, q2⟩ := fin_ok (e_sweep hR _) run (a_sweep hR z)
    rw [q1]
    exact ⟨r, τ2, rfl, q2⟩
theorem does_c (lt : τ 4 (τ 6 3).toNatClampNeg = 99) (hf : f6_isForm τ 99 (nI (due 99)) = (1, τ1)) (hR : RI U (τ1 0)) (run : τ1 6 1 = 1) : ∃ r τ2, f6_does τ = (r, τ2) ∧ fine U τ1 (f1_cloneVolume U (τ1 5 0)) r τ2 := by
  rw [show nI (due 99) = 1 by decide] at hf
  unfold f6_does
  dsimp only [sq2]
  rw [lt, if_neg (by decide), if_neg (by decide), if_neg (by decide), if_pos rfl, hf]
  dsimp only
  rw [if_neg ne10, e_isVol hR.L]
  by_cases z : f1_lives U (τ1 5 0) = 0
  · have e : f1_cloneVolume U (τ1 5 0) = (-1000001, U) := by unfold f1_cloneVolume; rw [if_pos z]
    rw [e, if_pos z]
    exact ⟨2, τ1, rfl, fine_2 U τ1⟩
  · rw [if_neg z]
    obtain ⟨r, τ2, q1, q2⟩ := fin_ok (e_share hR _) run (a_clone hR z)
    rw [q1]
    exact ⟨r, τ2, rfl, q2⟩
theorem does_d (lt : τ 4 (τ 6 3).toNatClampNeg = 100) (hf : f6_isForm τ 100 (nI (due 100)) = (1, τ1)) (hR : RI U (τ1 0)) (run : τ1 6 1 = 1) : ∃ r τ2, f6_does τ = (r, τ2) ∧ fine U τ1 (f1_dropVolume U (τ1 5 0)) r τ2 := by
  rw [show nI (due 100) = 1 by decide] at hf
  unfold f6_does
  dsimp only [sq2]
  rw [lt, if_neg (by decide), if_neg (by decide), if_neg (by decide), if_neg (by decide), if_pos rfl, hf]
  dsimp only
  rw [if_neg ne10, e_isVol hR.L]
  by_cases z : f1_lives U (τ1 5 0) = 0
  · have e : f1_dropVolume U (τ1 5 0) = (-1000001, U) := by unfold f1_dropVolume; rw [if_pos z]
    rw [e, if_pos z]
    exact ⟨2, τ1, rfl, fine_2 U τ1⟩
  · rw [if_neg z]
    obtain ⟨r, τ2, q1, q2⟩ := fin_ok (e_drop hR _) run (a_drop hR z)
    rw [q1]
    exact ⟨r, τ2, rfl, q2⟩
theorem does_m (lt : τ 4 (τ 6 3).toNatClampNeg = 109) (hf : f6_isForm τ 109 (nI (due 109)) = (1, τ1)) (hR : RI U (τ1 0)) (run : τ1 6 1 = 1) : ∃ r τ2, f6_does τ = (r, τ2) ∧ fine U τ1 (f1_mergePieces U) r τ2 := by
  rw [show nI (due 109) = 0 by decide] at hf
  unfold f6_does
  dsimp only [sq2]
  rw [lt, if_neg (by decide), if_neg (by decide), if_neg (by decide), if_neg (by decide), if_neg (by decide), hf]
  dsimp only
  rw [if_neg ne10]
  obtain ⟨r, τ2, q1, q2⟩ := fin_ok (e_merge hR) run (a_merge hR)
  rw [q1]
  exact ⟨r, τ2, rfl, q2⟩
end DO
theorem let_of {c : Int32} (h : 0 < due c) : c = 119 ∨ c = 116 ∨ c = 115 ∨ c = 99 ∨ c = 100 := by
  by_cases h1 : c = 119
  · exact Or.inl h1
  · by_cases h2 : c = 116
    · exact Or.inr (Or.inl h2)
    · by_cases h3 : c = 115
      · exact Or.inr (Or.inr (Or.inl h3))
      · by_cases h4 : c = 99
        · exact Or.inr (Or.inr (Or.inr (Or.inl h4)))
        · by_cases h5 : c = 100
          · exact Or.inr (Or.inr (Or.inr (Or.inr h5)))
          · unfold due at h
            rw [if_neg h1, if_neg h2, if_neg h3, if_neg h4, if_neg h5] at h
            exact absurd h (Nat.lt_irrefl 0)
def keepM (τ τ2 : PS) : Prop := (∀ j, j ≠ 0 → j ≠ 5 → j ≠ 6 → τ2 j = τ j) ∧ ∀ i, i ≠ 3 → i ≠ 5 → τ2 6 i = τ 6 i
theorem e_does {U T τ : PS} {t i : Nat} {sg : Nat → Int32} (hR : RI U (τ 0)) (hT : txR T t sg) (hM : mxR τ t sg) (hi : i < t) (e : τ 6 3 = nI i) (run : τ 6 1 = 1) : ∃ rd T2 r τ2, f3_readOrder T (nI i) = (rd, T2) ∧ T2 0 = T 0 ∧ T2 2 0 = T 2 0 ∧ f6_does τ = (r, τ2) ∧ keepM τ τ2 ∧ (∃ b, b ≤ 1 ∧ τ2 6 5 = τ 6 5 + nI b) ∧ ((rd = 0 ∧ r = 1) ∨ (rd = 1 ∧ ∃ C : Int32 × PS, (∀ Z : ST, Z 6 = U → Z 7 = T2 → f2_obey Z = (C.1, mkZ (Z 0) (Z 1) (Z 2) (Z 3) (Z 4) (Z 5) C.2 (Z 7) (Z 8) (Z 9))) ∧ rsn C.1 = r ∧ (r = 0 → RI C.2 (τ2 0) ∧ τ2 6 5 - C.2 13 0 = τ 6 5 - U 13 0 ∧ ∃ j, i < j ∧ j ≤ t ∧ τ2 6 3 = nI j ∧ T2 2 2 = nI j))) := by
  have t60 := hT.2.1
  obtain ⟨rd, T2, f1, f2, f3, f4⟩ := rd_order hT (i := i) (by omega)
  obtain ⟨r1, τ1, g1, g2, g3⟩ := fm_order hM (i := i) (by omega) e
  have lt : τ 4 (τ 6 3).toNatClampNeg = sg i := by rw [e, nI_clamp (by omega), hM.2.2 i, if_pos hi]
  have c65 : τ1 6 5 = τ 6 5 := g2.2 5 (by decide)
  rcases f4 with ⟨a, b⟩ | ⟨l, en, a, b, c, d, w⟩
  · rcases g3 with ⟨_, y⟩ | ⟨l, en, x, _⟩
    · subst y
      exact ⟨rd, T2, 1, τ1, f1, f2, f3, does_no lt g1, ⟨fun j _ h5 h6 => g2.1 j h5 h6, fun k h3 _ => g2.2 k h3⟩, ⟨0, by decide, by rw [c65]; exact (e_add0 _).symm⟩, Or.inl ⟨b, rfl⟩⟩
    · rw [a] at x; cases x
  · rcases g3 with ⟨x, _⟩ | ⟨l2, e2, x, y, z, v⟩
    · rw [a] at x; cases x
    · rw [a] at x; cases x
      subst y
      obtain ⟨o1, _, o3, o4⟩ := od_end a
      have le := od_le hT a
      have r1 : RI U (τ1 0) := by rw [g2.1 0 (by decide) (by decide)]; exact hR
      have run1 : τ1 6 1 = 1 := (g2.2 1 (by decide)).trans run
      have nn : ∀ q, q < due (sg i) → T2 1 q = τ1 5 q := fun q hq => (w q hq).trans (v q hq).symm
      suffices K : ∃ C : Int32 × PS, (∀ Z : ST, Z 6 = U → Z 7 = T2 → f2_obey Z = (C.1, mkZ (Z 0) (Z 1) (Z 2) (Z 3) (Z 4) (Z 5) C.2 (Z 7) (Z 8) (Z 9))) ∧ ∃ r τ2, f6_does τ = (r, τ2) ∧ fine U τ1 C r τ2 by
        obtain ⟨C, k1, r, τ2, k2, k3, k4, k5, ⟨bb, k7, k8⟩, k6⟩ := K
        refine ⟨rd, T2, r, τ2, f1, f2, f3, k2, ⟨fun j h0 h5 h6 => (k4 j h0 h6).trans (g2.1 j h5 h6), fun k h3 h5 => (k5 k h5).trans (g2.2 k h3)⟩, ⟨bb, k7, by rw [k8, c65]⟩, Or.inr ⟨b, C, k1, k3, fun q => ?_⟩⟩
        obtain ⟨q1, q2⟩ := k6 q
        exact ⟨q1, q2.trans (by rw [c65]), en, o1, le, (k5 3 (by decide)).trans z, c⟩
      rcases o3 with hc | hc
      · rw [hc] at g1 lt d
        refine ⟨f1_mergePieces U, fun Z z6 z7 => ?_, does_m lt g1 r1 run1⟩
        unfold f2_obey
        dsimp only [sq2]
        rw [z6, z7, d, if_neg (by decide), if_neg (by decide), if_neg (by decide), if_neg (by decide), if_neg (by decide)]
      · rcases let_of hc with hc | hc | hc | hc | hc
        · have n0 := nn 0 (by rw [hc]; decide)
          have n1 := nn 1 (by rw [hc]; decide)
          have n2 := nn 2 (by rw [hc]; decide)
          obtain ⟨m, m1, m2⟩ := o4 2
          have v2 := v 2 (by rw [hc]; decide)
          rw [hc] at g1 lt d
          refine ⟨f1_writePlace U (τ1 5 0) (τ1 5 1) (τ1 5 2), fun Z z6 z7 => ?_, does_w lt g1 r1 run1 m1 (v2.trans m2)⟩
          unfold f2_obey
          dsimp only [sq2]
          rw [z6, z7, d, if_neg (by decide), if_neg (by decide), if_neg (by decide), if_neg (by decide), if_pos rfl, n0, n1, n2]
        · have n0 := nn 0 (by rw [hc]; decide)
          have n1 := nn 1 (by rw [hc]; decide)
          rw [hc] at g1 lt d
          refine ⟨f1_trimPlace U (τ1 5 0) (τ1 5 1), fun Z z6 z7 => ?_, does_t lt g1 r1 run1⟩
          unfold f2_obey
          dsimp only [sq2]
          rw [z6, z7, d, if_neg (by decide), if_neg (by decide), if_neg (by decide), if_pos rfl, n0, n1]
        · have n0 := nn 0 (by rw [hc]; decide)
          rw [hc] at g1 lt d
          refine ⟨f1_sweepVolume U (τ1 5 0), fun Z z6 z7 => ?_, does_s lt g1 r1 run1⟩
          unfold f2_obey
          dsimp only [sq2]
          rw [z6, z7, d, if_neg (by decide), if_neg (by decide), if_pos rfl, n0]
        · have n0 := nn 0 (by rw [hc]; decide)
          rw [hc] at g1 lt d
          refine ⟨f1_cloneVolume U (τ1 5 0), fun Z z6 z7 => ?_, does_c lt g1 r1 run1⟩
          unfold f2_obey
          dsimp only [sq2]
          rw [z6, z7, d, if_pos rfl, n0]
        · have n0 := nn 0 (by rw [hc]; decide)
          rw [hc] at g1 lt d
          refine ⟨f1_dropVolume U (τ1 5 0), fun Z z6 z7 => ?_, does_d lt g1 r1 run1⟩
          unfold f2_obey
          dsimp only [sq2]
          rw [z6, z7, d, if_neg (by decide), if_pos rfl, n0]
