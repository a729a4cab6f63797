/-! Writing: a volume that gets a piece. -/
theorem loosen_sh {u : PS} (h : iI u) {v k p : Nat} (hv : v < 8) (hk : k < 40) (hp : p < 30) (e : u 6 (40 * v + k) = nI p) (ho : 1 < own u (nI p)) : f1_loosen u (nI v) (nI k) = (0, wr (wr u 6 (40 * v + k) (-1)) 8 p (nI (own u (nI p) - 1))) := by
  have hle := own_le u (nI p)
  have e1 : u 8 p - 1 = nI (own u (nI p) - 1) := by rw [h.2.2.2.2.2.2.1 p hp]; exact pk_sub (b := 1) (by omega)
  unfold f1_loosen
  rw [e_pieceAt h.2.1 hv hk, e, e_isP hp, if_neg ne10, e_ix40 hv hk, nI_clamp (by omega)]
  dsimp only [sq]
  have c1 : (wr u 6 (40 * v + k) (-1)) 8 p = u 8 p := rfl
  rw [c1, e1]
  have c2 : (wr (wr u 6 (40 * v + k) (-1)) 8 p (nI (own u (nI p) - 1))) 8 p = nI (own u (nI p) - 1) := pk_us (f := u 8)
  rw [c2, if_neg (nI_nle (by omega) (by omega))]
theorem e_place {u : PS} (h : iI u) {v k q : Nat} (hv : v < 8) (hk : k < 40) (hq : q < 30) (hs : nI k < u 0 v) (hq0 : u 8 q = 0) (hold : u 6 (40 * v + k) = -1 ∨ ∃ p, p < 30 ∧ u 6 (40 * v + k) = nI p ∧ 1 < own u (nI p)) :
    ∃ G : PS → PS, (∀ w j a x, j ≠ 6 → j ≠ 8 → G (wr w j a x) = wr (G w) j a x) ∧ (∀ w j, j ≠ 6 → j ≠ 8 → (G w) j = w j) ∧ (∃ r u2, f1_loosen u (nI v) (nI k) = (r, u2) ∧ wr (wr u2 6 (40 * v + k) (nI q)) 8 q 1 = G u) ∧ ∀ w s, RI w s → w 6 = u 6 → w 8 = u 8 → w 0 = u 0 → prs w + 1 ≤ fre w → RI (G w) (upd s (74 + 47 * v + k) (nI q)) ∧ fre (G w) + 1 = fre w := by
  have ow0 : ∀ w, w 6 = u 6 → own w (nI q) = 0 := fun w e => by
    have e2 : own w (nI q) = own u (nI q) := by unfold own; rw [e]
    have o := h.2.2.2.2.2.2.1 q hq
    rw [hq0] at o
    have ol := own_le u (nI q)
    rw [e2]
    exact (e_inj (a := 0) (by omega) (by omega) o).symm
  rcases hold with e | ⟨p, hp, e, ho⟩
  · refine ⟨fun w => wr (wr w 6 (40 * v + k) (nI q)) 8 q 1, fun w j a x j6 j8 => ?_, fun w j j6 j8 => ?_, ⟨0, u, e_loose0 h.2.1 hv hk e, rfl⟩, fun w s hw e6 e8 e0 hf => ?_⟩
    · show wr (wr (wr w j a x) 6 _ _) 8 q 1 = wr (wr (wr w 6 _ _) 8 q 1) j a x
      rw [wr_comm2 w (i := j) (j := 6) j6, wr_comm2 _ (i := j) (j := 8) j8]
    · show wr (wr w 6 _ _) 8 q 1 j = w j
      rw [wr_ne j8, wr_ne j6]
    · have o0 := ow0 w e6
      have R := RI_on hw hv hk hq (by rw [e6]; exact e) (by rw [e0]; exact hs) (by rw [if_pos o0]; omega)
      rw [o0] at R
      show RI (wr (wr w 6 (40 * v + k) (nI q)) 8 q 1) _ ∧ fre (wr (wr w 6 (40 * v + k) (nI q)) 8 q 1) + 1 = fre w
      refine ⟨R, ?_⟩
      have fw := fre_wr (u := wr w 6 (40 * v + k) (nI q)) (x := 1) hq
      have f3 : (wr w 6 (40 * v + k) (nI q)) 8 q = 0 := by show w 8 q = 0; rw [e8]; exact hq0
      have f1 : fre (wr w 6 (40 * v + k) (nI q)) = fre w := rfl
      rw [if_pos f3, if_neg ne10, f1] at fw
      generalize fre (wr (wr w 6 (40 * v + k) (nI q)) 8 q 1) = A at fw ⊢
      generalize fre w = B at fw ⊢
      omega
  · have hpq : q ≠ p := fun z => by
      have := ow0 u rfl
      rw [z] at this; omega
    refine ⟨fun w => wr (wr (wr (wr w 6 (40 * v + k) (-1)) 8 p (nI (own u (nI p) - 1))) 6 (40 * v + k) (nI q)) 8 q 1, fun w j a x j6 j8 => ?_, fun w j j6 j8 => ?_, ⟨0, _, loosen_sh h hv hk hp e ho, rfl⟩, fun w s hw e6 e8 e0 hf => ?_⟩
    · show wr (wr (wr (wr (wr w j a x) 6 _ _) 8 p _) 6 _ _) 8 q 1 = wr (wr (wr (wr (wr w 6 _ _) 8 p _) 6 _ _) 8 q 1) j a x
      rw [wr_comm2 w (i := j) (j := 6) j6, wr_comm2 _ (i := j) (j := 8) j8, wr_comm2 _ (i := j) (j := 6) j6, wr_comm2 _ (i := j) (j := 8) j8]
    · show wr (wr (wr (wr w 6 _ _) 8 p _) 6 _ _) 8 q 1 j = w j
      rw [wr_ne j8, wr_ne j6, wr_ne j8, wr_ne j6]
    · have ew : own w (nI p) = own u (nI p) := by unfold own; rw [e6]
      obtain ⟨R, e1, _⟩ := RI_off hw hv hk hp (by rw [e6]; exact e)
      rw [e1, ew] at R
      have hle := own_le u (nI p)
      have f0 : fre (wr (wr w 6 (40 * v + k) (-1)) 8 p (nI (own u (nI p) - 1))) = fre w := by
        have fw := fre_wr (u := wr w 6 (40 * v + k) (-1)) (x := nI (own u (nI p) - 1)) hp
        have f3 : ¬ (wr w 6 (40 * v + k) (-1)) 8 p = 0 := by
          show ¬ w 8 p = 0
          rw [hw.iO p hp, ew]; exact nI_ne0 (by omega) (by omega)
        rw [if_neg f3, if_neg (nI_ne0 (by omega) (by omega))] at fw
        have f5 : fre (wr w 6 (40 * v + k) (-1)) = fre w := rfl
        rw [f5] at fw
        generalize fre (wr (wr w 6 (40 * v + k) (-1)) 8 p (nI (own u (nI p) - 1))) = A at fw ⊢
        generalize fre w = B at fw ⊢
        omega
      have own0 : own (wr (wr w 6 (40 * v + k) (-1)) 8 p (nI (own u (nI p) - 1))) (nI q) = 0 := by
        have oq := own_wr (u := w) (y := -1) (x := nI q) (show 40 * v + k < 320 by omega)
        rw [e6, e, if_neg (show ¬ ((-1 : Int32) = nI q) from fun z => e_neg (by omega) z.symm), if_neg (fun y => hpq (e_inj (by omega) (by omega) y).symm), ow0 w e6] at oq
        have o6 : own (wr (wr w 6 (40 * v + k) (-1)) 8 p (nI (own u (nI p) - 1))) (nI q) = own (wr w 6 (40 * v + k) (-1)) (nI q) := rfl
        rw [o6]
        generalize own (wr w 6 (40 * v + k) (-1)) (nI q) = A at oq ⊢
        omega
      have pr : prs (wr (wr w 6 (40 * v + k) (-1)) 8 p (nI (own u (nI p) - 1))) = prs w := rfl
      have R2 := RI_on R hv hk hq (pk_us (f := w 6)) (by show nI k < w 0 v; rw [e0]; exact hs) (by rw [if_pos own0, pr, f0]; omega)
      rw [own0, upd_upd] at R2
      show RI (wr (wr (wr (wr w 6 (40 * v + k) (-1)) 8 p (nI (own u (nI p) - 1))) 6 (40 * v + k) (nI q)) 8 q 1) _ ∧ fre (wr (wr (wr (wr w 6 (40 * v + k) (-1)) 8 p (nI (own u (nI p) - 1))) 6 (40 * v + k) (nI q)) 8 q 1) + 1 = fre w
      refine ⟨R2, ?_⟩
      have fw := fre_wr (u := wr (wr (wr w 6 (40 * v + k) (-1)) 8 p (nI (own u (nI p) - 1))) 6 (40 * v + k) (nI q)) (x := 1) hq
      have f3 : (wr (wr (wr w 6 (40 * v + k) (-1)) 8 p (nI (own u (nI p) - 1))) 6 (40 * v + k) (nI q)) 8 q = 0 := by
        show upd (w 8) p (nI (own u (nI p) - 1)) q = 0
        rw [pk_un hpq, e8]; exact hq0
      have f1 : fre (wr (wr (wr w 6 (40 * v + k) (-1)) 8 p (nI (own u (nI p) - 1))) 6 (40 * v + k) (nI q)) = fre w := f0
      rw [if_pos f3, if_neg ne10, f1] at fw
      generalize fre (wr (wr (wr (wr w 6 (40 * v + k) (-1)) 8 p (nI (own u (nI p) - 1))) 6 (40 * v + k) (nI q)) 8 q 1) = A at fw ⊢
      generalize fre w = B at fw ⊢
      omega
def wGive (σ : PS) (p1 p2 p3 pr : Int32) : Int32 × PS := (sq2 (f1_loosen σ p1 p2) (fun (r27 : Int32) (u26 : PS) => (sq (wr u26 6 ((p1 * (40 : Int32)) + p2).toNatClampNeg (f1_lowestFreePiece σ)) (fun (u29 : PS) => (sq (wr u29 8 (f1_lowestFreePiece σ).toNatClampNeg (1 : Int32)) (fun (u31 : PS) => (sq (wr u31 7 (f1_lowestFreePiece σ).toNatClampNeg p3) (fun (u33 : PS) => (sq (f1_bookPiece u33 p1 pr (f1_level σ)) (fun (u35 : PS) => (f1_lowestFreePiece σ, u35)))))))))))
def wBody (σ : PS) (p1 p2 p3 : Int32) : Int32 × PS := (if (σ 2 p1.toNatClampNeg) ≤ 0 then (if (f1_isPiece σ (f1_lowestFreePiece σ)) = 0 then ((-1000005 : Int32), f1_refuse σ p1) else (if (f1_wouldGetUnpromised σ p1 (σ 1 p1.toNatClampNeg) (f1_available σ)) = 0 then ((-1000005 : Int32), f1_refuse σ p1) else wGive σ p1 p2 p3 0)) else (if (f1_isPiece σ (f1_lowestFreePiece σ)) = 0 then ((-1000005 : Int32), f1_refuse σ p1) else wGive σ p1 p2 p3 1))
def mGive (u3 u6 : PS) (p1 p2 p3 r7 : Int32) : Int32 × PS := (sq (f6_puts u6 p1 ((7 : Int32) + p2) (f6_lowestFree u6)) (fun (u10 : PS) => (sq (wr u10 0 ((7 : Int32) + (f6_lowestFree u6)).toNatClampNeg p3) (fun (u12 : PS) => (sq (f6_puts u12 p1 (6 : Int32) ((f6_of u12 p1 (6 : Int32)) + (1 : Int32))) (fun (u14 : PS) => (sq (wr u14 0 4 ((u14 0 4) + (1 : Int32))) (fun (u16 : PS) => (if r7 = (2 : Int32) then (if (f6_of u16 p1 (3 : Int32)) = 0 then (sq (f6_warns u16 (2 : Int32) p1) (fun (u24 : PS) => (sq (f6_ends u24 (f6_levelBy u3 (f6_available u3))) (fun (u26 : PS) => (f6_lowestFree u6, u26))))) else (sq (f6_ends u16 (f6_levelBy u3 (f6_available u3))) (fun (u22 : PS) => (f6_lowestFree u6, u22)))) else (sq (f6_ends u16 (f6_levelBy u3 (f6_available u3))) (fun (u19 : PS) => (f6_lowestFree u6, u19))))))))))))
def mBody (u3 : PS) (p1 p2 p3 : Int32) : Int32 × PS := (sq2 (f6_asks u3 p1 (f6_available u3)) (fun (r7 : Int32) (u6 : PS) => (if r7 = 0 then (sq (f6_puts u6 p1 (5 : Int32) ((f6_of u6 p1 (5 : Int32)) + (1 : Int32))) (fun (u28 : PS) => (sq (wr u28 0 3 ((u28 0 3) + (1 : Int32))) (fun (u30 : PS) => (sq (f6_warns u30 (1 : Int32) p1) (fun (u32 : PS) => ((-1000005 : Int32), u32))))))) else mGive u3 u6 p1 p2 p3 r7)))
theorem write_eq (σ : PS) (p1 p2 p3 : Int32) : f1_writePlace σ p1 p2 p3 = (if (f1_hasPlace σ p1 p2) = 0 then ((-1000001 : Int32), σ) else (if p3 < 0 then ((-1000001 : Int32), σ) else (if p3 ≤ (99 : Int32) then (if (f1_isPiece σ (f1_pieceAt σ p1 p2)) = 0 then wBody σ p1 p2 p3 else (if (σ 8 (f1_pieceAt σ p1 p2).toNatClampNeg) = (1 : Int32) then (f1_pieceAt σ p1 p2, wr σ 7 (f1_pieceAt σ p1 p2).toNatClampNeg p3) else wBody σ p1 p2 p3)) else ((-1000001 : Int32), σ)))) := by
  unfold f1_writePlace wBody wGive
  rfl
theorem mwrite_eq (σ : PS) (p1 p2 p3 : Int32) : f6_write σ p1 p2 p3 = (if (f6_isPlace σ p1 p2) = 0 then ((-1000001 : Int32), σ) else (if (f6_in p3 (0 : Int32) (99 : Int32)) = 0 then ((-1000001 : Int32), σ) else (sq (f6_changes σ) (fun (u3 : PS) => (if (f6_piece u3 p1 p2) < 0 then mBody u3 p1 p2 p3 else (if (f6_owners u3 (f6_piece u3 p1 p2)) = (1 : Int32) then (f6_piece u3 p1 p2, wr u3 0 ((7 : Int32) + (f6_piece u3 p1 p2)).toNatClampNeg p3) else mBody u3 p1 p2 p3)))))) := by
  unfold f6_write mBody mGive
  rfl
/-- what comes behind the placing: the same in class and model -/
theorem e_give {u μ μ6 : PS} (h : RI u (μ 0)) {v k q : Nat} (hv : v < 8) (hk : k < 40) (hq : q < 30) (hl : 0 < u 0 v) (x : Int32) {w : PS} {G : PS → PS} (hG2 : ∀ w j, j ≠ 6 → j ≠ 8 → (G w) j = w j) (hw0 : w 0 = u 0) (hw5 : w 5 = u 5) (hw13 : w 13 = u 13) (R : RI (G w) (upd (μ6 0) (74 + 47 * v + k) (nI q))) (hlow : f6_lowestFree μ6 = nI q) :
    ∃ μ16 : PS, RI (wr (wr (wr (G w) 7 q x) 5 v (u 5 v + 1)) 13 1 (u 13 1 + 1)) (μ16 0) ∧ (∀ j, j ≠ 0 → μ16 j = μ6 j) ∧ ∀ r7, mGive μ μ6 (nI v) (nI k) x r7 = (if r7 = (2 : Int32) then (if (f6_of μ16 (nI v) (3 : Int32)) = 0 then (nI q, f6_ends (f6_warns μ16 (2 : Int32) (nI v)) (f1_level u)) else (nI q, f6_ends μ16 (f1_level u))) else (nI q, f6_ends μ16 (f1_level u))) := by
  have R1 : RI (G w) ((wr μ6 0 (74 + 47 * v + k) (nI q)) 0) := R
  have R2 : RI (wr (G w) 7 q x) ((wr (wr μ6 0 (74 + 47 * v + k) (nI q)) 0 (7 + q) x) 0) := RI_val hq R1
  have hl2 : 0 < (wr (G w) 7 q x) 0 v := by
    rw [wr_ne (by decide), hG2 w 0 (by decide) (by decide), hw0]; exact hl
  have e5 : (wr (G w) 7 q x) 5 v = u 5 v := by rw [wr_ne (by decide), hG2 w 5 (by decide) (by decide), hw5]
  have R3 : RI (wr (wr (G w) 7 q x) 5 v (u 5 v + 1)) ((wr (wr (wr μ6 0 (74 + 47 * v + k) (nI q)) 0 (7 + q) x) 0 (73 + 47 * v) (u 5 v + 1)) 0) := RI_got hv R2
  have e13 : (wr (wr (wr μ6 0 (74 + 47 * v + k) (nI q)) 0 (7 + q) x) 0 (73 + 47 * v) (u 5 v + 1)) 0 4 = u 13 1 := by
    rw [R3.S.2.1, wr_ne (by decide), wr_ne (by decide), hG2 w 13 (by decide) (by decide), hw13]
  have R4 : RI (wr (wr (wr (G w) 7 q x) 5 v (u 5 v + 1)) 13 1 (u 13 1 + 1)) ((wr (wr (wr (wr μ6 0 (74 + 47 * v + k) (nI q)) 0 (7 + q) x) 0 (73 + 47 * v) (u 5 v + 1)) 0 4 (u 13 1 + 1)) 0) := RI_s1 R3
  refine ⟨_, R4, fun j hj => by rw [wr_ne hj, wr_ne hj, wr_ne hj, wr_ne hj], fun r7 => ?_⟩
  unfold mGive
  dsimp only [sq]
  rw [hlow, e_putq hv hk, show (7 : Int32) + nI q = nI (7 + q) from nI_add 7 q, nI_clamp (by omega), e_puts6 hv, e_of6 hv, (R2.V v hv hl2).2.2.2.2.2, e5, e13, e_level h]
theorem avl_nI {u : PS} (h : iQ u) (hf : iF u) : f1_available u = nI (fre u - prs u) ∧ prs u ≤ fre u := ⟨e_av h hf, hf⟩
theorem ends_no {W μ : PS} (h : RI W (μ 0)) {l : Int32} (e : f1_levelWith W (f1_available W) = l) : f6_ends μ l = μ := by
  unfold f6_ends
  rw [e_avail h, e_levelBy h.E, e, if_pos (Int32.le_refl l)]
theorem e_wBody {u μ : PS} (h : RI u (μ 0)) {v k : Nat} (hv : v < 8) (hk : k < 40) (hs : nI k < u 0 v) (hold : u 6 (40 * v + k) = -1 ∨ ∃ p, p < 30 ∧ u 6 (40 * v + k) = nI p ∧ 1 < own u (nI p)) (x : Int32) : f5_isError (wBody u (nI v) (nI k) x).1 = 0 ∧ (mBody μ (nI v) (nI k) x).1 = (wBody u (nI v) (nI k) x).1 ∧ RI (wBody u (nI v) (nI k) x).2 ((mBody μ (nI v) (nI k) x).2 0) ∧ ∀ j, j ≠ 0 → (mBody μ (nI v) (nI k) x).2 j = μ j := by
  have hl := e_live_of hk hs
  obtain ⟨ea, hf⟩ := avl_nI h.iQ h.iF
  have hf30 := fre_le u
  unfold wBody mBody
  rw [nI_clamp (by omega), e_avail h]
  obtain ⟨p, hp, ep⟩ := vp_in_of (h.iQ v hv).1 (by decide)
  rcases e_asks h hv hl (f1_available u) with ⟨q, e⟩ | ⟨q, e⟩
  · -- promised
    have hp0 : 0 < p := by
      rcases Nat.eq_zero_or_pos p with z | z
      · subst z; rw [ep] at q; exact absurd q (by decide)
      · exact z
    have ppr := sm_ge (g := fun w => (u 2 w).toNatClampNeg) v 8 0 (Nat.zero_le _) (by omega)
    rw [ep, nI_clamp (by omega)] at ppr
    have ppr2 : p ≤ prs u := ppr
    rcases e_low (u := u) 30 0 rfl with ⟨_, b⟩ | ⟨g, hg, hg0, lo, lom⟩
    · have := low_none b; omega
    · have elo : f1_lowestFreePiece u = nI g := lo
      rw [if_neg (Int32.not_le.mpr q), elo, e_isP hg, if_neg ne10, e]
      dsimp only [sq2]
      rw [if_neg (show ¬ (2 : Int32) = 0 by decide)]
      have e1 : u 2 v - 1 = nI (p - 1) := by rw [ep]; exact pk_sub (b := 1) hp0
      rw [e1]
      have pw := prs_wr (u := u) (x := nI (p - 1)) hv
      rw [ep, nI_clamp (by omega), nI_clamp (by omega)] at pw
      obtain ⟨μ6, hμ6⟩ : ∃ z, wr μ 0 (70 + 47 * v) (nI (p - 1)) = z := ⟨_, rfl⟩
      have R0 : RI (wr u 2 v (nI (p - 1))) (μ6 0) := by rw [← hμ6]; exact RI_pro hv hl (vp_in_nI (by omega) (by decide)) (by rw [ep, nI_clamp (by omega), nI_clamp (by omega)]; omega) h
      rw [hμ6]
      have m6 : ∀ j, j ≠ 0 → μ6 j = μ j := fun j hj => by rw [← hμ6, wr_ne hj]
      obtain ⟨G, hG1, hG2, ⟨r, u2, el, eG⟩, hG3⟩ := e_place h.2 hv hk hg hs hg0 hold
      have fw2 : fre (wr u 2 v (nI (p - 1))) = fre u := rfl
      obtain ⟨R, fG⟩ := hG3 (wr u 2 v (nI (p - 1))) (μ6 0) R0 rfl rfl rfl (by rw [fw2]; omega)
      have elm : f6_lowestFree μ6 = nI g := lom (wr u 2 v (nI (p - 1))) μ6 R0 rfl
      obtain ⟨μ16, R16, j16, eM⟩ := e_give (w := wr u 2 v (nI (p - 1))) h hv hk hg hl x hG2 rfl rfl rfl R elm
      rw [eM, if_pos rfl]
      unfold wGive
      dsimp only [sq, sq2]
      rw [el]
      dsimp only
      rw [elo, e_ix40 hv hk, nI_clamp (by omega), eG]
      unfold f1_bookPiece
      dsimp only [sq]
      rw [nI_clamp (by omega), if_neg ne10]
      -- the class's state
      have c5 : (wr (G u) 7 g x) 5 v = u 5 v := by rw [wr_ne (by decide), hG2 u 5 (by decide) (by decide)]
      rw [c5]
      have c13 : (wr (wr (G u) 7 g x) 5 v (u 5 v + 1)) 13 1 = u 13 1 := by rw [wr_ne (by decide), wr_ne (by decide), hG2 u 13 (by decide) (by decide)]
      rw [c13]
      have c2 : (wr (wr (wr (G u) 7 g x) 5 v (u 5 v + 1)) 13 1 (u 13 1 + 1)) 2 v = nI p := by rw [wr_ne (by decide), wr_ne (by decide), wr_ne (by decide), hG2 u 2 (by decide) (by decide)]; exact ep
      rw [c2, show nI p - 1 = nI (p - 1) from pk_sub (b := 1) hp0]
      have cW : wr (wr (wr (wr (G u) 7 g x) 5 v (u 5 v + 1)) 13 1 (u 13 1 + 1)) 2 v (nI (p - 1)) = wr (wr (wr (G (wr u 2 v (nI (p - 1)))) 7 g x) 5 v (u 5 v + 1)) 13 1 (u 13 1 + 1) := by
        rw [hG1 u 2 v _ (by decide) (by decide), wr_comm2 _ (i := 13) (j := 2) (by decide), wr_comm2 _ (i := 5) (j := 2) (by decide), wr_comm2 _ (i := 7) (j := 2) (by decide)]
      rw [cW]
      obtain ⟨W, hW⟩ : ∃ W, wr (wr (wr (G (wr u 2 v (nI (p - 1)))) 7 g x) 5 v (u 5 v + 1)) 13 1 (u 13 1 + 1) = W := ⟨_, rfl⟩
      rw [hW] at R16 ⊢
      have w2 : W 2 = (wr u 2 v (nI (p - 1))) 2 := by rw [← hW, wr_ne (by decide), wr_ne (by decide), wr_ne (by decide), hG2 _ 2 (by decide) (by decide)]
      have w0 : W 0 = u 0 := by rw [← hW, wr_ne (by decide), wr_ne (by decide), wr_ne (by decide), hG2 _ 0 (by decide) (by decide)]; exact wr_ne (by decide)
      have w9 : W 9 = u 9 := by rw [← hW, wr_ne (by decide), wr_ne (by decide), wr_ne (by decide), hG2 _ 9 (by decide) (by decide)]; exact wr_ne (by decide)
      have w8 : W 8 = (G (wr u 2 v (nI (p - 1)))) 8 := by rw [← hW, wr_ne (by decide), wr_ne (by decide), wr_ne (by decide)]
      have w2v : W 2 v = nI (p - 1) := by rw [w2]; exact pk_us (f := u 2)
      have hlW : 0 < W 0 v := by rw [w0]; exact hl
      have fW : fre W = fre (G (wr u 2 v (nI (p - 1)))) := by unfold fre; rw [w8]
      have pW : prs W = prs (wr u 2 v (nI (p - 1))) := by unfold prs; rw [w2]
      have avW : f1_available W = f1_available u := by
        rw [e_av R16.iQ R16.iF, ea, fW, pW]
        rw [fw2] at fG
        exact congrArg nI (by omega)
      have lvl : ∀ V : PS, V 9 = u 9 → f1_available V = f1_available u → f1_levelWith V (f1_available V) = f1_level u := fun V hV hA => by
        unfold f1_level f1_levelWith
        rw [hV, hA]
      rw [w2v, e_of3 hv, (R16.V v hv hlW).2.2.1, w2v]
      by_cases z : nI (p - 1) = 0
      · rw [if_pos z, if_pos z]
        obtain ⟨a, b⟩ := e_warns R16 2 (nI v)
        obtain ⟨ν, hν⟩ : ∃ ν, f6_warns μ16 2 (nI v) = ν := ⟨_, rfl⟩
        rw [hν] at a b ⊢
        have A9 : (f4_add W 2 (nI v) (f1_available W)) 9 = u 9 := by rw [← w9]; unfold f4_add; dsimp only [sq]; rw [wr_ne (by decide), wr_ne (by decide), wr_ne (by decide), wr_ne (by decide), setA_ne (by decide), setA_ne (by decide), setA_ne (by decide)]
        have A2 : (f4_add W 2 (nI v) (f1_available W)) 2 = W 2 := by unfold f4_add; dsimp only [sq]; rw [wr_ne (by decide), wr_ne (by decide), wr_ne (by decide), wr_ne (by decide), setA_ne (by decide), setA_ne (by decide), setA_ne (by decide)]
        have A8 : (f4_add W 2 (nI v) (f1_available W)) 8 = W 8 := by unfold f4_add; dsimp only [sq]; rw [wr_ne (by decide), wr_ne (by decide), wr_ne (by decide), wr_ne (by decide), setA_ne (by decide), setA_ne (by decide), setA_ne (by decide)]
        rw [ends_no a (lvl _ A9 ((av_rows R16.iQ a.iQ A2 A8).trans avW))]
        exact ⟨err_nI (by omega), rfl, a, fun j hj => (b j hj).trans ((j16 j hj).trans (m6 j hj))⟩
      · rw [if_neg z, if_neg z, ends_no R16 (lvl W w9 avW)]
        exact ⟨err_nI (by omega), rfl, R16, fun j hj => (j16 j hj).trans (m6 j hj)⟩
  · rw [e, q, if_pos (show (0 : Int32) ≤ 0 by decide)]
    dsimp only [sq2]
    rcases would_01 (u := u) hv (u 1 v) (f1_available u) with z | z
    · -- refused
      rw [z, if_pos rfl, if_pos rfl, if_pos rfl]
      obtain ⟨μ1, hμ1⟩ : ∃ z, wr μ 0 (69 + 47 * v) (refM (u 1 v)) = z := ⟨_, rfl⟩
      rw [hμ1]
      obtain ⟨a, b⟩ := e_refuse h hv hl hμ1
      rw [ite_self]
      dsimp only [sq]
      exact ⟨by decide, rfl, a, b⟩
    · have ha0 : 0 < fre u - prs u := by
        rcases Nat.eq_zero_or_pos (fre u - prs u) with y | y
        · rw [would_no hv _ _ (by rw [ea, y]; decide)] at z; exact absurd z (by decide)
        · exact y
      rcases e_low (u := u) 30 0 rfl with ⟨_, b⟩ | ⟨g, hg, hg0, lo, lom⟩
      · have := low_none b; omega
      · have elo : f1_lowestFreePiece u = nI g := lo
        rw [z, elo, e_isP hg, if_neg ne10, if_neg ne10, if_neg ne10]
        obtain ⟨m2, hm2⟩ : ∃ z, f1_mannersBehindUnpromised u (u 1 v) (f1_levelWith u (f1_available u)) = z := ⟨_, rfl⟩
        rw [hm2]
        obtain ⟨μ6, hμ6⟩ : ∃ z, wr μ 0 (69 + 47 * v) m2 = z := ⟨_, rfl⟩
        have R0 : RI (wr u 1 v m2) (μ6 0) := by rw [← hμ6]; exact RI_man hv (by rw [← hm2]; exact beh_in (h.iM v hv)) h
        have m6 : ∀ j, j ≠ 0 → μ6 j = μ j := fun j hj => by rw [← hμ6, wr_ne hj]
        obtain ⟨G, hG1, hG2, ⟨r, u2, el, eG⟩, hG3⟩ := e_place h.2 hv hk hg hs hg0 hold
        have fw2 : fre (wr u 1 v m2) = fre u := rfl
        have pw2 : prs (wr u 1 v m2) = prs u := rfl
        obtain ⟨R, fG⟩ := hG3 (wr u 1 v m2) (μ6 0) R0 rfl rfl rfl (by rw [fw2, pw2]; omega)
        have elm : f6_lowestFree μ6 = nI g := lom (wr u 1 v m2) μ6 R0 rfl
        obtain ⟨μ16, R16, j16, eM⟩ := e_give (w := wr u 1 v m2) h hv hk hg hl x hG2 rfl rfl rfl R elm
        rw [if_neg ne10, hμ6, eM, if_neg (show ¬ (1 : Int32) = 2 by decide)]
        unfold wGive
        dsimp only [sq, sq2]
        rw [el]
        dsimp only
        rw [elo, e_ix40 hv hk, nI_clamp (by omega), eG]
        unfold f1_bookPiece
        dsimp only [sq]
        rw [nI_clamp (by omega), if_pos rfl]
        have c5 : (wr (G u) 7 g x) 5 v = u 5 v := by rw [wr_ne (by decide), hG2 u 5 (by decide) (by decide)]
        rw [c5]
        have c13 : (wr (wr (G u) 7 g x) 5 v (u 5 v + 1)) 13 1 = u 13 1 := by rw [wr_ne (by decide), wr_ne (by decide), hG2 u 13 (by decide) (by decide)]
        rw [c13]
        have c1 : (wr (wr (wr (G u) 7 g x) 5 v (u 5 v + 1)) 13 1 (u 13 1 + 1)) 1 v = u 1 v := by rw [wr_ne (by decide), wr_ne (by decide), wr_ne (by decide), hG2 u 1 (by decide) (by decide)]
        rw [c1]
        have cm : ∀ V : PS, f1_mannersBehindUnpromised V (u 1 v) (f1_level u) = m2 := fun V => by rw [← hm2]; unfold f1_mannersBehindUnpromised f1_level; rfl
        rw [cm]
        have cW : wr (wr (wr (wr (G u) 7 g x) 5 v (u 5 v + 1)) 13 1 (u 13 1 + 1)) 1 v m2 = wr (wr (wr (G (wr u 1 v m2)) 7 g x) 5 v (u 5 v + 1)) 13 1 (u 13 1 + 1) := by
          rw [hG1 u 1 v _ (by decide) (by decide), wr_comm2 _ (i := 13) (j := 1) (by decide), wr_comm2 _ (i := 5) (j := 1) (by decide), wr_comm2 _ (i := 7) (j := 1) (by decide)]
        rw [cW]
        obtain ⟨a, b⟩ := e_ends R16 (f1_level u)
        exact ⟨err_nI (by omega), rfl, a, fun j hj => (b j hj).trans ((j16 j hj).trans (m6 j hj))⟩
theorem e_write {u μ : PS} (h : RI u (μ 0)) (p1 p2 p3 : Int32) : opOk u μ (f1_writePlace u p1 p2 p3) (f6_write μ p1 p2 p3) := by
  rw [write_eq, mwrite_eq, e_isPlace h, e_rng]
  dsimp only [sq]
  rcases e_has h.iS p1 p2 with h0 | ⟨v, k, hv, hk, rfl, rfl, hl, h3, h4⟩
  · rw [if_pos h0, if_pos h0]; exact opOk_err (by decide)
  · rw [h4, if_neg ne10, if_neg ne10]
    by_cases q1 : p3 < 0
    · rw [if_pos q1, if_pos q1]; exact opOk_err (by decide)
    · rw [if_neg q1, if_neg q1]
      by_cases q2 : p3 ≤ 99
      · rw [if_pos q2, if_pos q2]
        have hc := RI_chg h
        rw [e_pieceAt h.iP hv hk, e_piece hv hk, hc.P v k hv hk hl]
        rcases e_spot h.iP hv hk with e | ⟨p, hp, e, _⟩
        · rw [e, e_isP0, if_pos rfl, if_pos (show (-1 : Int32) < 0 by decide)]
          obtain ⟨a, b, c, d⟩ := e_wBody hc hv hk h3 (Or.inl e) p3
          exact Or.inr ⟨a, b, c, d⟩
        · rw [e, e_isP hp, if_neg ne10, if_neg (nI_pos (by omega)), nI_clamp (by omega), e_owners8 hc hp]
          by_cases z : u 8 p = 1
          · rw [if_pos z, if_pos z, show (7 : Int32) + nI p = nI (7 + p) from nI_add 7 p, nI_clamp (by omega)]
            exact Or.inr ⟨err_nI (by omega), rfl, RI_val hp hc, fun j hj => wr_ne hj⟩
          · rw [if_neg z, if_neg z]
            have ho := own_pos (u := u) (show 40 * v + k < 320 by omega) e
            have ho2 : 1 < own u (nI p) := by
              rcases Nat.lt_or_ge 1 (own u (nI p)) with y | y
              · exact y
              · have y1 : own u (nI p) = 1 := by omega
                rw [h.iO p hp, y1] at z; exact absurd rfl z
            obtain ⟨a, b, c, d⟩ := e_wBody hc hv hk h3 (Or.inr ⟨p, hp, e, ho2⟩) p3
            exact Or.inr ⟨a, b, c, d⟩
      · rw [if_neg q2, if_neg q2]; exact opOk_err (by decide)
