/-! Clones. -/
theorem upd_upd (s : Nat → Int32) (i : Nat) (x y : Int32) : upd (upd s i x) i y = upd s i y := by
  funext k
  by_cases e : k = i
  · rw [e, pk_us, pk_us]
  · rw [pk_un e, pk_un e, pk_un e]
theorem upd_id {s : Nat → Int32} {i : Nat} {x : Int32} (h : s i = x) : upd s i x = s := by
  funext k
  by_cases e : k = i
  · rw [e, pk_us, h]
  · rw [pk_un e]
/-- a place without a piece gets one -/
theorem RI_on {u : PS} {s : Nat → Int32} (h : RI u s) {v k p : Nat} (hv : v < 8) (hk : k < 40) (hp : p < 30) (e : u 6 (40 * v + k) = -1) (hs : nI k < u 0 v) (hf : prs u + (if own u (nI p) = 0 then 1 else 0) ≤ fre u) : RI (wr (wr u 6 (40 * v + k) (nI p)) 8 p (nI (own u (nI p) + 1))) (upd s (74 + 47 * v + k) (nI p)) := by
  have hle := own_le u (nI p)
  refine ⟨qR_spot hv hk (by rw [nI_toInt (by omega)]; omega) h.1, h.iS, fun w i hw hi => ?_, h.iM, h.iQ, h.iA, h.iT, fun q hq => ?_, ?_, h.iK⟩
  · show upd (u 6) (40 * v + k) (nI p) (40 * w + i) = -1 ∨ (vp_in (upd (u 6) (40 * v + k) (nI p) (40 * w + i)) 30 ∧ nI i < u 0 w)
    by_cases q : 40 * w + i = 40 * v + k
    · have e1 : w = v := by omega
      have e2 : i = k := by omega
      subst e1; subst e2
      rw [pk_us]; exact Or.inr ⟨vp_in_nI hp (by decide), hs⟩
    · rw [pk_un q]; exact h.iP w i hw hi
  · have ow := own_wr (u := u) (y := nI p) (x := nI q) (show 40 * v + k < 320 by omega)
    rw [e, if_neg (show ¬ ((-1 : Int32) = nI q) from fun z => e_neg (by omega) z.symm)] at ow
    show upd (u 8) p (nI (own u (nI p) + 1)) q = nI (own (wr u 6 (40 * v + k) (nI p)) (nI q))
    by_cases z : q = p
    · subst z
      rw [pk_us]
      rw [if_pos rfl] at ow
      exact congrArg nI (by omega)
    · rw [pk_un z, h.iO q hq]
      rw [if_neg (fun y => z (e_inj (by omega) (by omega) y).symm)] at ow
      exact congrArg nI (by omega)
  · have fw := fre_wr (u := wr u 6 (40 * v + k) (nI p)) (x := nI (own u (nI p) + 1)) hp
    rw [if_neg (nI_ne0 (by omega) (by omega))] at fw
    have f1 : fre (wr u 6 (40 * v + k) (nI p)) = fre u := rfl
    have f3 : (wr u 6 (40 * v + k) (nI p)) 8 p = nI (own u (nI p)) := h.iO p hp
    rw [f3] at fw
    show prs u ≤ fre (wr (wr u 6 (40 * v + k) (nI p)) 8 p (nI (own u (nI p) + 1)))
    by_cases z : own u (nI p) = 0
    · rw [z] at fw hf
      rw [if_pos (show nI 0 = 0 from rfl)] at fw
      rw [if_pos rfl] at hf
      rw [z]; omega
    · rw [if_neg (nI_ne0 (by omega) (by omega))] at fw
      rw [if_neg z] at hf
      omega
theorem e_share41 {v c : Nat} (hv : v < 8) (hc : c < 8) (hvc : v ≠ c) : ∀ n i : Nat, ∀ u τ : PS, i + n = 40 → RI u (τ 0) → 0 < u 0 v → u 0 c = u 0 v → (∀ k, i ≤ k → k < 40 → u 6 (40 * c + k) = -1) → RI (f1_cloneVolume_L41 (nI v) (nI c) n i u) ((f6_share_L49 (nI v) (nI c) n i τ) 0) ∧ ∀ j, j ≠ 0 → (f6_share_L49 (nI v) (nI c) n i τ) j = τ j := by
  intro n
  induction n with
  | zero =>
    intro i u τ hi h hl e1 e2
    rw [f1_cloneVolume_L41, f6_share_L49]
    exact ⟨h, fun _ _ => rfl⟩
  | succ n ih =>
    intro i u τ hi h hl e1 e2
    have hi40 : i < 40 := by omega
    have hlc : 0 < u 0 c := by rw [e1]; exact hl
    rw [f1_cloneVolume_L41, f6_share_L49, e_pieceAt h.iP hv hi40, e_piece hv hi40, h.P v i hv hi40 hl, e_putp hc hi40, e_ix40 hc hi40]
    dsimp only [sq]
    rcases e_spot h.iP hv hi40 with e | ⟨p, hp, e, hs⟩
    · rw [e, e_isP0, if_pos rfl, wr_id ((h.P c i hc hi40 hlc).trans (e2 i (Nat.le_refl i) hi40))]
      exact ih (i + 1) u τ (by omega) h hl e1 (fun k a b => e2 k (by omega) b)
    · rw [e, e_isP hp, if_neg ne10, nI_clamp (by omega)]
      have ho := own_pos (u := u) (show 40 * v + i < 320 by omega) e
      have r8 : (wr u 6 (40 * c + i) (nI p)) 8 p + 1 = nI (own u (nI p) + 1) := by
        show u 8 p + 1 = _
        rw [h.iO p hp]; exact nI_1 _
      rw [r8]
      have hf : prs u ≤ fre u := h.iF
      have R := RI_on h hc hi40 hp (e2 i (Nat.le_refl i) hi40) (by rw [e1]; exact hs) (by rw [if_neg (by omega)]; exact hf)
      obtain ⟨a, b⟩ := ih (i + 1) (wr (wr u 6 (40 * c + i) (nI p)) 8 p (nI (own u (nI p) + 1))) (wr τ 0 (74 + 47 * c + i) (nI p)) (by omega) R hl e1 (fun k a b => by
        show upd (u 6) (40 * c + i) (nI p) (40 * c + k) = -1
        rw [pk_un (by omega)]; exact e2 k (by omega) b)
      exact ⟨a, fun j hj => (b j hj).trans (by rw [wr_ne hj])⟩
theorem e_share40 {v c : Nat} (hv : v < 8) (hc : c < 8) (hvc : v ≠ c) {u τ : PS} (h : RI u (τ 0)) (hl : 0 < u 0 v) (e1 : u 0 c = u 0 v) (e2 : ∀ k, k < 40 → u 6 (40 * c + k) = -1) : ∃ w ν : PS, f1_cloneVolume_L41 (nI v) (nI c) 40 0 u = w ∧ f6_share_L49 (nI v) (nI c) 40 0 τ = ν ∧ RI w (ν 0) ∧ ∀ j, j ≠ 0 → ν j = τ j := by
  obtain ⟨a, b⟩ := e_share41 hv hc hvc 40 0 u τ rfl h hl e1 (fun k _ hk => e2 k hk)
  exact ⟨_, _, rfl, rfl, a, b⟩
theorem RI_kid {u : PS} {s : Nat → Int32} {v c : Nat} (hv : v < 8) (hc : c < 8) (hvc : v ≠ c) (hl : 0 < u 0 v) (hlc : 0 < u 0 c) (no : ∀ j, j < 8 → u 3 j ≠ nI c) (h : RI u s) : RI (wr u 3 c (nI v)) (upd s (71 + 47 * c) (nI v)) := by
  refine ⟨qR_f3 hc h.1, h.iS, h.iP, h.iM, h.iQ, fun w hw => ?_, ?_, h.iO, h.iF, h.iK⟩
  · show upd (u 3) c (nI v) w = -1 ∨ (0 < u 0 w ∧ ∃ x, x < 8 ∧ upd (u 3) c (nI v) w = nI x ∧ 0 < u 0 x)
    by_cases q : w = c
    · subst q; rw [pk_us]; exact Or.inr ⟨hlc, v, hv, rfl, hl⟩
    · rw [pk_un q]; exact h.iA w hw
  · obtain ⟨rk, hr⟩ := h.iT
    refine ⟨fun w => if w = c then rk v + 1 else rk w, fun a b ha hb hab => ?_⟩
    have hab : upd (u 3) c (nI v) a = nI b := hab
    by_cases q : a = c
    · subst q
      rw [pk_us] at hab
      have e : v = b := e_inj (by omega) (by omega) hab
      subst e
      show (if v = a then rk v + 1 else rk v) < (if a = a then rk v + 1 else rk a)
      rw [if_pos rfl, if_neg hvc]; exact Nat.lt_succ_self _
    · rw [pk_un q] at hab
      have e : b ≠ c := fun z => no a ha (by rw [hab, z])
      show (if b = c then rk v + 1 else rk b) < (if a = c then rk v + 1 else rk a)
      rw [if_neg q, if_neg e]; exact hr a b ha hb hab
theorem e_share {u μ : PS} (h : RI u (μ 0)) (p1 : Int32) : opOk u μ (f1_cloneVolume u p1) (f6_share μ p1) := by
  unfold f1_cloneVolume f6_share f6_free8
  rw [e_isVol h.L]
  dsimp only [sq, sq2]
  rcases e_liv u p1 with h0 | ⟨v, hv, rfl, hl, h1⟩
  · rw [if_pos h0, if_pos h0]; exact opOk_err (by decide)
  · rw [h1, if_neg ne10, if_neg ne10, nI_clamp (by omega)]
    obtain ⟨m, hm, em⟩ := e_size h.iS hv
    have hm0 : 0 < m := by
      rcases Nat.eq_zero_or_pos m with z | z
      · subst z; rw [em] at hl; exact absurd hl (by decide)
      · exact z
    have op : f1_openVolume u (u 0 v) = f1_openVolume_L16 (nI m) 8 0 u := by
      unfold f1_openVolume
      rw [em, if_neg (show ¬ nI m < 1 from nI_nlt (b := 1) (by omega) (by omega)), if_pos (show nI m ≤ 40 from nI_le (b := 40) hm (by decide))]
    rw [op]
    rcases e_open16 h (nI m) 8 0 rfl with ⟨a, b⟩ | ⟨c, hc, hd, a, b⟩
    · rw [a, b, if_pos rfl]
      dsimp only
      have : f1_lives u (-1000003) = 0 := by unfold f1_lives; rw [if_pos (by decide)]
      rw [this, if_pos rfl]
      exact opOk_err (by decide)
    · rw [a, b, if_neg (show ¬ nI c = 8 from fun z => by have := e_inj (b := 8) (by omega) (by decide) z; omega)]
      dsimp only
      have hvc : v ≠ c := fun z => by rw [z, hd] at hl; exact absurd hl (by decide)
      have r0 : ∀ w, (newU u c (nI m)) 0 w = upd (u 0) c (nI m) w := fun _ => rfl
      have r3 : ∀ w, (newU u c (nI m)) 3 w = upd (u 3) c (-1) w := fun _ => rfl
      have hlc : 0 < (newU u c (nI m)) 0 c := by rw [r0, pk_us]; exact nI_lt (a := 0) hm0 (by omega)
      have hlv : 0 < (newU u c (nI m)) 0 v := by rw [r0, pk_un hvc]; exact hl
      have hn : wr (wr (wr (wr (wr (wr u 0 c (nI m)) 1 c 50) 2 c 0) 3 c (-1)) 4 c 0) 5 c 0 = newU u c (nI m) := rfl
      rw [hn, e_lives1 hc hlc, if_neg ne10, nI_clamp (by omega)]
      have hcg := RI_chg h
      have e1 : f6_of (f6_changes μ) (nI v) 1 = nI m := by rw [e_of1 hv, (hcg.V v hv hl).1, em]
      rw [e1, e_puts4 hc]
      obtain ⟨t0, t1, t2, t3, t4, t5, t6, t7, t8, t9⟩ := e_begins hc (f6_changes μ) (nI m)
      obtain ⟨B, hB⟩ : ∃ B, f6_begins (f6_changes μ) (nI c) (nI m) = B := ⟨_, rfl⟩
      rw [hB] at t0 t1 t2 t3 t4 t5 t6 t7 t8 t9 ⊢
      have R1 := RI_new hc hm0 hm hcg hd t0 t1 t2 t3 t4 t5 t6 t7 t8
      have R2 : RI (wr (newU u c (nI m)) 3 c (nI v)) ((wr B 0 (71 + 47 * c) (nI v)) 0) := RI_kid hv hc hvc hlv hlc (fun j hj z => by
        rw [r3] at z
        by_cases q : j = c
        · rw [q, pk_us] at z; exact e_neg (by omega) z.symm
        · rw [pk_un q] at z
          rcases h.iA j hj with y | ⟨_, x, x1, x2, x3⟩
          · rw [z] at y; exact e_neg (by omega) y
          · have : c = x := e_inj (by omega) (by omega) (z.symm.trans x2)
            rw [← this, hd] at x3; exact absurd x3 (by decide)) R1
      obtain ⟨w, ν, q1, q2, a3, b3⟩ := e_share40 hv hc hvc R2 hlv (by
        show upd (u 0) c (nI m) c = upd (u 0) c (nI m) v
        rw [pk_us, pk_un hvc, em]) (fun k hk => e_dead h.iP hc hk hd)
      rw [q1, q2]
      exact Or.inr ⟨err_nI (by omega), rfl, a3, fun j hj => (b3 j hj).trans (by rw [wr_ne hj, t9 j hj])⟩
