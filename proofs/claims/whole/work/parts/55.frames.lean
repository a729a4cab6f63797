/-! One place of the pool and one of the row change together. -/
theorem qR_f1 {u : PS} {s : Nat → Int32} {v : Nat} (hv : v < 8) {x : Int32} (h : qR u s) : qR (wr u 1 v x) (upd s (69 + 47 * v) x) := by
  obtain ⟨L, V, P, D, E, S, W, M⟩ := h
  refine ⟨fun w hw => ?_, fun w hw hl => ?_, fun w k hw hk hl => ?_, fun p hp => ?_, fun i hi => ?_, ⟨?_, ?_, ?_, ?_⟩, fun i hi => ⟨?_, ?_, ?_⟩, fun a ha => ?_, fun a k ha hk => ?_⟩
  · rw [pk_un (by omega)]; exact L w hw
  · obtain ⟨a1, a2, a3, a4, a5, a6⟩ := V w hw hl
    refine ⟨(pk_un (by omega)).trans a1, ?_, (pk_un (by omega)).trans a3, (pk_un (by omega)).trans a4, (pk_un (by omega)).trans a5, (pk_un (by omega)).trans a6⟩
    by_cases e : w = v
    · subst e; rw [pk_us]; exact (pk_us (f := u 1)).symm
    · rw [pk_un (by omega)]; exact a2.trans (pk_un (f := u 1) e).symm
  · exact (pk_un (by omega)).trans (P w k hw hk hl)
  · exact (pk_un (by omega)).trans (D p hp)
  · exact (pk_un (by omega)).trans (E i hi)
  · exact (pk_un (by omega)).trans S.1
  · exact (pk_un (by omega)).trans S.2.1
  · exact (pk_un (by omega)).trans S.2.2.1
  · exact (pk_un (by omega)).trans S.2.2.2
  · exact (pk_un (by omega)).trans (W i hi).1
  · exact (pk_un (by omega)).trans (W i hi).2.1
  · exact (pk_un (by omega)).trans (W i hi).2.2
  · rw [pk_un (by omega)]; exact M.1 a ha
  · rw [pk_un (by omega)]; exact M.2 a k ha hk
theorem qR_f2 {u : PS} {s : Nat → Int32} {v : Nat} (hv : v < 8) {x : Int32} (h : qR u s) : qR (wr u 2 v x) (upd s (70 + 47 * v) x) := by
  obtain ⟨L, V, P, D, E, S, W, M⟩ := h
  refine ⟨fun w hw => ?_, fun w hw hl => ?_, fun w k hw hk hl => ?_, fun p hp => ?_, fun i hi => ?_, ⟨?_, ?_, ?_, ?_⟩, fun i hi => ⟨?_, ?_, ?_⟩, fun a ha => ?_, fun a k ha hk => ?_⟩
  · rw [pk_un (by omega)]; exact L w hw
  · obtain ⟨a1, a2, a3, a4, a5, a6⟩ := V w hw hl
    refine ⟨(pk_un (by omega)).trans a1, (pk_un (by omega)).trans a2, ?_, (pk_un (by omega)).trans a4, (pk_un (by omega)).trans a5, (pk_un (by omega)).trans a6⟩
    by_cases e : w = v
    · subst e; rw [pk_us]; exact (pk_us (f := u 2)).symm
    · rw [pk_un (by omega)]; exact a3.trans (pk_un (f := u 2) e).symm
  · exact (pk_un (by omega)).trans (P w k hw hk hl)
  · exact (pk_un (by omega)).trans (D p hp)
  · exact (pk_un (by omega)).trans (E i hi)
  · exact (pk_un (by omega)).trans S.1
  · exact (pk_un (by omega)).trans S.2.1
  · exact (pk_un (by omega)).trans S.2.2.1
  · exact (pk_un (by omega)).trans S.2.2.2
  · exact (pk_un (by omega)).trans (W i hi).1
  · exact (pk_un (by omega)).trans (W i hi).2.1
  · exact (pk_un (by omega)).trans (W i hi).2.2
  · rw [pk_un (by omega)]; exact M.1 a ha
  · rw [pk_un (by omega)]; exact M.2 a k ha hk
theorem qR_f3 {u : PS} {s : Nat → Int32} {v : Nat} (hv : v < 8) {x : Int32} (h : qR u s) : qR (wr u 3 v x) (upd s (71 + 47 * v) x) := by
  obtain ⟨L, V, P, D, E, S, W, M⟩ := h
  refine ⟨fun w hw => ?_, fun w hw hl => ?_, fun w k hw hk hl => ?_, fun p hp => ?_, fun i hi => ?_, ⟨?_, ?_, ?_, ?_⟩, fun i hi => ⟨?_, ?_, ?_⟩, fun a ha => ?_, fun a k ha hk => ?_⟩
  · rw [pk_un (by omega)]; exact L w hw
  · obtain ⟨a1, a2, a3, a4, a5, a6⟩ := V w hw hl
    refine ⟨(pk_un (by omega)).trans a1, (pk_un (by omega)).trans a2, (pk_un (by omega)).trans a3, ?_, (pk_un (by omega)).trans a5, (pk_un (by omega)).trans a6⟩
    by_cases e : w = v
    · subst e; rw [pk_us]; exact (pk_us (f := u 3)).symm
    · rw [pk_un (by omega)]; exact a4.trans (pk_un (f := u 3) e).symm
  · exact (pk_un (by omega)).trans (P w k hw hk hl)
  · exact (pk_un (by omega)).trans (D p hp)
  · exact (pk_un (by omega)).trans (E i hi)
  · exact (pk_un (by omega)).trans S.1
  · exact (pk_un (by omega)).trans S.2.1
  · exact (pk_un (by omega)).trans S.2.2.1
  · exact (pk_un (by omega)).trans S.2.2.2
  · exact (pk_un (by omega)).trans (W i hi).1
  · exact (pk_un (by omega)).trans (W i hi).2.1
  · exact (pk_un (by omega)).trans (W i hi).2.2
  · rw [pk_un (by omega)]; exact M.1 a ha
  · rw [pk_un (by omega)]; exact M.2 a k ha hk
theorem qR_f4 {u : PS} {s : Nat → Int32} {v : Nat} (hv : v < 8) {x : Int32} (h : qR u s) : qR (wr u 4 v x) (upd s (72 + 47 * v) x) := by
  obtain ⟨L, V, P, D, E, S, W, M⟩ := h
  refine ⟨fun w hw => ?_, fun w hw hl => ?_, fun w k hw hk hl => ?_, fun p hp => ?_, fun i hi => ?_, ⟨?_, ?_, ?_, ?_⟩, fun i hi => ⟨?_, ?_, ?_⟩, fun a ha => ?_, fun a k ha hk => ?_⟩
  · rw [pk_un (by omega)]; exact L w hw
  · obtain ⟨a1, a2, a3, a4, a5, a6⟩ := V w hw hl
    refine ⟨(pk_un (by omega)).trans a1, (pk_un (by omega)).trans a2, (pk_un (by omega)).trans a3, (pk_un (by omega)).trans a4, ?_, (pk_un (by omega)).trans a6⟩
    by_cases e : w = v
    · subst e; rw [pk_us]; exact (pk_us (f := u 4)).symm
    · rw [pk_un (by omega)]; exact a5.trans (pk_un (f := u 4) e).symm
  · exact (pk_un (by omega)).trans (P w k hw hk hl)
  · exact (pk_un (by omega)).trans (D p hp)
  · exact (pk_un (by omega)).trans (E i hi)
  · exact (pk_un (by omega)).trans S.1
  · exact (pk_un (by omega)).trans S.2.1
  · exact (pk_un (by omega)).trans S.2.2.1
  · exact (pk_un (by omega)).trans S.2.2.2
  · exact (pk_un (by omega)).trans (W i hi).1
  · exact (pk_un (by omega)).trans (W i hi).2.1
  · exact (pk_un (by omega)).trans (W i hi).2.2
  · rw [pk_un (by omega)]; exact M.1 a ha
  · rw [pk_un (by omega)]; exact M.2 a k ha hk
theorem qR_f5 {u : PS} {s : Nat → Int32} {v : Nat} (hv : v < 8) {x : Int32} (h : qR u s) : qR (wr u 5 v x) (upd s (73 + 47 * v) x) := by
  obtain ⟨L, V, P, D, E, S, W, M⟩ := h
  refine ⟨fun w hw => ?_, fun w hw hl => ?_, fun w k hw hk hl => ?_, fun p hp => ?_, fun i hi => ?_, ⟨?_, ?_, ?_, ?_⟩, fun i hi => ⟨?_, ?_, ?_⟩, fun a ha => ?_, fun a k ha hk => ?_⟩
  · rw [pk_un (by omega)]; exact L w hw
  · obtain ⟨a1, a2, a3, a4, a5, a6⟩ := V w hw hl
    refine ⟨(pk_un (by omega)).trans a1, (pk_un (by omega)).trans a2, (pk_un (by omega)).trans a3, (pk_un (by omega)).trans a4, (pk_un (by omega)).trans a5, ?_⟩
    by_cases e : w = v
    · subst e; rw [pk_us]; exact (pk_us (f := u 5)).symm
    · rw [pk_un (by omega)]; exact a6.trans (pk_un (f := u 5) e).symm
  · exact (pk_un (by omega)).trans (P w k hw hk hl)
  · exact (pk_un (by omega)).trans (D p hp)
  · exact (pk_un (by omega)).trans (E i hi)
  · exact (pk_un (by omega)).trans S.1
  · exact (pk_un (by omega)).trans S.2.1
  · exact (pk_un (by omega)).trans S.2.2.1
  · exact (pk_un (by omega)).trans S.2.2.2
  · exact (pk_un (by omega)).trans (W i hi).1
  · exact (pk_un (by omega)).trans (W i hi).2.1
  · exact (pk_un (by omega)).trans (W i hi).2.2
  · rw [pk_un (by omega)]; exact M.1 a ha
  · rw [pk_un (by omega)]; exact M.2 a k ha hk
theorem qR_val {u : PS} {s : Nat → Int32} {v : Nat} (hv : v < 30) {x : Int32} (h : qR u s) : qR (wr u 7 v x) (upd s (7 + v) x) := by
  obtain ⟨L, V, P, D, E, S, W, M⟩ := h
  refine ⟨fun w hw => ?_, fun w hw hl => ?_, fun w k hw hk hl => ?_, fun p hp => ?_, fun i hi => ?_, ⟨?_, ?_, ?_, ?_⟩, fun i hi => ⟨?_, ?_, ?_⟩, fun a ha => ?_, fun a k ha hk => ?_⟩
  · rw [pk_un (by omega)]; exact L w hw
  · obtain ⟨a1, a2, a3, a4, a5, a6⟩ := V w hw hl
    exact ⟨(pk_un (by omega)).trans a1, (pk_un (by omega)).trans a2, (pk_un (by omega)).trans a3, (pk_un (by omega)).trans a4, (pk_un (by omega)).trans a5, (pk_un (by omega)).trans a6⟩
  · exact (pk_un (by omega)).trans (P w k hw hk hl)
  · by_cases e : p = v
    · subst e; rw [pk_us]; exact (pk_us (f := u 7)).symm
    · rw [pk_un (by omega)]; exact (D p hp).trans (pk_un (f := u 7) e).symm
  · exact (pk_un (by omega)).trans (E i hi)
  · exact (pk_un (by omega)).trans S.1
  · exact (pk_un (by omega)).trans S.2.1
  · exact (pk_un (by omega)).trans S.2.2.1
  · exact (pk_un (by omega)).trans S.2.2.2
  · exact (pk_un (by omega)).trans (W i hi).1
  · exact (pk_un (by omega)).trans (W i hi).2.1
  · exact (pk_un (by omega)).trans (W i hi).2.2
  · rw [pk_un (by omega)]; exact M.1 a ha
  · rw [pk_un (by omega)]; exact M.2 a k ha hk
theorem qR_set {u : PS} {s : Nat → Int32} {v : Nat} (hv : v < 3) {x : Int32} (h : qR u s) : qR (wr u 9 v x) (upd s v x) := by
  obtain ⟨L, V, P, D, E, S, W, M⟩ := h
  refine ⟨fun w hw => ?_, fun w hw hl => ?_, fun w k hw hk hl => ?_, fun p hp => ?_, fun i hi => ?_, ⟨?_, ?_, ?_, ?_⟩, fun i hi => ⟨?_, ?_, ?_⟩, fun a ha => ?_, fun a k ha hk => ?_⟩
  · rw [pk_un (by omega)]; exact L w hw
  · obtain ⟨a1, a2, a3, a4, a5, a6⟩ := V w hw hl
    exact ⟨(pk_un (by omega)).trans a1, (pk_un (by omega)).trans a2, (pk_un (by omega)).trans a3, (pk_un (by omega)).trans a4, (pk_un (by omega)).trans a5, (pk_un (by omega)).trans a6⟩
  · exact (pk_un (by omega)).trans (P w k hw hk hl)
  · exact (pk_un (by omega)).trans (D p hp)
  · by_cases e : i = v
    · subst e; rw [pk_us]; exact (pk_us (f := u 9)).symm
    · rw [pk_un (by omega)]; exact (E i hi).trans (pk_un (f := u 9) e).symm
  · exact (pk_un (by omega)).trans S.1
  · exact (pk_un (by omega)).trans S.2.1
  · exact (pk_un (by omega)).trans S.2.2.1
  · exact (pk_un (by omega)).trans S.2.2.2
  · exact (pk_un (by omega)).trans (W i hi).1
  · exact (pk_un (by omega)).trans (W i hi).2.1
  · exact (pk_un (by omega)).trans (W i hi).2.2
  · rw [pk_un (by omega)]; exact M.1 a ha
  · rw [pk_un (by omega)]; exact M.2 a k ha hk
theorem qR_s0 {u : PS} {s : Nat → Int32}  {x : Int32} (h : qR u s) : qR (wr u 13 0 x) (upd s 3 x) := by
  obtain ⟨L, V, P, D, E, S, W, M⟩ := h
  refine ⟨fun w hw => ?_, fun w hw hl => ?_, fun w k hw hk hl => ?_, fun p hp => ?_, fun i hi => ?_, ⟨?_, ?_, ?_, ?_⟩, fun i hi => ⟨?_, ?_, ?_⟩, fun a ha => ?_, fun a k ha hk => ?_⟩
  · rw [pk_un (by omega)]; exact L w hw
  · obtain ⟨a1, a2, a3, a4, a5, a6⟩ := V w hw hl
    exact ⟨(pk_un (by omega)).trans a1, (pk_un (by omega)).trans a2, (pk_un (by omega)).trans a3, (pk_un (by omega)).trans a4, (pk_un (by omega)).trans a5, (pk_un (by omega)).trans a6⟩
  · exact (pk_un (by omega)).trans (P w k hw hk hl)
  · exact (pk_un (by omega)).trans (D p hp)
  · exact (pk_un (by omega)).trans (E i hi)
  · exact pk_us.trans (pk_us (f := u 13) (k := 0) (x := x)).symm
  · exact (pk_un (by omega)).trans (S.2.1.trans (pk_un (f := u 13) (k := 0) (j := 1) (x := x) (by decide)).symm)
  · exact (pk_un (by omega)).trans (S.2.2.1.trans (pk_un (f := u 13) (k := 0) (j := 2) (x := x) (by decide)).symm)
  · exact (pk_un (by omega)).trans (S.2.2.2.trans (pk_un (f := u 13) (k := 0) (j := 3) (x := x) (by decide)).symm)
  · exact (pk_un (by omega)).trans (W i hi).1
  · exact (pk_un (by omega)).trans (W i hi).2.1
  · exact (pk_un (by omega)).trans (W i hi).2.2
  · rw [pk_un (by omega)]; exact M.1 a ha
  · rw [pk_un (by omega)]; exact M.2 a k ha hk
theorem qR_s1 {u : PS} {s : Nat → Int32}  {x : Int32} (h : qR u s) : qR (wr u 13 1 x) (upd s 4 x) := by
  obtain ⟨L, V, P, D, E, S, W, M⟩ := h
  refine ⟨fun w hw => ?_, fun w hw hl => ?_, fun w k hw hk hl => ?_, fun p hp => ?_, fun i hi => ?_, ⟨?_, ?_, ?_, ?_⟩, fun i hi => ⟨?_, ?_, ?_⟩, fun a ha => ?_, fun a k ha hk => ?_⟩
  · rw [pk_un (by omega)]; exact L w hw
  · obtain ⟨a1, a2, a3, a4, a5, a6⟩ := V w hw hl
    exact ⟨(pk_un (by omega)).trans a1, (pk_un (by omega)).trans a2, (pk_un (by omega)).trans a3, (pk_un (by omega)).trans a4, (pk_un (by omega)).trans a5, (pk_un (by omega)).trans a6⟩
  · exact (pk_un (by omega)).trans (P w k hw hk hl)
  · exact (pk_un (by omega)).trans (D p hp)
  · exact (pk_un (by omega)).trans (E i hi)
  · exact (pk_un (by omega)).trans (S.1.trans (pk_un (f := u 13) (k := 1) (j := 0) (x := x) (by decide)).symm)
  · exact pk_us.trans (pk_us (f := u 13) (k := 1) (x := x)).symm
  · exact (pk_un (by omega)).trans (S.2.2.1.trans (pk_un (f := u 13) (k := 1) (j := 2) (x := x) (by decide)).symm)
  · exact (pk_un (by omega)).trans (S.2.2.2.trans (pk_un (f := u 13) (k := 1) (j := 3) (x := x) (by decide)).symm)
  · exact (pk_un (by omega)).trans (W i hi).1
  · exact (pk_un (by omega)).trans (W i hi).2.1
  · exact (pk_un (by omega)).trans (W i hi).2.2
  · rw [pk_un (by omega)]; exact M.1 a ha
  · rw [pk_un (by omega)]; exact M.2 a k ha hk
theorem qR_s2 {u : PS} {s : Nat → Int32}  {x : Int32} (h : qR u s) : qR (wr u 13 2 x) (upd s 5 x) := by
  obtain ⟨L, V, P, D, E, S, W, M⟩ := h
  refine ⟨fun w hw => ?_, fun w hw hl => ?_, fun w k hw hk hl => ?_, fun p hp => ?_, fun i hi => ?_, ⟨?_, ?_, ?_, ?_⟩, fun i hi => ⟨?_, ?_, ?_⟩, fun a ha => ?_, fun a k ha hk => ?_⟩
  · rw [pk_un (by omega)]; exact L w hw
  · obtain ⟨a1, a2, a3, a4, a5, a6⟩ := V w hw hl
    exact ⟨(pk_un (by omega)).trans a1, (pk_un (by omega)).trans a2, (pk_un (by omega)).trans a3, (pk_un (by omega)).trans a4, (pk_un (by omega)).trans a5, (pk_un (by omega)).trans a6⟩
  · exact (pk_un (by omega)).trans (P w k hw hk hl)
  · exact (pk_un (by omega)).trans (D p hp)
  · exact (pk_un (by omega)).trans (E i hi)
  · exact (pk_un (by omega)).trans (S.1.trans (pk_un (f := u 13) (k := 2) (j := 0) (x := x) (by decide)).symm)
  · exact (pk_un (by omega)).trans (S.2.1.trans (pk_un (f := u 13) (k := 2) (j := 1) (x := x) (by decide)).symm)
  · exact pk_us.trans (pk_us (f := u 13) (k := 2) (x := x)).symm
  · exact (pk_un (by omega)).trans (S.2.2.2.trans (pk_un (f := u 13) (k := 2) (j := 3) (x := x) (by decide)).symm)
  · exact (pk_un (by omega)).trans (W i hi).1
  · exact (pk_un (by omega)).trans (W i hi).2.1
  · exact (pk_un (by omega)).trans (W i hi).2.2
  · rw [pk_un (by omega)]; exact M.1 a ha
  · rw [pk_un (by omega)]; exact M.2 a k ha hk
theorem qR_s3 {u : PS} {s : Nat → Int32}  {x : Int32} (h : qR u s) : qR (wr u 13 3 x) (upd s 6 x) := by
  obtain ⟨L, V, P, D, E, S, W, M⟩ := h
  refine ⟨fun w hw => ?_, fun w hw hl => ?_, fun w k hw hk hl => ?_, fun p hp => ?_, fun i hi => ?_, ⟨?_, ?_, ?_, ?_⟩, fun i hi => ⟨?_, ?_, ?_⟩, fun a ha => ?_, fun a k ha hk => ?_⟩
  · rw [pk_un (by omega)]; exact L w hw
  · obtain ⟨a1, a2, a3, a4, a5, a6⟩ := V w hw hl
    exact ⟨(pk_un (by omega)).trans a1, (pk_un (by omega)).trans a2, (pk_un (by omega)).trans a3, (pk_un (by omega)).trans a4, (pk_un (by omega)).trans a5, (pk_un (by omega)).trans a6⟩
  · exact (pk_un (by omega)).trans (P w k hw hk hl)
  · exact (pk_un (by omega)).trans (D p hp)
  · exact (pk_un (by omega)).trans (E i hi)
  · exact (pk_un (by omega)).trans (S.1.trans (pk_un (f := u 13) (k := 3) (j := 0) (x := x) (by decide)).symm)
  · exact (pk_un (by omega)).trans (S.2.1.trans (pk_un (f := u 13) (k := 3) (j := 1) (x := x) (by decide)).symm)
  · exact (pk_un (by omega)).trans (S.2.2.1.trans (pk_un (f := u 13) (k := 3) (j := 2) (x := x) (by decide)).symm)
  · exact pk_us.trans (pk_us (f := u 13) (k := 3) (x := x)).symm
  · exact (pk_un (by omega)).trans (W i hi).1
  · exact (pk_un (by omega)).trans (W i hi).2.1
  · exact (pk_un (by omega)).trans (W i hi).2.2
  · rw [pk_un (by omega)]; exact M.1 a ha
  · rw [pk_un (by omega)]; exact M.2 a k ha hk
theorem qR_spot {u : PS} {s : Nat → Int32} {v k0 : Nat} (hv : v < 8) (hk0 : k0 < 40) {x : Int32} (hx : x.toInt < 30) (h : qR u s) : qR (wr u 6 (40 * v + k0) x) (upd s (74 + 47 * v + k0) x) := by
  obtain ⟨L, V, P, D, E, S, W, M⟩ := h
  refine ⟨fun w hw => ?_, fun w hw hl => ?_, fun w k hw hk hl => ?_, fun p hp => ?_, fun i hi => ?_, ⟨?_, ?_, ?_, ?_⟩, fun i hi => ⟨?_, ?_, ?_⟩, fun a ha => ?_, fun a k ha hk => ?_⟩
  · rw [pk_un (by omega)]; exact L w hw
  · obtain ⟨a1, a2, a3, a4, a5, a6⟩ := V w hw hl
    exact ⟨(pk_un (by omega)).trans a1, (pk_un (by omega)).trans a2, (pk_un (by omega)).trans a3, (pk_un (by omega)).trans a4, (pk_un (by omega)).trans a5, (pk_un (by omega)).trans a6⟩
  · by_cases e : w = v ∧ k = k0
    · obtain ⟨e1, e2⟩ := e; subst e1; subst e2; rw [pk_us]; exact (pk_us (f := u 6)).symm
    · rw [pk_un (by omega)]; exact (P w k hw hk hl).trans (pk_un (f := u 6) (by omega)).symm
  · exact (pk_un (by omega)).trans (D p hp)
  · exact (pk_un (by omega)).trans (E i hi)
  · exact (pk_un (by omega)).trans S.1
  · exact (pk_un (by omega)).trans S.2.1
  · exact (pk_un (by omega)).trans S.2.2.1
  · exact (pk_un (by omega)).trans S.2.2.2
  · exact (pk_un (by omega)).trans (W i hi).1
  · exact (pk_un (by omega)).trans (W i hi).2.1
  · exact (pk_un (by omega)).trans (W i hi).2.2
  · rw [pk_un (by omega)]; exact M.1 a ha
  · by_cases e : a = v ∧ k = k0
    · obtain ⟨e1, e2⟩ := e; subst e1; subst e2; rw [pk_us]; exact hx
    · rw [pk_un (by omega)]; exact M.2 a k ha hk
theorem qR_s {u : PS} {s t : Nat → Int32} (e : ∀ k, k < 443 → t k = s k) (h : qR u s) : qR u t := by
  obtain ⟨L, V, P, D, E, S, W, M⟩ := h
  refine ⟨fun w hw => ?_, fun w hw hl => ?_, fun w k hw hk hl => ?_, fun p hp => ?_, fun i hi => ?_, ⟨?_, ?_, ?_, ?_⟩, fun i hi => ⟨?_, ?_, ?_⟩, fun a ha => ?_, fun a k ha hk => ?_⟩
  · rw [e _ (by omega)]; exact L w hw
  · obtain ⟨a1, a2, a3, a4, a5, a6⟩ := V w hw hl
    exact ⟨(e _ (by omega)).trans a1, (e _ (by omega)).trans a2, (e _ (by omega)).trans a3, (e _ (by omega)).trans a4, (e _ (by omega)).trans a5, (e _ (by omega)).trans a6⟩
  · exact (e _ (by omega)).trans (P w k hw hk hl)
  · exact (e _ (by omega)).trans (D p hp)
  · exact (e _ (by omega)).trans (E i hi)
  · exact (e _ (by omega)).trans S.1
  · exact (e _ (by omega)).trans S.2.1
  · exact (e _ (by omega)).trans S.2.2.1
  · exact (e _ (by omega)).trans S.2.2.2
  · exact (e _ (by omega)).trans (W i hi).1
  · exact (e _ (by omega)).trans (W i hi).2.1
  · exact (e _ (by omega)).trans (W i hi).2.2
  · rw [e _ (by omega)]; exact M.1 a ha
  · rw [e _ (by omega)]; exact M.2 a k ha hk
theorem RI_s {u : PS} {s t : Nat → Int32} (e : ∀ k, k < 443 → t k = s k) (h : RI u s) : RI u t := ⟨qR_s e h.1, h.2⟩
/-- manners -/
theorem RI_man {u : PS} {s : Nat → Int32} {v : Nat} {x : Int32} (hv : v < 8) (hx : vp_in x 101) (h : RI u s) : RI (wr u 1 v x) (upd s (69 + 47 * v) x) := by
  refine ⟨qR_f1 hv h.1, h.iS, h.iP, fun w hw => ?_, h.iQ, h.iA, h.iT, h.iO, h.iF, h.iK⟩
  show vp_in (upd (u 1) v x w) 101
  by_cases e : w = v
  · subst e; rw [pk_us]; exact hx
  · rw [pk_un e]; exact h.iM w hw
/-- promises -/
theorem prs_wr {u : PS} {v : Nat} {x : Int32} (hv : v < 8) : prs (wr u 2 v x) + (u 2 v).toNatClampNeg = prs u + x.toNatClampNeg := by
  have := sm_one (g := fun w => (wr u 2 v x 2 w).toNatClampNeg) (h := fun w => (u 2 w).toNatClampNeg) v 8 0 (Nat.zero_le _) (by omega) (fun k _ _ k3 => by
    show (upd (u 2) v x k).toNatClampNeg = _
    rw [pk_un k3])
  have e : (wr u 2 v x 2 v).toNatClampNeg = x.toNatClampNeg := by
    show (upd (u 2) v x v).toNatClampNeg = _
    rw [pk_us]
  rw [e] at this
  exact this
theorem RI_pro {u : PS} {s : Nat → Int32} {v : Nat} {x : Int32} (hv : v < 8) (hl : 0 < u 0 v) (hx : vp_in x 31) (hf : prs u + x.toNatClampNeg ≤ fre u + (u 2 v).toNatClampNeg) (h : RI u s) : RI (wr u 2 v x) (upd s (70 + 47 * v) x) := by
  refine ⟨qR_f2 hv h.1, h.iS, h.iP, h.iM, fun w hw => ?_, h.iA, h.iT, h.iO, ?_, h.iK⟩
  · show vp_in (upd (u 2) v x w) 31 ∧ (u 0 w = 0 → upd (u 2) v x w = 0)
    by_cases e : w = v
    · subst e; rw [pk_us]
      exact ⟨hx, fun q => by rw [q] at hl; exact absurd hl (by decide)⟩
    · rw [pk_un e]; exact h.iQ w hw
  · show prs (wr u 2 v x) ≤ fre u
    have := prs_wr (u := u) (x := x) hv
    omega
theorem RI_nog {u : PS} {s : Nat → Int32} {v : Nat} {x : Int32} (hv : v < 8) (h : RI u s) : RI (wr u 4 v x) (upd s (72 + 47 * v) x) := ⟨qR_f4 hv h.1, h.iS, h.iP, h.iM, h.iQ, h.iA, h.iT, h.iO, h.iF, h.iK⟩
theorem RI_got {u : PS} {s : Nat → Int32} {v : Nat} {x : Int32} (hv : v < 8) (h : RI u s) : RI (wr u 5 v x) (upd s (73 + 47 * v) x) := ⟨qR_f5 hv h.1, h.iS, h.iP, h.iM, h.iQ, h.iA, h.iT, h.iO, h.iF, h.iK⟩
theorem RI_val {u : PS} {s : Nat → Int32} {v : Nat} {x : Int32} (hv : v < 30) (h : RI u s) : RI (wr u 7 v x) (upd s (7 + v) x) := ⟨qR_val hv h.1, h.iS, h.iP, h.iM, h.iQ, h.iA, h.iT, h.iO, h.iF, h.iK⟩
theorem RI_set {u : PS} {s : Nat → Int32} {v : Nat} {x : Int32} (hv : v < 3) (hx : vp_in x 101) (h : RI u s) : RI (wr u 9 v x) (upd s v x) := by
  refine ⟨qR_set hv h.1, h.iS, h.iP, h.iM, h.iQ, h.iA, h.iT, h.iO, h.iF, h.iK.1, fun j hj => ?_⟩
  show vp_in (upd (u 9) v x j) 101
  by_cases e : j = v
  · rw [e, pk_us]; exact hx
  · rw [pk_un e]; exact h.iK.2 j hj
theorem RI_s0 {u : PS} {s : Nat → Int32} {x : Int32} (h : RI u s) : RI (wr u 13 0 x) (upd s 3 x) := ⟨qR_s0 h.1, h.iS, h.iP, h.iM, h.iQ, h.iA, h.iT, h.iO, h.iF, h.iK⟩
theorem RI_s1 {u : PS} {s : Nat → Int32} {x : Int32} (h : RI u s) : RI (wr u 13 1 x) (upd s 4 x) := ⟨qR_s1 h.1, h.iS, h.iP, h.iM, h.iQ, h.iA, h.iT, h.iO, h.iF, h.iK⟩
theorem RI_s2 {u : PS} {s : Nat → Int32} {x : Int32} (h : RI u s) : RI (wr u 13 2 x) (upd s 5 x) := ⟨qR_s2 h.1, h.iS, h.iP, h.iM, h.iQ, h.iA, h.iT, h.iO, h.iF, h.iK⟩
