theorem mv_u_ne {z : mv_Z} {k i q : Nat} {x : Int32} (h : ¬ q = k) : (mv_u z k i x).1 q = z.1 q := by simp only [mv_u, va_up, h, if_false]
theorem mv_u_at {z : mv_Z} {k i j : Nat} {x : Int32} (h : ¬ j = i) : (mv_u z k i x).1 k j = z.1 k j := by simp only [mv_u, va_up, if_true, upd, h, if_false]
theorem mv_u_eq {z : mv_Z} {k i : Nat} {x : Int32} : (mv_u z k i x).1 k i = x := by simp [mv_u, va_up, upd]
theorem tX_cells : ∀ q ∈ tX, q.1 < 34 ∧ q.1 ≠ 3 ∧ q.1 ≠ 23 ∧ q.1 ≠ 26 ∧ q.1 ≠ 31 := by decide
theorem tX_keys : ∀ q ∈ tX, q.2 ≠ 7 ∧ q.2 ≠ 8 ∧ q.2 ≠ 14 ∧ q.2 ≠ 18 ∧ q.2 ≠ 21 ∧ q.2 ≠ 22 ∧ q.2 ≠ 23 ∧ q.2 ≠ 24 ∧ q.2 ≠ 25 ∧ q.2 ≠ 26 ∧ q.2 ≠ 27 ∧ q.2 ≠ 28 ∧ q.2 ≠ 30 ∧ q.2 ≠ 31 := by decide
/-- a plain array of the class' side, not the counties -/
theorem rX_arr {u : hM} {z : mv_Z} (h : rX u z) (cell key i c : Nat) (hc : (cell, key) ∈ tX) (hk : key ≠ 1) : rX (hu u key i c) (mv_u z cell i (nI c)) := by
  obtain ⟨h1, h2, h3, h4, h5, h6, h7, h8⟩ := h
  obtain ⟨c1, c2, c3, c4, c5⟩ := tX_cells _ hc
  obtain ⟨k7, k8, k14, k18, k21, k22, k23, k24, k25, k26, k27, k28, k30, k31⟩ := tX_keys _ hc
  dsimp only at c1 c2 c3 c4 c5 k7 k8 k14 k18 k21 k22 k23 k24 k25 k26 k27 k28 k30 k31
  unfold rX
  rw [hu_key k7.symm, hu_key k8.symm, hu_key k14.symm, hu_key k18.symm, hu_key k21.symm, hu_key k22.symm, hu_key k23.symm, hu_key k24.symm, hu_key k25.symm, hu_key k26.symm, hu_key k27.symm, hu_key k28.symm, hu_key k30.symm, hu_key k31.symm, hu_key hk.symm]
  rw [mv_u_ne (q := 3) c2.symm, mv_u_ne (q := 23) c3.symm, mv_u_ne (q := 26) c4.symm, mv_u_ne (q := 31) c5.symm, mv_u_ne (q := 67) (by omega)]
  refine ⟨rT_arr rOkX h1 hc i c, h2, h3, h4, h5, fun a ha => ?_, h7, h8⟩
  rw [mv_u_ne (q := 34 + 4 * a) (by omega), mv_u_ne (q := 35 + 4 * a) (by omega), mv_u_ne (q := 36 + 4 * a) (by omega), mv_u_ne (q := 37 + 4 * a) (by omega)]
  exact h6 a ha
def sX0 : List (Nat × Nat × Nat) := [(3, 6, 0), (3, 7, 2), (10, 4, 9), (21, 3, 16), (27, 1, 19)]
theorem sX0_in : ∀ q ∈ sX0, q ∈ sX ∧ q.1 < 28 ∧ q.1 ≠ 23 ∧ q.1 ≠ 26 ∧ ¬ (q.1 = 3 ∧ q.2.1 = 8) ∧ ¬ (q.1 = 3 ∧ q.2.1 = 9) := by decide
theorem sX0_keys : ∀ q ∈ sX0, q.2.2 ≠ 1 ∧ q.2.2 ≠ 7 ∧ q.2.2 ≠ 8 ∧ q.2.2 ≠ 14 ∧ q.2.2 ≠ 18 ∧ q.2.2 ≠ 21 ∧ q.2.2 ≠ 22 ∧ q.2.2 ≠ 23 ∧ q.2.2 ≠ 24 ∧ q.2.2 ≠ 25 ∧ q.2.2 ≠ 26 ∧ q.2.2 ≠ 27 ∧ q.2.2 ≠ 28 ∧ q.2.2 ≠ 30 ∧ q.2.2 ≠ 31 := by decide
theorem mv_u_sl {z : mv_Z} {k i q j : Nat} {x : Int32} (h : ¬ (k = q ∧ i = j)) : (mv_u z k i x).1 q j = z.1 q j := by
  by_cases e : q = k
  · subst e
    exact mv_u_at (fun e => h ⟨rfl, e.symm⟩)
  · rw [mv_u_ne e]
theorem rX_sc {u : hM} {z : mv_Z} (h : rX u z) (cell slot key c : Nat) (hc : (cell, slot, key) ∈ sX0) : rX (hu u key 0 c) (mv_u z cell slot (nI c)) := by
  obtain ⟨h1, h2, h3, h4, h5, h6, h7, h8⟩ := h
  obtain ⟨c0, c1, c2, c3, c4, c5⟩ := sX0_in _ hc
  obtain ⟨k1, k7, k8, k14, k18, k21, k22, k23, k24, k25, k26, k27, k28, k30, k31⟩ := sX0_keys _ hc
  dsimp only at c0 c1 c2 c3 c4 c5 k1 k7 k8 k14 k18 k21 k22 k23 k24 k25 k26 k27 k28 k30 k31
  unfold rX
  rw [hu_key k1.symm, hu_key k7.symm, hu_key k8.symm, hu_key k14.symm, hu_key k18.symm, hu_key k21.symm, hu_key k22.symm, hu_key k23.symm, hu_key k24.symm, hu_key k25.symm, hu_key k26.symm, hu_key k27.symm, hu_key k28.symm, hu_key k30.symm, hu_key k31.symm]
  rw [mv_u_sl c4, mv_u_sl c5, mv_u_ne (q := 23) c2.symm, mv_u_ne (q := 26) c3.symm, mv_u_ne (q := 31) (by omega), mv_u_ne (q := 67) (by omega)]
  refine ⟨rT_sc rOkX h1 c0 c, h2, h3, h4, h5, fun a ha => ?_, h7, h8⟩
  rw [mv_u_ne (q := 34 + 4 * a) (by omega), mv_u_ne (q := 35 + 4 * a) (by omega), mv_u_ne (q := 36 + 4 * a) (by omega), mv_u_ne (q := 37 + 4 * a) (by omega)]
  exact h6 a ha
/-- cells that are no part of the class' side: what a method uses for itself -/
theorem rX_free {u : hM} {z : mv_Z} (h : rX u z) (cell i : Nat) (x : Int32) (hu8 : u 21 0 ≤ 8) (hc : cell ∈ [1, 5, 15, 17, 18, 19, 20, 33]) : rX u (mv_u z cell i x) := by
  obtain ⟨h1, h2, h3, h4, h5, h6, h7, h8⟩ := h
  have e : ∀ c ∈ [1, 5, 15, 17, 18, 19, 20, 33], c < 34 ∧ c ≠ 3 ∧ c ≠ 23 ∧ c ≠ 26 ∧ c ≠ 31 ∧ (∀ q ∈ tX, q.1 ≠ c) ∧ ∀ q ∈ sX, q.1 ≠ c := by decide
  obtain ⟨c1, c2, c3, c4, c5, c6, c7⟩ := e _ hc
  unfold rX
  rw [mv_u_ne (q := 3) c2.symm, mv_u_ne (q := 23) c3.symm, mv_u_ne (q := 26) c4.symm, mv_u_ne (q := 31) c5.symm, mv_u_ne (q := 67) (by omega)]
  refine ⟨rT_out h1 cell i x c6 (fun q hq hh => c7 q hq hh.1), h2, h3, h4, h5, fun a ha => ?_, h7, h8⟩
  rw [mv_u_ne (q := 34 + 4 * a) (by omega), mv_u_ne (q := 35 + 4 * a) (by omega), mv_u_ne (q := 36 + 4 * a) (by omega), mv_u_ne (q := 37 + 4 * a) (by omega)]
  exact h6 a ha
theorem tM_cells : ∀ q ∈ tM, 68 < q.1 ∧ q.1 ≠ 84 ∧ q.1 ≠ 89 ∧ q.1 ≠ 90 ∧ q.1 ≠ 91 ∧ q.1 ≠ 92 ∧ q.1 ≠ 93 ∧ q.1 ≠ 82 := by decide
theorem tM_keys : ∀ q ∈ tM, q.2 ≠ 8 ∧ q.2 ≠ 14 ∧ q.2 ≠ 21 ∧ q.2 ≠ 22 ∧ q.2 ≠ 23 ∧ q.2 ≠ 24 ∧ q.2 ≠ 25 ∧ q.2 ≠ 26 ∧ q.2 ≠ 30 ∧ q.2 ≠ 31 := by decide
theorem rM_arr {u : hM} {z : mv_Z} (h : rM u z) (cell key i c : Nat) (hc : (cell, key) ∈ tM) : rM (hu u key i c) (mv_u z cell i (nI c)) := by
  obtain ⟨h1, h3, h4, h6, h8⟩ := h
  obtain ⟨c1, c2, c3, c4, c5, c6, c7, c8⟩ := tM_cells _ hc
  obtain ⟨k8, k14, k21, k22, k23, k24, k25, k26, k30, k31⟩ := tM_keys _ hc
  dsimp only at c1 c2 c3 c4 c5 c6 c7 c8 k8 k14 k21 k22 k23 k24 k25 k26 k30 k31
  unfold rM
  rw [hu_key k8.symm, hu_key k14.symm, hu_key k21.symm, hu_key k22.symm, hu_key k23.symm, hu_key k24.symm, hu_key k25.symm, hu_key k26.symm, hu_key k30.symm, hu_key k31.symm]
  rw [mv_u_ne (q := 68) (by omega), mv_u_ne (q := 84) c2.symm, mv_u_ne (q := 89) c3.symm, mv_u_ne (q := 90) c4.symm, mv_u_ne (q := 91) c5.symm, mv_u_ne (q := 92) c6.symm, mv_u_ne (q := 93) c7.symm, mv_u_ne (q := 82) c8.symm]
  exact ⟨rT_arr rOkM h1 hc i c, h3, h4, h6, h8⟩
def sM0 : List (Nat × Nat × Nat) := [(68, 1, 0), (68, 4, 2), (68, 11, 9), (68, 23, 16), (68, 27, 19), (68, 36, 27)]
theorem sM0_in : ∀ q ∈ sM0, q ∈ sM ∧ q.1 = 68 ∧ ¬ (q.1 = 68 ∧ q.2.1 = 9) := by decide
theorem sM0_keys : ∀ q ∈ sM0, q.2.2 ≠ 8 ∧ q.2.2 ≠ 14 ∧ q.2.2 ≠ 21 ∧ q.2.2 ≠ 22 ∧ q.2.2 ≠ 23 ∧ q.2.2 ≠ 24 ∧ q.2.2 ≠ 25 ∧ q.2.2 ≠ 26 ∧ q.2.2 ≠ 30 ∧ q.2.2 ≠ 31 := by decide
theorem rM_sc {u : hM} {z : mv_Z} (h : rM u z) (slot key c : Nat) (hc : (68, slot, key) ∈ sM0) : rM (hu u key 0 c) (mv_u z 68 slot (nI c)) := by
  obtain ⟨h1, h3, h4, h6, h8⟩ := h
  obtain ⟨c0, -, c4⟩ := sM0_in _ hc
  obtain ⟨k8, k14, k21, k22, k23, k24, k25, k26, k30, k31⟩ := sM0_keys _ hc
  dsimp only at c0 c4 k8 k14 k21 k22 k23 k24 k25 k26 k30 k31
  unfold rM
  rw [hu_key k8.symm, hu_key k14.symm, hu_key k21.symm, hu_key k22.symm, hu_key k23.symm, hu_key k24.symm, hu_key k25.symm, hu_key k26.symm, hu_key k30.symm, hu_key k31.symm]
  rw [mv_u_sl c4, mv_u_ne (q := 84) (by omega), mv_u_ne (q := 89) (by omega), mv_u_ne (q := 90) (by omega), mv_u_ne (q := 91) (by omega), mv_u_ne (q := 92) (by omega), mv_u_ne (q := 93) (by omega), mv_u_ne (q := 82) (by omega)]
  exact ⟨rT_sc rOkM h1 c0 c, h3, h4, h6, h8⟩
/-- cells and slots that the reference uses for itself: away, might, goes, back; thrown, at, number -/
theorem rM_free {u : hM} {z : mv_Z} (h : rM u z) (cell i : Nat) (x : Int32) (hc : cell ∈ [75, 80, 81, 83] ∨ (cell = 68 ∧ i ∈ [0, 34, 35])) : rM u (mv_u z cell i x) := by
  obtain ⟨h1, h3, h4, h6, h8⟩ := h
  have e1 : ∀ c ∈ [75, 80, 81, 83], c ≠ 68 ∧ c ≠ 84 ∧ c ≠ 89 ∧ c ≠ 90 ∧ c ≠ 91 ∧ c ≠ 92 ∧ c ≠ 93 ∧ c ≠ 82 ∧ (∀ q ∈ tM, q.1 ≠ c) ∧ ∀ q ∈ sM, q.1 ≠ c := by decide
  have e2 : ∀ i ∈ [0, 34, 35], i ≠ 9 ∧ (∀ q ∈ tM, q.1 ≠ 68) ∧ ∀ q ∈ sM, ¬ (q.1 = 68 ∧ q.2.1 = i) := by decide
  unfold rM
  rcases hc with hc | ⟨rfl, hc⟩
  · obtain ⟨c1, c2, c3, c4, c5, c6, c7, c8, c9, c10⟩ := e1 _ hc
    rw [mv_u_ne (q := 68) c1.symm, mv_u_ne (q := 84) c2.symm, mv_u_ne (q := 89) c3.symm, mv_u_ne (q := 90) c4.symm, mv_u_ne (q := 91) c5.symm, mv_u_ne (q := 92) c6.symm, mv_u_ne (q := 93) c7.symm, mv_u_ne (q := 82) c8.symm]
    exact ⟨rT_out h1 cell i x c9 (fun q hq hh => c10 q hq hh.1), h3, h4, h6, h8⟩
  · obtain ⟨c1, c2, c3⟩ := e2 _ hc
    rw [mv_u_sl (fun e => c1 e.2), mv_u_ne (q := 84) (by decide), mv_u_ne (q := 89) (by decide), mv_u_ne (q := 90) (by decide), mv_u_ne (q := 91) (by decide), mv_u_ne (q := 92) (by decide), mv_u_ne (q := 93) (by decide), mv_u_ne (q := 82) (by decide)]
    exact ⟨rT_out h1 68 i x c2 c3, h3, h4, h6, h8⟩
/-- a call of the class, of the reference: from numbers u to numbers u1, with the answer r -/
def xR (y : Nat) (as : List Value) (u : hM) (z : mv_Z) (r : Value) (u1 : hM) : Prop := ∃ z1, mv_Runs 20 y (.ref 0 :: as) (mv_E z) (some r) (mv_E z1) ∧ rX u1 z1 ∧ fX z z1
def mR (y : Nat) (as : List Value) (u : hM) (z : mv_Z) (r : Value) (u1 : hM) : Prop := ∃ z1, mv_Runs 20 y (.ref 68 :: as) (mv_E z) (some r) (mv_E z1) ∧ rM u1 z1 ∧ fM z z1
theorem rX_s {u : hM} {z : mv_Z} (h : rX u z) (cell slot key : Nat) (hc : (cell, slot, key) ∈ sX) : z.1 cell slot = nI (u key 0) := h.1.2 _ hc
theorem rX_a {u : hM} {z : mv_Z} (h : rX u z) (cell key : Nat) (hc : (cell, key) ∈ tX) (i : Nat) : z.1 cell i = nI (u key i) := congrFun (h.1.1 _ hc) i
theorem rM_s {u : hM} {z : mv_Z} (h : rM u z) (slot key : Nat) (hc : (68, slot, key) ∈ sM) : z.1 68 slot = nI (u key 0) := h.1.2 _ hc
theorem rM_a {u : hM} {z : mv_Z} (h : rM u z) (cell key : Nat) (hc : (cell, key) ∈ tM) (i : Nat) : z.1 cell i = nI (u key i) := congrFun (h.1.1 _ hc) i

