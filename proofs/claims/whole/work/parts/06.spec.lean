/-! THE MATHEMATICAL STATE: numbers by key and place.
0 parishes, 1 county, 2 roads, 3 from, 4 to, 5 hours, 6 shut, 7 exit, 8 start (0 none), 9 facts, 10 kind, 11 of, 12 hour, 13 struck, 14 value (0 none), 15 blur, 16 persons, 17 home, 18 number (6 p + k), 19 tape size, 20 sign, 21 acts, 22 asks, 23 letter (10 a + k), 24 comparison, 25 number, 26 weight, 27 claims, 28 claim's parish, 29 claim's hour, 30 rows, 31 row -/
abbrev hM : Type := Nat → Nat → Nat
def hu (u : hM) (k i c : Nat) : hM := fun k1 i1 => if k1 = k ∧ i1 = i then c else u k1 i1
theorem hu_self {u : hM} {k i c : Nat} : hu u k i c k i = c := by simp [hu]
theorem hu_key {u : hM} {k i c k1 : Nat} (h : k1 ≠ k) : hu u k i c k1 = u k1 := by funext i1; simp [hu, h]
theorem hu_ix {u : hM} {k i c i1 : Nat} (h : i1 ≠ i) : hu u k i c k i1 = u k i1 := by simp [hu, h]
def hst : Nat → Int32
  | 0 => -1
  | s + 1 => nI s
def tX : List (Nat × Nat) := [(4, 1), (6, 3), (7, 4), (8, 5), (9, 6), (11, 10), (12, 11), (13, 12), (14, 13), (24, 15), (25, 17), (28, 20), (32, 29)]
def sX : List (Nat × Nat × Nat) := [(3, 6, 0), (3, 7, 2), (10, 4, 9), (21, 3, 16), (27, 1, 19), (29, 4, 21), (29, 5, 27), (66, 1, 30)]
def tM : List (Nat × Nat) := [(69, 1), (70, 7), (71, 3), (72, 4), (73, 5), (74, 6), (76, 10), (77, 11), (78, 12), (79, 13), (85, 15), (86, 17), (87, 18), (88, 20), (94, 28), (95, 29)]
def sM : List (Nat × Nat × Nat) := [(68, 1, 0), (68, 4, 2), (68, 11, 9), (68, 23, 16), (68, 27, 19), (68, 28, 21), (68, 36, 27), (68, 18, 30)]
/-- the plain part of a side -/
def rT (T : List (Nat × Nat)) (Sc : List (Nat × Nat × Nat)) (u : hM) (z : mv_Z) : Prop := (∀ q ∈ T, z.1 q.1 = fun i => nI (u q.2 i)) ∧ ∀ q ∈ Sc, z.1 q.1 q.2.1 = nI (u q.2.2 0)
/-- the tables are one to one -/
def rOk (T : List (Nat × Nat)) (Sc : List (Nat × Nat × Nat)) : Bool := T.all (fun a => T.all (fun b => (a.1 == b.1) == (a.2 == b.2)) && Sc.all (fun b => a.1 != b.1 && a.2 != b.2.2)) && Sc.all (fun a => Sc.all (fun b => (a.1 == b.1 && a.2.1 == b.2.1) == (a.2.2 == b.2.2)))
theorem rOkX : rOk tX sX = true := by decide +kernel
theorem rOkM : rOk tM sM = true := by decide +kernel
theorem rT_arr {T : List (Nat × Nat)} {Sc : List (Nat × Nat × Nat)} (ok : rOk T Sc = true) {u : hM} {z : mv_Z} (h : rT T Sc u z) {cell key : Nat} (hc : (cell, key) ∈ T) (i c : Nat) : rT T Sc (hu u key i c) (mv_u z cell i (nI c)) := by
  simp only [rOk, Bool.and_eq_true, List.all_eq_true] at ok
  refine ⟨fun q hq => ?_, fun q hq => ?_⟩
  · have hk := (ok.1 _ hc).1 q hq
    by_cases e : q.1 = cell
    · have e2 : q.2 = key := by simp [e] at hk; exact hk.symm
      rw [e, e2]
      funext j
      have := h.1 _ hc
      simp only [mv_u, va_up, upd, if_true]
      by_cases hj : j = i
      · subst hj; simp [hu]
      · simp only [hj, if_false, hu, and_false]
        rw [this]
    · have e2 : q.2 ≠ key := by
        intro e2
        have e3 : ¬ cell = q.1 := fun e4 => e e4.symm
        simp [e2, e3] at hk
      rw [hu_key e2]
      simp only [mv_u, va_up, e, if_false]
      exact h.1 q hq
  · have hk := (ok.1 _ hc).2 q hq
    simp only [Bool.and_eq_true, bne_iff_ne, ne_eq] at hk
    have e : ¬ q.1 = cell := fun e => hk.1 e.symm
    have e2 : q.2.2 ≠ key := fun e => hk.2 e.symm
    rw [hu_key e2]
    simp only [mv_u, va_up, e, if_false]
    exact h.2 q hq
theorem rT_sc {T : List (Nat × Nat)} {Sc : List (Nat × Nat × Nat)} (ok : rOk T Sc = true) {u : hM} {z : mv_Z} (h : rT T Sc u z) {cell slot key : Nat} (hc : (cell, slot, key) ∈ Sc) (c : Nat) : rT T Sc (hu u key 0 c) (mv_u z cell slot (nI c)) := by
  simp only [rOk, Bool.and_eq_true, List.all_eq_true] at ok
  refine ⟨fun q hq => ?_, fun q hq => ?_⟩
  · have hk := (ok.1 q hq).2 _ hc
    simp only [Bool.and_eq_true, bne_iff_ne, ne_eq] at hk
    rw [hu_key hk.2]
    simp only [mv_u, va_up, hk.1, if_false]
    exact h.1 q hq
  · have hk := ok.2 _ hc q hq
    by_cases e : q.1 = cell
    · by_cases e1 : q.2.1 = slot
      · have e2 : q.2.2 = key := by simp [e, e1] at hk; exact hk.symm
        rw [e, e1, e2]
        simp [mv_u, va_up, upd, hu]
      · have e2 : q.2.2 ≠ key := by
          intro e2
          have e3 : ¬ slot = q.2.1 := fun e4 => e1 e4.symm
          simp [e2, e3] at hk
        rw [hu_key e2, e]
        simp only [mv_u, va_up, upd, if_true, e1, if_false]
        rw [← e]; exact h.2 q hq
    · have e2 : q.2.2 ≠ key := by
        intro e2
        have e3 : ¬ cell = q.1 := fun e4 => e e4.symm
        simp [e2, e3] at hk
      rw [hu_key e2]
      simp only [mv_u, va_up, e, if_false]
      exact h.2 q hq
/-- what isn't of the side's plain part may change -/
theorem rT_out {T : List (Nat × Nat)} {Sc : List (Nat × Nat × Nat)} {u : hM} {z : mv_Z} (h : rT T Sc u z) (cell i : Nat) (x : Int32) (h1 : ∀ q ∈ T, q.1 ≠ cell) (h2 : ∀ q ∈ Sc, ¬ (q.1 = cell ∧ q.2.1 = i)) : rT T Sc u (mv_u z cell i x) := by
  refine ⟨fun q hq => ?_, fun q hq => ?_⟩
  · simp only [mv_u, va_up, h1 q hq, if_false]; exact h.1 q hq
  · simp only [mv_u, va_up]
    by_cases e : q.1 = cell
    · have := h2 q hq
      have e1 : ¬ q.2.1 = i := fun e1 => this ⟨e, e1⟩
      simp only [e, if_true, upd, e1, if_false]
      rw [← e]; exact h.2 q hq
    · simp only [e, if_false]; exact h.2 q hq
theorem rT_keys {T : List (Nat × Nat)} {Sc : List (Nat × Nat × Nat)} {u u1 : hM} {z : mv_Z} (h : rT T Sc u z) (h1 : ∀ q ∈ T, u1 q.2 = u q.2) (h2 : ∀ q ∈ Sc, u1 q.2.2 0 = u q.2.2 0) : rT T Sc u1 z := ⟨fun q hq => by rw [h1 q hq]; exact h.1 q hq, fun q hq => by rw [h2 q hq]; exact h.2 q hq⟩
/-- bits of an int -/
def hbit (x : Int32) (i : Nat) : Bool := x.toBitVec.getLsbD i
/-- the class' side -/
def rX (u : hM) (z : mv_Z) : Prop := rT tX sX u z ∧ (∀ p, p < 32 → hbit (z.1 3 8) p = (decide (p < 24) && decide (u 7 p = 1))) ∧ z.1 3 9 = hst (u 8 0) ∧ (z.1 23 = fun k => hst (u 14 k)) ∧ (∀ p, p < 30 → z.1 26 p = nI (u 18 (6 * p) * 33554432 + u 18 (6 * p + 1) * 1048576 + u 18 (6 * p + 2) * 32768 + u 18 (6 * p + 3) * 1024 + u 18 (6 * p + 4) * 32 + u 18 (6 * p + 5))) ∧ (∀ a, a < u 21 0 → z.1 (34 + 4 * a) 3 = nI (u 22 a) ∧ z.1 (34 + 4 * a) 4 = nI (u 26 a) ∧ ∀ k, k < u 22 a → z.1 (35 + 4 * a) k = nI (u 23 (10 * a + k)) ∧ z.1 (36 + 4 * a) k = nI (u 24 (10 * a + k)) ∧ z.1 (37 + 4 * a) k = nI (u 25 (10 * a + k))) ∧ (∀ c, c < u 27 0 → z.1 31 c = nI (u 1 (u 28 c))) ∧ (∀ i, i < u 30 0 → z.1 67 i = nI (u 31 i))
/-- the reference's side -/
def rM (u : hM) (z : mv_Z) : Prop := rT tM sM u z ∧ z.1 68 9 = hst (u 8 0) ∧ (z.1 84 = fun k => hst (u 14 k)) ∧ (∀ a, a < u 21 0 → z.1 89 a = nI (u 22 a) ∧ z.1 93 a = nI (u 26 a) ∧ ∀ k, k < u 22 a → z.1 90 (10 * a + k) = nI (u 23 (10 * a + k)) ∧ z.1 91 (10 * a + k) = nI (u 24 (10 * a + k)) ∧ z.1 92 (10 * a + k) = nI (u 25 (10 * a + k))) ∧ (∀ i, i < u 30 0 → z.1 82 i = nI (u 31 i))
/-- what holds of the numbers -/
def hI (u : hM) : Prop := u 0 0 ≤ 24 ∧ (∀ p, u 1 p < 6) ∧ u 2 0 ≤ 40 ∧ (∀ r, r < u 2 0 → u 3 r < u 0 0 ∧ u 4 r < u 0 0 ∧ u 3 r ≠ u 4 r ∧ 1 ≤ u 5 r ∧ u 5 r ≤ 12) ∧ (∀ r, u 6 r ≤ 1) ∧ (∀ p, u 7 p ≤ 1 ∧ (u 0 0 ≤ p → u 7 p = 0)) ∧ u 8 0 ≤ u 0 0 ∧ u 9 0 ≤ 40 ∧ (∀ f, f < u 9 0 → u 10 f ≤ 2 ∧ u 12 f < 48 ∧ (u 10 f < 2 → u 11 f < u 0 0) ∧ (u 10 f = 2 → u 11 f < u 2 0)) ∧ (∀ f, u 13 f ≤ 1 ∧ (u 9 0 ≤ f → u 13 f = 0)) ∧ (∀ k, u 14 k ≤ 32 ∧ u 15 k ≤ 31) ∧ u 16 0 ≤ 30 ∧ (∀ p, p < u 16 0 → u 17 p < u 0 0) ∧ (∀ k, u 18 k < 32) ∧ u 19 0 ≤ 100 ∧ (∀ i, u 20 i < 256) ∧ u 21 0 ≤ 8 ∧ (∀ a, a < u 21 0 → u 22 a ≤ 10 ∧ u 26 a ≤ 999) ∧ u 27 0 ≤ 12 ∧ (∀ c, c < u 27 0 → u 28 c < u 0 0 ∧ u 29 c < 48) ∧ u 30 0 ≤ 48 ∧ ∀ i, u 23 i < 256 ∧ u 24 i < 256 ∧ u 25 i ≤ 999 ∧ u 31 i ≤ 1000000
/-- nothing of the other side has changed -/
def fX (z z1 : mv_Z) : Prop := ∀ k, 68 ≤ k → z1.1 k = z.1 k ∧ z1.2 k = z.2 k
def fM (z z1 : mv_Z) : Prop := ∀ k, k < 68 → z1.1 k = z.1 k ∧ z1.2 k = z.2 k
theorem rM_frame {u : hM} {z z1 : mv_Z} (h : rM u z) (hf : fX z z1) : rM u z1 := by
  obtain ⟨⟨h1, h2⟩, h3, h4, h5, h6⟩ := h
  have e : ∀ k, 68 ≤ k → z1.1 k = z.1 k := fun k hk => (hf k hk).1
  refine ⟨⟨fun q hq => ?_, fun q hq => ?_⟩, ?_, ?_, ?_, ?_⟩
  · rw [e]; exact h1 q hq; revert q; decide
  · rw [e]; exact h2 q hq; revert q; decide
  · rw [e 68 (by decide)]; exact h3
  · rw [e 84 (by decide)]; exact h4
  · intro a ha; rw [e 89 (by decide), e 93 (by decide), e 90 (by decide), e 91 (by decide), e 92 (by decide)]; exact h5 a ha
  · rw [e 82 (by decide)]; exact h6
theorem rX_frame {u : hM} {z z1 : mv_Z} (h : rX u z) (hu : u 21 0 ≤ 8) (hf : fM z z1) : rX u z1 := by
  obtain ⟨⟨h1, h2⟩, h3, h4, h5, h6, h7, h8, h9⟩ := h
  have e : ∀ k, k < 68 → z1.1 k = z.1 k := fun k hk => (hf k hk).1
  refine ⟨⟨fun q hq => ?_, fun q hq => ?_⟩, ?_, ?_, ?_, ?_, ?_, ?_, ?_⟩
  · rw [e]; exact h1 q hq; revert q; decide
  · rw [e]; exact h2 q hq; revert q; decide
  · rw [e 3 (by decide)]; exact h3
  · rw [e 3 (by decide)]; exact h4
  · rw [e 23 (by decide)]; exact h5
  · rw [e 26 (by decide)]; exact h6
  · intro a ha; rw [e (34 + 4 * a) (by omega), e (35 + 4 * a) (by omega), e (36 + 4 * a) (by omega), e (37 + 4 * a) (by omega)]; exact h7 a ha
  · rw [e 31 (by decide)]; exact h8
  · rw [e 67 (by decide)]; exact h9
theorem fX_rf {z : mv_Z} : fX z z := fun _ _ => ⟨rfl, rfl⟩
theorem fX_u {z z1 : mv_Z} (h : fX z z1) {k i : Nat} {x : Int32} (hk : k < 68) : fX z (mv_u z1 k i x) := fun q hq => by
  have : ¬ q = k := by omega
  simp only [mv_u, va_up, this, if_false]; exact h q hq
theorem fX_uL {z z1 : mv_Z} (h : fX z z1) {k i : Nat} {x : Int64} (hk : k < 68) : fX z (mv_uL z1 k i x) := fun q hq => by
  have : ¬ q = k := by omega
  simp only [mv_uL, va_up, this, if_false]; exact h q hq
theorem fX_tr {z z1 z2 : mv_Z} (h : fX z z1) (h2 : fX z1 z2) : fX z z2 := fun k hk => ⟨(h2 k hk).1.trans (h k hk).1, (h2 k hk).2.trans (h k hk).2⟩
theorem fM_rf {z : mv_Z} : fM z z := fun _ _ => ⟨rfl, rfl⟩
theorem fM_u {z z1 : mv_Z} (h : fM z z1) {k i : Nat} {x : Int32} (hk : 68 ≤ k) : fM z (mv_u z1 k i x) := fun q hq => by
  have : ¬ q = k := by omega
  simp only [mv_u, va_up, this, if_false]; exact h q hq
theorem fM_tr {z z1 z2 : mv_Z} (h : fM z z1) (h2 : fM z1 z2) : fM z z2 := fun k hk => ⟨(h2 k hk).1.trans (h k hk).1, (h2 k hk).2.trans (h k hk).2⟩
theorem hst_m1 {s : Nat} (hs : s < 2 ^ 31) : hst s = -1 ↔ s = 0 := by
  cases s with
  | zero => simp [hst]
  | succ n => simp only [hst]; exact ⟨fun h => absurd h (nI_nm1 (by omega)), fun h => by omega⟩

