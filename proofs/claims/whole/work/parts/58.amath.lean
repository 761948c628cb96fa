section
/-! reading an act: 0 state, 1 asks, 2 digits, 3 weight, 4 letter, 5 comparison, 6 number -/
def kdi (x : Nat) : Prop := 48 ≤ x ∧ x ≤ 57
abbrev kdig (x : Nat) : Prop := 48 ≤ x ∧ x ≤ 57
def kstp (c : hM) (x : Nat) : Option hM :=
  if c 0 0 = 0 then (if (x = 110 ∨ x = 104 ∨ x = 99) ∧ c 1 0 < 10 then some (hu (hu c 4 (c 1 0) x) 0 0 1) else none)
  else if c 0 0 = 1 then (if (x = 60 ∨ x = 62 ∨ x = 61) ∧ c 1 0 < 10 then some (hu (hu (hu (hu c 5 (c 1 0) x) 6 (c 1 0) 0) 2 0 0) 0 0 2) else none)
  else if c 0 0 = 2 then (if c 1 0 < 10 then (if kdig x ∧ c 2 0 < 3 then some (hu (hu c 6 (c 1 0) (c 6 (c 1 0) * 10 + x - 48)) 2 0 (c 2 0 + 1)) else if ¬ c 2 0 = 0 ∧ (x = 38 ∨ x = 58) then some (hu (hu (hu c 1 0 (c 1 0 + 1)) 2 0 0) 0 0 (if x = 38 then 0 else 3)) else none) else none)
  else (if kdig x ∧ c 2 0 < 3 then some (hu (hu c 3 0 (c 3 0 * 10 + x - 48)) 2 0 (c 2 0 + 1)) else none)
def krn (g : Nat → Nat) : Nat → Nat → hM → Nat × hM
  | 0, i, c => (i, c)
  | k + 1, i, c => match kstp c (g i) with
    | none => (i, c)
    | some c1 => krn g k (i + 1) c1
theorem hu_k {u : hM} {k i x k1 i1 : Nat} (h : ¬ (k1 = k ∧ i1 = i)) : hu u k i x k1 i1 = u k1 i1 := by simp [hu, h]
/-- what holds on the way -/
def kJ (c : hM) (i : Nat) : Prop := c 0 0 ≤ 3 ∧ c 1 0 ≤ 10 ∧ (∀ j, c 4 j < 256 ∧ c 5 j < 256 ∧ c 6 j ≤ 999) ∧ (c 0 0 = 0 → 4 * c 1 0 ≤ i ∧ c 3 0 = 0) ∧ (c 0 0 = 1 → 4 * c 1 0 + 1 ≤ i ∧ c 3 0 = 0) ∧ (c 0 0 = 2 → 4 * c 1 0 + 2 + c 2 0 ≤ i ∧ c 2 0 ≤ 3 ∧ c 6 (c 1 0) < 10 ^ c 2 0 ∧ c 3 0 = 0) ∧ (c 0 0 = 3 → c 2 0 ≤ 3 ∧ c 3 0 < 10 ^ c 2 0)
theorem k10 {d : Nat} (h : d ≤ 3) : 10 ^ d ≤ 1000 := Nat.pow_le_pow_right (n := 10) (by decide) h
theorem kJ_s {c c1 : hM} {i x : Nat} (hx : x < 256) (hi : i < 40) (h : kJ c i) (hs : kstp c x = some c1) : kJ c1 (i + 1) := by
  obtain ⟨h0, h1, h2, h3, h4, h5, h6⟩ := h
  unfold kstp at hs
  by_cases e0 : c 0 0 = 0
  · rw [if_pos e0] at hs
    by_cases q : (x = 110 ∨ x = 104 ∨ x = 99) ∧ c 1 0 < 10
    · rw [if_pos q] at hs
      obtain ⟨g1, g2⟩ := h3 e0
      cases hs
      refine ⟨by simp [hu], by simpa [hu] using h1, fun j => ?_, by simp [hu], fun _ => ?_, by simp [hu], by simp [hu]⟩
      · have := h2 j
        simp only [hu]
        refine ⟨?_, by simpa using this.2.1, by simpa using this.2.2⟩
        by_cases e : j = c 1 0 <;> simp [e] <;> first | exact hx | exact this.1
      · simp [hu]; omega
    · rw [if_neg q] at hs; cases hs
  · rw [if_neg e0] at hs
    by_cases e1 : c 0 0 = 1
    · rw [if_pos e1] at hs
      by_cases q : (x = 60 ∨ x = 62 ∨ x = 61) ∧ c 1 0 < 10
      · rw [if_pos q] at hs
        obtain ⟨g1, g2⟩ := h4 e1
        cases hs
        refine ⟨by simp [hu], by simpa [hu] using h1, fun j => ?_, by simp [hu], by simp [hu], fun _ => ?_, by simp [hu]⟩
        · have := h2 j
          simp only [hu]
          refine ⟨by simpa using this.1, ?_, ?_⟩
          · by_cases e : j = c 1 0 <;> simp [e] <;> first | exact hx | exact this.2.1
          · by_cases e : j = c 1 0 <;> simp [e]; exact this.2.2
        · simp [hu]; omega
      · rw [if_neg q] at hs; cases hs
    · rw [if_neg e1] at hs
      by_cases e2 : c 0 0 = 2
      · rw [if_pos e2] at hs
        obtain ⟨g1, g2, g3, g4⟩ := h5 e2
        by_cases q : c 1 0 < 10
        · rw [if_pos q] at hs
          by_cases qd : kdig x ∧ c 2 0 < 3
          · rw [if_pos qd] at hs
            cases hs
            have hp : 10 ^ (c 2 0 + 1) = 10 * 10 ^ c 2 0 := by rw [Nat.pow_succ, Nat.mul_comm]
            have hv : c 6 (c 1 0) * 10 + x - 48 < 10 ^ (c 2 0 + 1) := by rw [hp]; have := qd.1; omega
            have hk := k10 (d := c 2 0 + 1) (by omega)
            refine ⟨by simp [hu]; omega, by simpa [hu] using h1, fun j => ?_, by simp [hu]; omega, by simp [hu]; omega, fun _ => ?_, by simp [hu]; omega⟩
            · have := h2 j
              simp only [hu]
              refine ⟨by simpa using this.1, by simpa using this.2.1, ?_⟩
              by_cases e : j = c 1 0 <;> simp [e]
              · omega
              · exact this.2.2
            · simp [hu]
              exact ⟨by omega, by omega, hv, g4⟩
          · rw [if_neg qd] at hs
            by_cases qe : ¬ c 2 0 = 0 ∧ (x = 38 ∨ x = 58)
            · rw [if_pos qe] at hs
              cases hs
              rcases qe.2 with rfl | rfl
              · refine ⟨by simp [hu], by simp [hu]; omega, fun j => (by have := h2 j; simpa [hu] using this), by simp [hu]; omega, by simp [hu], by simp [hu], by simp [hu]⟩
              · refine ⟨by simp [hu], by simp [hu]; omega, fun j => (by have := h2 j; simpa [hu] using this), by simp [hu], by simp [hu], by simp [hu], by simp [hu]; omega⟩
            · rw [if_neg qe] at hs; cases hs
        · rw [if_neg q] at hs; cases hs
      · rw [if_neg e2] at hs
        have e3 : c 0 0 = 3 := by omega
        obtain ⟨g1, g2⟩ := h6 e3
        by_cases qd : kdig x ∧ c 2 0 < 3
        · rw [if_pos qd] at hs
          cases hs
          have hp : 10 ^ (c 2 0 + 1) = 10 * 10 ^ c 2 0 := by rw [Nat.pow_succ, Nat.mul_comm]
          have hv : c 3 0 * 10 + x - 48 < 10 ^ (c 2 0 + 1) := by rw [hp]; have := qd.1; omega
          refine ⟨by simp [hu]; omega, by simpa [hu] using h1, fun j => by have := h2 j; simpa [hu] using this, by simp [hu]; omega, by simp [hu]; omega, by simp [hu]; omega, fun _ => ?_⟩
          simp [hu]
          exact ⟨by omega, hv⟩
        · rw [if_neg qd] at hs; cases hs
theorem krn_J {g : Nat → Nat} (hg : ∀ i, g i < 256) : ∀ (k i : Nat) (c : hM), i + k ≤ 40 → kJ c i → kJ (krn g k i c).2 (krn g k i c).1 ∧ i ≤ (krn g k i c).1 ∧ (krn g k i c).1 ≤ i + k
  | 0, i, c, _, h => ⟨h, Nat.le_refl _, Nat.le_refl _⟩
  | k + 1, i, c, hk, h => by
    simp only [krn]
    cases hs : kstp c (g i) with
    | none => exact ⟨h, Nat.le_refl _, by dsimp only; omega⟩
    | some c1 =>
      have := krn_J hg k (i + 1) c1 (by omega) (kJ_s (hg i) (by omega) h hs)
      dsimp only
      exact ⟨this.1, by have := this.2.1; omega, by have := this.2.2; omega⟩
def kc0 : hM := fun _ _ => 0
theorem kJ_0 : kJ kc0 0 := ⟨Nat.zero_le _, Nat.zero_le _, fun _ => ⟨(show 0 < 256 by decide), (show 0 < 256 by decide), Nat.zero_le _⟩, fun _ => ⟨Nat.zero_le _, rfl⟩, fun h => absurd h (by decide), fun h => absurd h (by decide), fun h => absurd h (by decide)⟩
/-- what reading finds: place and act -/
def krd (u : hM) : Nat × hM := krn (u 20) (min (u 19 0) 40) 0 kc0
abbrev kacc (u : hM) : Prop := (krd u).1 = u 19 0 ∧ (krd u).2 0 0 = 3 ∧ ¬ (krd u).2 2 0 = 0
def kau0 (u c : hM) : hM := fun k i => if k = 21 ∧ i = 0 then u 21 0 + 1 else if k = 22 ∧ i = u 21 0 then c 1 0 else if k = 26 ∧ i = u 21 0 then c 3 0 else if (k = 23 ∨ k = 24 ∨ k = 25) ∧ 10 * u 21 0 ≤ i then c (k - 19) (i - 10 * u 21 0) else u k i
def kau (u c : hM) : hM := hu (kau0 u c) 19 0 0
theorem kau0_k {u c : hM} {k : Nat} (h : k < 21 ∨ 26 < k) : kau0 u c k = u k := by
  funext i
  unfold kau0
  rw [if_neg (by omega), if_neg (by omega), if_neg (by omega), if_neg (by omega)]
theorem kau0_21 {u c : hM} : kau0 u c 21 0 = u 21 0 + 1 := by simp [kau0]
theorem kau0_22 {u c : hM} {a : Nat} (h : a < u 21 0 + 1) : kau0 u c 22 a = if a = u 21 0 then c 1 0 else u 22 a := by simp [kau0]
theorem kau0_26 {u c : hM} {a : Nat} (h : a < u 21 0 + 1) : kau0 u c 26 a = if a = u 21 0 then c 3 0 else u 26 a := by simp [kau0]
theorem kau0_a {u c : hM} {k a j : Nat} (hk : k = 23 ∨ k = 24 ∨ k = 25) (ha : a < u 21 0) (hj : j < 10) : kau0 u c k (10 * a + j) = u k (10 * a + j) := by
  unfold kau0
  rw [if_neg (by omega), if_neg (by omega), if_neg (by omega), if_neg (by omega)]
theorem kau0_n {u c : hM} {k j : Nat} (hk : k = 23 ∨ k = 24 ∨ k = 25) : kau0 u c k (10 * u 21 0 + j) = c (k - 19) j := by
  unfold kau0
  rw [if_neg (by omega), if_neg (by omega), if_neg (by omega), if_pos ⟨hk, by omega⟩]
  congr 1; omega
theorem hI_au {u c : hM} {i : Nat} (hi : hI u) (h8 : ¬ u 21 0 = 8) (hc : kJ c i) (h3 : c 0 0 = 3) : hI (kau0 u c) := by
  obtain ⟨h0, h1, h2, h3', h4, h5, h6, h7, h8', h9, h10, h11, h12, h13, h14, h15, h16, h17, h18, h19, h20, h21⟩ := hi
  obtain ⟨g0, g1, g2, -, -, -, g6⟩ := hc
  obtain ⟨g7, g8⟩ := g6 h3
  have g9 := k10 g7
  unfold hI
  rw [kau0_k (k := 0) (by decide), kau0_k (k := 1) (by decide), kau0_k (k := 2) (by decide), kau0_k (k := 3) (by decide), kau0_k (k := 4) (by decide), kau0_k (k := 5) (by decide), kau0_k (k := 6) (by decide), kau0_k (k := 7) (by decide), kau0_k (k := 8) (by decide), kau0_k (k := 9) (by decide), kau0_k (k := 10) (by decide), kau0_k (k := 11) (by decide), kau0_k (k := 12) (by decide), kau0_k (k := 13) (by decide), kau0_k (k := 14) (by decide), kau0_k (k := 15) (by decide), kau0_k (k := 16) (by decide), kau0_k (k := 17) (by decide), kau0_k (k := 18) (by decide), kau0_k (k := 19) (by decide), kau0_k (k := 20) (by decide), kau0_k (k := 27) (by decide), kau0_k (k := 28) (by decide), kau0_k (k := 29) (by decide), kau0_k (k := 30) (by decide), kau0_k (k := 31) (by decide), kau0_21]
  refine ⟨h0, h1, h2, h3', h4, h5, h6, h7, h8', h9, h10, h11, h12, h13, h14, h15, by omega, fun a ha => ?_, h18, h19, h20, fun j => ?_⟩
  · rw [kau0_22 ha, kau0_26 ha]
    by_cases e : a = u 21 0
    · rw [if_pos e, if_pos e]; omega
    · rw [if_neg e, if_neg e]; exact h17 a (by omega)
  · have hj := h21 j
    refine ⟨?_, ?_, ?_, hj.2.2.2⟩
    · unfold kau0
      rw [if_neg (by omega), if_neg (by omega), if_neg (by omega)]
      split
      · exact (g2 _).1
      · exact hj.1
    · unfold kau0
      rw [if_neg (by omega), if_neg (by omega), if_neg (by omega)]
      split
      · exact (g2 _).2.1
      · exact hj.2.1
    · unfold kau0
      rw [if_neg (by omega), if_neg (by omega), if_neg (by omega)]
      split
      · exact (g2 _).2.2
      · exact hj.2.2.1
theorem hI_19 {u : hM} (hi : hI u) : hI (hu u 19 0 0) := by
  unfold hI at *
  simp only [hu, Nat.reduceEqDiff, false_and, if_false, true_and, and_self, if_true, reduceIte]
  obtain ⟨h0, h1, h2, h3, h4, h5, h6, h7, h8, h9, h10, h11, h12, h13, h14, h15, h16, h17, h18, h19, h20, h21⟩ := hi
  refine ⟨?_, ?_, ?_, ?_, ?_, ?_, ?_, ?_, ?_, ?_, ?_, ?_, ?_, ?_, ?_, ?_, ?_, ?_, ?_, ?_, ?_, ?_⟩
  all_goals first | assumption | grind
def a_act (u : hM) : Int32 := if u 21 0 = 8 then -100 else if kacc u then nI (u 21 0) else -1 - nI (krd u).1
def o_act (u : hM) : hM := if ¬ u 21 0 = 8 ∧ kacc u then kau u (krd u).2 else hu u 19 0 0
theorem krd_J {u : hM} (hi : hI u) : kJ (krd u).2 (krd u).1 ∧ (krd u).1 ≤ min (u 19 0) 40 := by
  have := krn_J (g := u 20) hi.2.2.2.2.2.2.2.2.2.2.2.2.2.2.2.1 (min (u 19 0) 40) 0 kc0 (by omega) kJ_0
  exact ⟨this.1, by have := this.2.2; unfold krd; omega⟩
theorem i_act (u : hM) (hi : hI u) : hI (o_act u) := by
  unfold o_act
  by_cases h : ¬ u 21 0 = 8 ∧ kacc u
  · rw [if_pos h]
    exact hI_19 (hI_au hi h.1 (krd_J hi).1 h.2.2.1)
  · rw [if_neg h]
    exact hI_19 hi
end

