section
/-! reading an act: 0 state, 1 asks, 2 digits, 3 weight, 4 letter, 5 comparison, 6 number -/
def kdi (x : Nat) : Prop := 48 ≤ x ∧ x ≤ 57
abbrev kdig (x : Nat) : Prop := 48 ≤ x ∧ x ≤ 57
def kstp (c : hM) (x : Nat) : Option hM :=
  if c 0 0 = 0 then (if (x = 110 ∨ x = 104 ∨ x = 99) ∧ c 1 0 < 10 then some (hu (hu c 4 (c 1 0) x) 0 0 1) else none)
  else if c 0 0 = 1 then (if (x = 60 ∨ x = 62 ∨ x = 61) ∧ c 1 0 < 10 then some (hu (hu (hu (hu c 5 (c 1 0) x) 6 (c 1 0) 0) 2 0 0) 0 0 2) else none)
  else if c 0 0 = 2 then (if c 1 0 < 10 then (if kdig x ∧ c 2 0 < 3 then some (hu (hu c 6 (c 1 0) (c 6 (c 1 0) * 10 + x - 48)) 2 0 (c 2 0 + 1)) else if ¬ c 2 0 = 0 ∧ (x = 38 ∨ x = 58) then some (hu (hu (hu c 1 0 (c 1 0 + 1)) 2 0 0) 0 0 (if x = 38 then 0 else 3)) else none) else none)
  else (if kdig x ∧ c 2 0 < 3 then some (hu (hu c 3 0 (c 3 0 * 10 + x - 48)) 2 0 (c 2 0 + 1)) else none)
def krn (g : Nat → Nat) : Nat → Nat → hM → Nat × hM
  | 0, i, c => (i, c)
  | k + 1, i, c => match kstp c (g i) with
    | none => (i, c)
    | some c1 => krn g k (i + 1) c1
theorem hu_k {u : hM} {k i x k1 i1 : Nat} (h : ¬ (k1 = k ∧ i1 = i)) : hu u k i x k1 i1 = u k1 i1 := by simp [hu, h]
/-- what holds on the way -/
def kJ (c : hM) (i : Nat) : Prop := c 0 0 ≤ 3 ∧ c 1 0 ≤ 10 ∧ (∀ j, c 4 j < 256 ∧ c 5 j < 256 ∧ c 6 j ≤ 999) ∧ (c 0 0 = 0 → 4 * c 1 0 ≤ i ∧ c 3 0 = 0) ∧ (c 0 0 = 1 → 4 * c 1 0 + 1 ≤ i ∧ c 3 0 = 0) ∧ (c 0 0 = 2 → 4 * c 1 0 + 2 + c 2 0 ≤ i ∧ c 2 0 ≤ 3 ∧ c 6 (c 1 0) < 10 ^ c 2 0 ∧ c 3 0 = 0) ∧ (c 0 0 = 3 → c 2 0 ≤ 3 ∧ c 3 0 < 10 ^ c 2 0)
theorem k10 {d : Nat} (h : d ≤ 3) : 10 ^ d ≤ 1000 := Nat.pow_le_pow_right (n := 10) (by decide) h
theorem kJ_s {c c1 : hM} {i x : Nat} (hx : x < 256) (hi : i < 40) (h : kJ c i) (hs : kstp c x = some c1) : kJ c1 (i + 1) := by
  obtain ⟨h0, h1, h2, h3, h4, h5, h6⟩ := h
  unfold kstp at hs
  by_cases e0 : c 0 0 = 0
  · rw [if_pos e0] at hs
    by_cases q : (x = 110 ∨ x = 104 ∨ x = 99) ∧ c 1 0 < 10
    · rw [if_pos q] at hs
      obtain ⟨g1, g2⟩ := h3 e0
      cases hs
      refine ⟨by simp [hu], by simpa [hu] using h1, fun j => ?_, by simp [hu], fun _ => ?_, by simp [hu], by simp [hu]⟩
      · have := h2 j
        simp only [hu]
        refine ⟨?_, by simpa using this.2.1, by simpa using this.2.2⟩
        by_cases e : j = c 1 0 <;> simp [e] <;> first | exact hx | exact this.1
      · simp [hu]; omega
    · rw [if_neg q] at hs; cases hs
  · rw [if_neg e0] at hs
    by_cases e1 : c 0 0 = 1
    · rw [if_pos e1] at hs
      by_cases q : (x = 60 ∨ x = 62 ∨ x = 61) ∧ c 1 0 < 10
      · rw [if_pos q] at hs
        obtain ⟨g1, g2⟩ := h4 e1
        cases hs
        refine ⟨by simp [hu], by simpa [hu] using h1, fun j => ?_, by simp [hu], by simp [hu], fun _ => ?_, by simp [hu]⟩
        · have := h2 j
          simp only [hu]
          refine ⟨by simpa using this.1, ?_, ?_⟩
          · by_cases e : j = c 1 0 <;> simp [e] <;> first | exact hx | exact this.2.1
          · by_cases e : j = c 1 0 <;> simp [e]; exact this.2.2
        · simp [hu]; omega
      · rw [if_neg q] at hs; cases hs
    · rw [if_neg e1] at hs
      by_cases e2 : c 0 0 = 2
      · rw [if_pos e2] at hs
        obtain ⟨g1, g2, g3, g4⟩ := h5 e2
        by_cases q : c 1 0 < 10
        · rw [if_pos q] at hs
          by_cases qd : kdig x ∧ c 2 0 < 3
          · rw [if_pos qd] at hs
            cases hs
            have hp : 10 ^ (c 2 0 + 1) = 10 * 10 ^ c 2 0 := by rw [Nat.pow_succ, Nat.mul_comm]
            have hv : c 6 (c 1 0) * 10 + x - 48 < 10 ^ (c 2 0 + 1) := by rw [hp]; have := qd.1; omega
            have hk := k10 (d := c 2 0 + 1) (by omega)
            refine ⟨by simp [hu]; omega, by simpa [hu] using h1, fun j => ?_, by simp [hu]; omega, by simp [hu]; omega, fun _ => ?_, by simp [hu]; omega⟩
            · have := h2 j
              simp only [hu]
              refine ⟨by simpa using this.1, by simpa using this.2.1, ?_⟩
              by_cases e : j = c 1 0 <;> simp [e]
              · omega
              · exact this.2.2
            · simp [hu]
              exact ⟨by omega, by omega, hv, g4⟩
          · rw [if_neg qd] at hs
            by_cases qe : ¬ c 2 0 = 0 ∧ (x = 38 ∨ x = 58)
            · rw [if_pos qe] at hs
              cases hs
              rcases qe.2 with rfl | rfl
              · refine ⟨by simp [hu], by simp [hu]; omega, fun j => (by have := h2 j; simpa [hu] using this), by simp [hu]; omega, by simp [hu], by simp [hu], by simp [hu]⟩
              · refine ⟨by simp [hu], by simp [hu]; omega, fun j => (by have := h2 j; simpa [hu] using this), by simp [hu], by simp [hu], by simp [hu], by simp [hu]; omega⟩
            · rw [if_neg qe] at hs; cases hs
        · rw [if_neg q] at hs; cases hs
      · rw [if_neg e2] at hs
        have e3 : c 0 0 = 3 := by omega
        obtain ⟨g1, g2⟩ := h6 e3
        by_cases qd : kdig x ∧ c 2 0 < 3
        · rw [if_pos qd] at hs
          cases hs
          have hp : 10 ^ (c 2 0 + 1) = 10 * 10 ^ c 2 0 := by rw [Nat.pow_succ, Nat.mul_comm]
          have hv : c 3 0 * 10 + x - 48 < 10 ^ (c 2 0 + 1) := by rw [hp]; have := qd.1; omega
          refine ⟨by simp [hu]; omega, by simpa [hu] using h1, fun j => by have := h2 j; simpa [hu] using this, by simp [hu]; omega, by simp [hu]; omega, by simp [hu]; omega, fun _ => ?_⟩
          simp [hu]
          exact ⟨by omega, hv⟩
        · rw [if_neg qd] at hs; cases hs
theorem krn_J {g : Nat → Nat} (hg : ∀ i, g i < 256) : ∀ (k i : Nat) (c : hM), i + k ≤ 40 → kJ c i → kJ (krn g k i c).2 (krn g k i c).1 ∧ i ≤ (krn g k i c).1 ∧ (krn g k i c).1 ≤ i + k
  | 0, i, c, _, h => ⟨h, Nat.le_refl _, Nat.le_refl _⟩
  | k + 1, i, c, hk, h => by
    simp only [krn]
    cases hs : kstp c (g i) with
    | none => exact ⟨h, Nat.le_refl _, by dsimp only; omega⟩
    | some c1 =>
      have := krn_J hg k (i + 1) c1 (by omega) (kJ_s (hg i) (by omega) h hs)
      dsimp only
      exact ⟨this.1, by have := this.2.1; omega, by have := this.2.2; omega⟩
def kc0 : hM := fun _ _ => 0
theorem kJ_0 : kJ kc0 0 := ⟨Nat.zero_le _, Nat.zero_le _, fun _ => ⟨(show 0 < 256 by decide), (show 0 < 256 by decide), Nat.zero_le _⟩, fun _ => ⟨Nat.zero_le _, rfl⟩, fun h => absurd h (by decide), fun h => absurd h (by decide), fun h => absurd h (by decide)⟩
/-- what reading finds: place and act -/
def krd (u : hM) : Nat × hM := krn (u 20) (min (u 19 0) 40) 0 kc0
abbrev kacc (u : hM) : Prop := (krd u).1 = u 19 0 ∧ (krd u).2 0 0 = 3 ∧ ¬ (krd u).2 2 0 = 0
def kau (u c : hM) : hM := fun k i => if k = 19 ∧ i = 0 then 0 else if k = 21 ∧ i = 0 then u 21 0 + 1 else if k = 22 ∧ i = u 21 0 then c 1 0 else if k = 26 ∧ i = u 21 0 then c 3 0 else if (k = 23 ∨ k = 24 ∨ k = 25) ∧ 10 * u 21 0 ≤ i then c (k - 19) (i - 10 * u 21 0) else u k i
def a_act (u : hM) : Int32 := if u 21 0 = 8 then -100 else if kacc u then nI (u 21 0) else -1 - nI (krd u).1
def o_act (u : hM) : hM := if ¬ u 21 0 = 8 ∧ kacc u then kau u (krd u).2 else hu u 19 0 0
end

