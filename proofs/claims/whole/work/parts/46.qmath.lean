section
/-- some journey is at a parish at hour h, or on a road -/
def kY (A : Nat → Bool) (u : hM) (R G : Nat → Nat → Bool) (h : Nat) : Prop := (∃ p, R h p = true ∧ G h p = true) ∨ ∃ r left p, r < u 2 0 ∧ left < h ∧ h < left + u 5 r ∧ R left p = true ∧ kdp A u G r p left = true
theorem kR_let {A : Nat → Bool} {u : hM} {t p : Nat} (h : kR A u kW t p = true) : klet A u p t = true := by
  rw [kR_eq] at h
  unfold kst at h
  simp only [Bool.and_eq_true] at h
  exact h.1.2
theorem kG_let {A : Nat → Bool} {u : hM} {t p : Nat} (hrd : ∀ r, r < u 2 0 → 1 ≤ u 5 r) (ht : t < 48) (h : kG A u t p = true) : klet A u p t = true := by
  rw [kG_eq A u p ht hrd] at h
  unfold kgo at h
  simp only [Bool.and_eq_true] at h
  exact h.2
theorem kR_s {A : Nat → Bool} {u : hM} {t p : Nat} (ht : 1 ≤ t) : kR A u kW t p = true ↔ (kR A u kW (t - 1) p = true ∨ ∃ r, r < u 2 0 ∧ kcm A u (kR A u kW) r p t = true) ∧ klet A u p t = true := by
  rw [kR_eq]
  unfold kst
  rw [if_neg (by omega)]
  simp only [kW, Bool.not_false, Bool.and_true, Bool.and_eq_true, Bool.or_eq_true, kany_t]
theorem kG_s {A : Nat → Bool} {u : hM} {t p : Nat} (hrd : ∀ r, r < u 2 0 → 1 ≤ u 5 r) (ht : t < 47) : kG A u t p = true ↔ (kG A u (t + 1) p = true ∨ ∃ r, r < u 2 0 ∧ kdp A u (kG A u) r p t = true) ∧ klet A u p t = true := by
  rw [kG_eq A u p (by omega) hrd]
  unfold kgo
  rw [decide_eq_false (by omega), Bool.false_or]
  simp only [Bool.and_eq_true, Bool.or_eq_true, kany_t]
theorem kot_back {u : hM} {r p q : Nat} (h34 : ¬ u 3 r = u 4 r) (h : kot u r p = q + 1) : kot u r q = p + 1 := by
  unfold kot at h ⊢
  by_cases h3 : u 3 r = p
  · rw [if_pos h3] at h
    have : u 4 r = q := by omega
    rw [if_neg (by omega), if_pos this, h3]
  · rw [if_neg h3] at h
    by_cases h4 : u 4 r = p
    · rw [if_pos h4] at h
      have : u 3 r = q := by omega
      rw [if_pos this, h4]
    · rw [if_neg h4] at h; omega
theorem kclr_n {A : Nat → Bool} {u : hM} {r a b : Nat} (h : b ≤ a) : kclr A u r a b = true := kclr_t.mpr (fun t h1 h2 => by omega)
/-- a road taken at hour t, and where it comes out -/
theorem kdp_cm {A : Nat → Bool} {u : hM} {R G : Nat → Nat → Bool} {r p t : Nat} (hrd : ¬ u 3 r = u 4 r) (h1 : 1 ≤ u 5 r) (ht : t + u 5 r < 48) (hR : R t p = true) (h : kdp A u G r p t = true) : ∃ q, kcm A u R r q (t + u 5 r) = true ∧ G (t + u 5 r) q = true := by
  rw [kdp_o hrd] at h
  simp only [Bool.and_eq_true, Bool.or_eq_true, decide_eq_true_eq] at h
  obtain ⟨⟨g1, g2⟩, g3, g4⟩ := h
  obtain ⟨q, hq⟩ : ∃ q, kot u r p = q + 1 := ⟨kot u r p - 1, by omega⟩
  rw [hq, Nat.add_sub_cancel] at g4
  refine ⟨q, ?_, g4.resolve_left (by omega)⟩
  rw [kcm_o hrd, kot_back hrd hq]
  rw [Nat.min_eq_left (by omega)] at g2
  simp only [Nat.add_sub_cancel, Bool.and_eq_true, decide_eq_true_eq]
  exact ⟨⟨⟨g1, h1, by omega⟩, by omega, hR⟩, g2⟩
theorem kcm_dp {A : Nat → Bool} {u : hM} {R G : Nat → Nat → Bool} {r q t : Nat} (hrd : ¬ u 3 r = u 4 r) (ht : t < 48) (hG : G t q = true) (h : kcm A u R r q t = true) : ∃ p left, left + u 5 r = t ∧ R left p = true ∧ kdp A u G r p left = true := by
  rw [kcm_o hrd] at h
  simp only [Bool.and_eq_true, decide_eq_true_eq] at h
  obtain ⟨⟨⟨g1, g2, g3⟩, g4, g5⟩, g6⟩ := h
  obtain ⟨p, hp⟩ : ∃ p, kot u r q = p + 1 := ⟨kot u r q - 1, by omega⟩
  rw [hp, Nat.add_sub_cancel] at g5
  refine ⟨p, t - u 5 r, by omega, g5, ?_⟩
  rw [kdp_o hrd, kot_back hrd hp]
  rw [show t - u 5 r + u 5 r = t by omega, Nat.min_eq_left (by omega), g6, Nat.add_sub_cancel, hG, decide_eq_true g1]
  simp
theorem kX_s {A : Nat → Bool} {u : hM} (hi : hI u) {h : Nat} (hh : h < 47) : kY A u (kR A u kW) (kG A u) h ↔ kY A u (kR A u kW) (kG A u) (h + 1) := by
  have hrd : ∀ r, r < u 2 0 → 1 ≤ u 5 r := fun r hr => (hi.2.2.2.1 r hr).2.2.2.1
  have h34 : ∀ r, r < u 2 0 → ¬ u 3 r = u 4 r := fun r hr => (hi.2.2.2.1 r hr).2.2.1
  have come : ∀ r q, r < u 2 0 → kcm A u (kR A u kW) r q (h + 1) = true → kG A u (h + 1) q = true → kY A u (kR A u kW) (kG A u) (h + 1) := fun r q hr h1 h2 =>
    Or.inl ⟨q, (kR_s (by omega)).mpr ⟨Or.inr ⟨r, hr, h1⟩, kG_let hrd (by omega) h2⟩, h2⟩
  constructor
  · rintro (⟨p, h1, h2⟩ | ⟨r, left, p, hr, h1, h2, h3, h4⟩)
    · rcases ((kG_s hrd hh).mp h2).1 with q | ⟨r, hr, q⟩
      · exact Or.inl ⟨p, (kR_s (by omega)).mpr ⟨Or.inl h1, kG_let hrd (by omega) q⟩, q⟩
      · by_cases h5 : u 5 r = 1
        · obtain ⟨w, g1, g2⟩ := kdp_cm (h34 r hr) (hrd r hr) (by omega) h1 q
          rw [h5] at g1 g2
          exact come r w hr g1 g2
        · have := hrd r hr
          exact Or.inr ⟨r, h, p, hr, by omega, by omega, h1, q⟩
    · by_cases h5 : h + 1 < left + u 5 r
      · exact Or.inr ⟨r, left, p, hr, by omega, h5, h3, h4⟩
      · have e : left + u 5 r = h + 1 := by omega
        obtain ⟨w, g1, g2⟩ := kdp_cm (h34 r hr) (hrd r hr) (by omega) h3 h4
        rw [e] at g1 g2
        exact come r w hr g1 g2
  · rintro (⟨p, h1, h2⟩ | ⟨r, left, p, hr, h1, h2, h3, h4⟩)
    · rcases ((kR_s (by omega)).mp h1).1 with q | ⟨r, hr, q⟩
      · rw [Nat.add_sub_cancel] at q
        exact Or.inl ⟨p, q, (kG_s hrd hh).mpr ⟨Or.inl h2, kR_let q⟩⟩
      · obtain ⟨w, left, g1, g2, g3⟩ := kcm_dp (h34 r hr) (by omega) h2 q
        have h5 := hrd r hr
        by_cases e : left = h
        · subst e
          exact Or.inl ⟨w, g2, (kG_s hrd hh).mpr ⟨Or.inr ⟨r, hr, g3⟩, kR_let g2⟩⟩
        · exact Or.inr ⟨r, left, w, hr, by omega, by omega, g2, g3⟩
    · by_cases e : left = h
      · subst e
        exact Or.inl ⟨p, h3, (kG_s hrd hh).mpr ⟨Or.inr ⟨r, hr, h4⟩, kR_let h3⟩⟩
      · exact Or.inr ⟨r, left, p, hr, by omega, by omega, h3, h4⟩
theorem kX_0 {A : Nat → Bool} {u : hM} (hi : hI u) {s : Nat} (hs : u 8 0 = s + 1) : kG A u 0 s = true ↔ kY A u (kR A u kW) (kG A u) 0 := by
  have hrd : ∀ r, r < u 2 0 → 1 ≤ u 5 r := fun r hr => (hi.2.2.2.1 r hr).2.2.2.1
  have e : ∀ p, kR A u kW 0 p = (decide (u 8 0 = p + 1) && klet A u p 0) := fun p => by
    rw [kR_eq]; unfold kst; rw [if_pos rfl]; simp [kW]
  constructor
  · intro h
    refine Or.inl ⟨s, ?_, h⟩
    rw [e, decide_eq_true hs, kG_let hrd (by omega) h]; rfl
  · rintro (⟨p, h1, h2⟩ | ⟨r, left, p, hr, h1, h2, h3, h4⟩)
    · rw [e] at h1
      simp only [Bool.and_eq_true, decide_eq_true_eq] at h1
      have : p = s := by omega
      rw [← this]; exact h2
    · omega
theorem kX {A : Nat → Bool} {u : hM} (hi : hI u) {s : Nat} (hs : u 8 0 = s + 1) : ∀ {h : Nat}, h < 48 → (kG A u 0 s = true ↔ kY A u (kR A u kW) (kG A u) h)
  | 0, _ => kX_0 hi hs
  | h + 1, hh => (kX hi hs (h := h) (by omega)).trans (kX_s hi (by omega))
def kMin (u : hM) (f i : Nat) : Bool := kAll u i && !decide (i = f)
/-- a fact bears on its hour alone -/
theorem kY_A {A B : Nat → Bool} {u : hM} (hi : hI u) {h : Nat} (hh : h < 48) (hA : ∀ f, f < u 9 0 → ¬ u 12 f = h → A f = B f) : kY B u (kR B u kW) (kG B u) h ↔ ((∃ p, kst B u (kR A u kW) h p = true ∧ kgo B u (kG A u) h p = true) ∨ ∃ r left p, r < u 2 0 ∧ left < h ∧ h < left + u 5 r ∧ kR A u kW left p = true ∧ kdp B u (kG A u) r p left = true) := by
  have hrd : ∀ r, r < u 2 0 → 1 ≤ u 5 r := fun r hr => (hi.2.2.2.1 r hr).2.2.2.1
  have eR : ∀ t p, t < h → kR A u kW t p = kR B u kW t p := fun t p ht => kR_A (t + 1) t p (by omega) (fun f hf q => hA f hf (by omega))
  have eG : ∀ t p, h < t → t < 48 → kG A u t p = kG B u t p := fun t p ht h48 => kG_A hrd 48 t p h48 (by omega) (fun f hf q => hA f hf (by omega))
  have e1 : ∀ p, kR B u kW h p = kst B u (kR A u kW) h p := fun p => by
    rw [kR_eq, kst_c (R := kR A u kW) (R1 := kR B u kW) (fun t1 p1 q => eR t1 p1 q)]; simp [kW]
  have e2 : ∀ p, kG B u h p = kgo B u (kG A u) h p := fun p => by
    rw [kG_eq B u p hh hrd, kgo_c hh hrd (G := kG A u) (G1 := kG B u) (fun t1 p1 q1 q2 => eG t1 p1 q1 q2)]
  have e3 : ∀ r left p, h < left + u 5 r → kdp B u (kG B u) r p left = kdp B u (kG A u) r p left := fun r left p q => by
    unfold kdp
    by_cases e : 48 ≤ left + u 5 r
    · rw [decide_eq_true e]; simp only [Bool.true_or]
    · rw [eG _ _ q (by omega), eG _ _ q (by omega)]
  unfold kY
  constructor
  · rintro (⟨p, h1, h2⟩ | ⟨r, left, p, hr, h1, h2, h3, h4⟩)
    · exact Or.inl ⟨p, by rw [← e1]; exact h1, by rw [← e2]; exact h2⟩
    · exact Or.inr ⟨r, left, p, hr, h1, h2, by rw [eR _ _ h1]; exact h3, by rw [← e3 _ _ _ h2]; exact h4⟩
  · rintro (⟨p, h1, h2⟩ | ⟨r, left, p, hr, h1, h2, h3, h4⟩)
    · exact Or.inl ⟨p, by rw [e1]; exact h1, by rw [e2]; exact h2⟩
    · exact Or.inr ⟨r, left, p, hr, h1, h2, by rw [← eR _ _ h1]; exact h3, by rw [e3 _ _ _ h2]; exact h4⟩
end

