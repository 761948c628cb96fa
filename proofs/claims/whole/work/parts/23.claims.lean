section
theorem rX_acts0 {u : hM} {z : mv_Z} (h : rX u z) : rX (hu u 21 0 0) (mv_u z 29 4 0) := by
  obtain ⟨h1, h2, h3, h4, h5, h6, h7, h8⟩ := h
  unfold rX
  rw [hu_self, hu_key (k1 := 7) (by decide), hu_key (k1 := 8) (by decide), hu_key (k1 := 14) (by decide), hu_key (k1 := 18) (by decide), hu_key (k1 := 27) (by decide), hu_key (k1 := 28) (by decide), hu_key (k1 := 30) (by decide), hu_key (k1 := 31) (by decide), hu_key (k1 := 1) (by decide)]
  rw [mv_u_ne (q := 3) (by decide), mv_u_ne (q := 23) (by decide), mv_u_ne (q := 26) (by decide), mv_u_ne (q := 31) (by decide), mv_u_ne (q := 67) (by decide)]
  exact ⟨rT_sc rOkX h1 (show (29, 4, 21) ∈ sX by decide) 0, h2, h3, h4, h5, fun a ha => absurd ha (by omega), h7, h8⟩
theorem rM_acts0 {u : hM} {z : mv_Z} (h : rM u z) : rM (hu u 21 0 0) (mv_u z 68 28 0) := by
  obtain ⟨h1, h3, h4, h6, h8⟩ := h
  unfold rM
  rw [hu_self, hu_key (k1 := 8) (by decide), hu_key (k1 := 14) (by decide), hu_key (k1 := 30) (by decide), hu_key (k1 := 31) (by decide)]
  rw [mv_u_sl (q := 68) (j := 9) (by decide), mv_u_ne (q := 84) (by decide), mv_u_ne (q := 82) (by decide)]
  exact ⟨rT_sc rOkM h1 (show (68, 28, 21) ∈ sM by decide) 0, h3, h4, fun a ha => absurd ha (by omega), h8⟩
theorem rX_claims {u : hM} {z : mv_Z} (h : rX u z) (n : Nat) (hn : ∀ c, c < n → z.1 31 c = nI (u 1 (u 28 c))) : rX (hu u 27 0 n) (mv_u z 29 5 (nI n)) := by
  obtain ⟨h1, h2, h3, h4, h5, h6, h7, h8⟩ := h
  unfold rX
  rw [hu_self, hu_key (k1 := 7) (by decide), hu_key (k1 := 8) (by decide), hu_key (k1 := 14) (by decide), hu_key (k1 := 18) (by decide), hu_key (k1 := 21) (by decide), hu_key (k1 := 22) (by decide), hu_key (k1 := 23) (by decide), hu_key (k1 := 24) (by decide), hu_key (k1 := 25) (by decide), hu_key (k1 := 26) (by decide), hu_key (k1 := 28) (by decide), hu_key (k1 := 30) (by decide), hu_key (k1 := 31) (by decide), hu_key (k1 := 1) (by decide)]
  rw [mv_u_ne (q := 3) (by decide), mv_u_ne (q := 23) (by decide), mv_u_ne (q := 26) (by decide), mv_u_ne (q := 31) (by decide), mv_u_ne (q := 67) (by decide)]
  refine ⟨rT_sc rOkX h1 (show (29, 5, 27) ∈ sX by decide) n, h2, h3, h4, h5, fun a ha => ?_, hn, h8⟩
  rw [mv_u_ne (q := 34 + 4 * a) (by omega), mv_u_ne (q := 35 + 4 * a) (by omega), mv_u_ne (q := 36 + 4 * a) (by omega), mv_u_ne (q := 37 + 4 * a) (by omega)]
  exact h6 a ha
theorem x_repeal (u : hM) (z : mv_Z) (hi : hI u) (hz : rX u z) : xR 99 [] u z (.int (nI (u 21 0))) (hu u 21 0 0) := by
  have hn := rX_s hz 29 4 21 (by decide)
  refine ⟨_, mv_up (d := 2) (S1 := mv_E (mv_u z 29 4 0)) ?_ rfl, rX_acts0 hz, fX_u fX_rf (by decide)⟩
  refine mv_start pX10_repeal (some .int) [some (.ref 0), none] rfl rfl rfl rfl (fun V C => ?_)
  refine mv_aload_n C rfl rfl ?_
  refine mv_getR C rfl rfl rfl ?_
  refine mv_getJ C rfl rfl rfl hn ?_
  refine mv_is_n1 C rfl rfl ?_
  refine mv_aload_n C rfl rfl ?_
  refine mv_getR C rfl rfl rfl ?_
  refine mv_iconst C rfl ?_
  refine mv_putI C rfl rfl rfl rfl ?_
  refine mv_iload_n C rfl rfl ?_
  refine mv_ireturn C rfl mv_okI ?_ ?_
  all_goals rfl
theorem m_repeal (u : hM) (z : mv_Z) (hi : hI u) (hz : rM u z) : mR 162 [] u z (.int (nI (u 21 0))) (hu u 21 0 0) := by
  have h0 := rM_free hz 68 0 0 (Or.inr ⟨rfl, by decide⟩)
  have hn := rM_s h0 28 21 (by decide)
  refine ⟨_, mv_up (d := 2) (S1 := mv_E (mv_u (mv_u z 68 0 0) 68 28 0)) ?_ rfl, rM_acts0 h0, fM_u (fM_u fM_rf (by decide)) (by decide)⟩
  refine mv_start pX11_repeal (some .int) [some (.ref 68), none] rfl rfl rfl rfl (fun V C => ?_)
  refine mv_aload_n C rfl rfl ?_
  refine mv_iconst C rfl ?_
  refine mv_putI C rfl rfl rfl rfl ?_
  refine mv_aload_n C rfl rfl ?_
  refine mv_getJ C rfl rfl rfl hn ?_
  refine mv_is_n1 C rfl rfl ?_
  refine mv_aload_n C rfl rfl ?_
  refine mv_iconst C rfl ?_
  refine mv_putI C rfl rfl rfl rfl ?_
  refine mv_iload_n C rfl rfl ?_
  refine mv_ireturn C rfl mv_okI ?_ ?_
  all_goals rfl
theorem x_waive (u : hM) (z : mv_Z) (hi : hI u) (hz : rX u z) : xR 103 [] u z (.int (nI (u 27 0))) (hu u 27 0 0) := by
  have hn := rX_s hz 29 5 27 (by decide)
  refine ⟨_, mv_up (d := 2) (S1 := mv_E (mv_u z 29 5 0)) ?_ rfl, rX_claims hz 0 (fun c hc => absurd hc (by omega)), fX_u fX_rf (by decide)⟩
  refine mv_start pX10_waive (some .int) [some (.ref 0), none] rfl rfl rfl rfl (fun V C => ?_)
  refine mv_aload_n C rfl rfl ?_
  refine mv_getR C rfl rfl rfl ?_
  refine mv_getJ C rfl rfl rfl hn ?_
  refine mv_is_n1 C rfl rfl ?_
  refine mv_aload_n C rfl rfl ?_
  refine mv_getR C rfl rfl rfl ?_
  refine mv_iconst C rfl ?_
  refine mv_putI C rfl rfl rfl rfl ?_
  refine mv_iload_n C rfl rfl ?_
  refine mv_ireturn C rfl mv_okI ?_ ?_
  all_goals rfl
theorem m_waive (u : hM) (z : mv_Z) (hi : hI u) (hz : rM u z) : mR 168 [] u z (.int (nI (u 27 0))) (hu u 27 0 0) := by
  have h0 := rM_free hz 68 0 0 (Or.inr ⟨rfl, by decide⟩)
  have hn := rM_s h0 36 27 (by decide)
  refine ⟨_, mv_up (d := 2) (S1 := mv_E (mv_u (mv_u z 68 0 0) 68 36 0)) ?_ rfl, rM_sc h0 36 27 0 (by decide), fM_u (fM_u fM_rf (by decide)) (by decide)⟩
  refine mv_start pX11_waive (some .int) [some (.ref 68), none] rfl rfl rfl rfl (fun V C => ?_)
  refine mv_aload_n C rfl rfl ?_
  refine mv_iconst C rfl ?_
  refine mv_putI C rfl rfl rfl rfl ?_
  refine mv_aload_n C rfl rfl ?_
  refine mv_getJ C rfl rfl rfl hn ?_
  refine mv_is_n1 C rfl rfl ?_
  refine mv_aload_n C rfl rfl ?_
  refine mv_iconst C rfl ?_
  refine mv_putI C rfl rfl rfl rfl ?_
  refine mv_iload_n C rfl rfl ?_
  refine mv_ireturn C rfl mv_okI ?_ ?_
  all_goals rfl
-- claim
def a_claim (u : hM) (p h : Int32) : Int32 := if (0 ≤ p ∧ p < nI (u 0 0)) ∧ (0 ≤ h ∧ h < 48) ∧ u 27 0 < 12 then nI (u 27 0) else -1
def o_claim (u : hM) (p h : Int32) : hM := if (0 ≤ p ∧ p < nI (u 0 0)) ∧ (0 ≤ h ∧ h < 48) ∧ u 27 0 < 12 then hu (hu (hu u 28 (u 27 0) p.toNatClampNeg) 29 (u 27 0) h.toNatClampNeg) 27 0 (u 27 0 + 1) else u
theorem r_lodge (z : mv_Z) (c h : Int32) (n : Nat) (hn : z.1 29 5 = nI n) (h12 : n ≤ 12) : mv_Runs 2 32 [.ref 29, .int c, .int h] (mv_E z) (some (.int (if (0 ≤ h ∧ h < 48) ∧ n < 12 then nI n else -1))) (mv_E (if (0 ≤ h ∧ h < 48) ∧ n < 12 then mv_u (mv_u (mv_u z 31 n c) 32 n h) 29 5 (nI (n + 1)) else z)) := by
  refine mv_start pX2_lodge (some .int) [some (.ref 29), some (.int c), some (.int h)] rfl rfl rfl rfl (fun V C => ?_)
  refine mv_iload_n C rfl rfl ?_
  refine mv_cS C rfl (r_isHour _ _) (by decide) rfl (Nat.le_of_ble_eq_true rfl) (Nat.le_refl _) (Nat.le_refl _) rfl ?_
  refine mv_if_eq C rfl (fun c4 => ?_) (fun c4 => ?_)
  · try simp only [b01, b10, Classical.not_not] at c4
    try simp (disch := omega) only [lit_0, lit_1, lit_2, lit_3, lit_4, lit_5, lit_6, lit_7, lit_8, lit_9, lit_10, lit_11, lit_12, lit_23, lit_24, lit_30, lit_31, lit_32, lit_39, lit_40, lit_41, lit_46, lit_47, lit_48, lit_96, lit_99, lit_100, lit_255, lit_999, lit_1000, lit_2024, lit_32767, lit_1000000, nI_ltI, nI_leI, nI_eq, Nat.not_lt, Nat.not_le] at c4
    try simp only [unl_0, unl_1, unl_2, unl_3, unl_4, unl_5, unl_6, unl_7, unl_8, unl_9, unl_10, unl_11, unl_12, unl_23, unl_24, unl_30, unl_31, unl_32, unl_39, unl_40, unl_41, unl_46, unl_47, unl_48, unl_96, unl_99, unl_100, unl_255, unl_999, unl_1000, unl_2024, unl_32767, unl_1000000] at c4
    refine mv_iconst C rfl ?_
    refine mv_ireturn C rfl mv_okI ?_ ?_
    all_goals (clear C; grind)
  · try simp only [b01, b10, Classical.not_not] at c4
    try simp (disch := omega) only [lit_0, lit_1, lit_2, lit_3, lit_4, lit_5, lit_6, lit_7, lit_8, lit_9, lit_10, lit_11, lit_12, lit_23, lit_24, lit_30, lit_31, lit_32, lit_39, lit_40, lit_41, lit_46, lit_47, lit_48, lit_96, lit_99, lit_100, lit_255, lit_999, lit_1000, lit_2024, lit_32767, lit_1000000, nI_ltI, nI_leI, nI_eq, Nat.not_lt, Nat.not_le] at c4
    try simp only [unl_0, unl_1, unl_2, unl_3, unl_4, unl_5, unl_6, unl_7, unl_8, unl_9, unl_10, unl_11, unl_12, unl_23, unl_24, unl_30, unl_31, unl_32, unl_39, unl_40, unl_41, unl_46, unl_47, unl_48, unl_96, unl_99, unl_100, unl_255, unl_999, unl_1000, unl_2024, unl_32767, unl_1000000] at c4
    refine mv_aload_n C rfl rfl ?_
    refine mv_getJ C rfl rfl rfl hn ?_
    refine mv_bipush C rfl ?_
    refine mv_icmp_lt C rfl (fun c13 => ?_) (fun c13 => ?_)
    · try simp only [b01, b10, Classical.not_not] at c13
      try simp (disch := omega) only [lit_0, lit_1, lit_2, lit_3, lit_4, lit_5, lit_6, lit_7, lit_8, lit_9, lit_10, lit_11, lit_12, lit_23, lit_24, lit_30, lit_31, lit_32, lit_39, lit_40, lit_41, lit_46, lit_47, lit_48, lit_96, lit_99, lit_100, lit_255, lit_999, lit_1000, lit_2024, lit_32767, lit_1000000, nI_ltI, nI_leI, nI_eq, Nat.not_lt, Nat.not_le] at c13
      try simp only [unl_0, unl_1, unl_2, unl_3, unl_4, unl_5, unl_6, unl_7, unl_8, unl_9, unl_10, unl_11, unl_12, unl_23, unl_24, unl_30, unl_31, unl_32, unl_39, unl_40, unl_41, unl_46, unl_47, unl_48, unl_96, unl_99, unl_100, unl_255, unl_999, unl_1000, unl_2024, unl_32767, unl_1000000] at c13
      refine mv_aload_n C rfl rfl ?_
      refine mv_getR C rfl rfl rfl ?_
      refine mv_aload_n C rfl rfl ?_
      refine mv_getJ C rfl rfl rfl hn ?_
      refine mv_iload_n C rfl rfl ?_
      refine mv_ast C rfl rfl rfl (by omega) ?_
      refine mv_aload_n C rfl rfl ?_
      refine mv_getR C rfl rfl rfl ?_
      refine mv_aload_n C rfl rfl ?_
      refine mv_getJ C rfl rfl rfl hn ?_
      refine mv_iload_n C rfl rfl ?_
      refine mv_ast C rfl rfl rfl (by omega) ?_
      refine mv_aload_n C rfl rfl ?_
      refine mv_dup C rfl rfl ?_
      refine mv_getJ C rfl rfl rfl hn ?_
      refine mv_iconst C rfl ?_
      refine mv_iadd C rfl ?_
      refine mv_top (nI_1 _) ?_
      refine mv_putI C rfl rfl rfl rfl ?_
      refine mv_aload_n C rfl rfl ?_
      refine mv_getJ C rfl rfl rfl (show _ = nI (n + 1) from rfl) ?_
      refine mv_iconst C rfl ?_
      refine mv_isub C rfl ?_
      refine mv_top (nI_pred _) ?_
      refine mv_ireturn C rfl mv_okI ?_ ?_
      all_goals (clear C; grind)
    · try simp only [b01, b10, Classical.not_not] at c13
      try simp (disch := omega) only [lit_0, lit_1, lit_2, lit_3, lit_4, lit_5, lit_6, lit_7, lit_8, lit_9, lit_10, lit_11, lit_12, lit_23, lit_24, lit_30, lit_31, lit_32, lit_39, lit_40, lit_41, lit_46, lit_47, lit_48, lit_96, lit_99, lit_100, lit_255, lit_999, lit_1000, lit_2024, lit_32767, lit_1000000, nI_ltI, nI_leI, nI_eq, Nat.not_lt, Nat.not_le] at c13
      try simp only [unl_0, unl_1, unl_2, unl_3, unl_4, unl_5, unl_6, unl_7, unl_8, unl_9, unl_10, unl_11, unl_12, unl_23, unl_24, unl_30, unl_31, unl_32, unl_39, unl_40, unl_41, unl_46, unl_47, unl_48, unl_96, unl_99, unl_100, unl_255, unl_999, unl_1000, unl_2024, unl_32767, unl_1000000] at c13
      refine mv_iconst C rfl ?_
      refine mv_ireturn C rfl mv_okI ?_ ?_
      all_goals (clear C; grind)
theorem rX_claim {u : hM} {z : mv_Z} (h : rX u z) (n p k : Nat) (hn : u 27 0 = n) : rX (hu (hu (hu u 28 n p) 29 n k) 27 0 (n + 1)) (mv_u (mv_u (mv_u z 31 n (nI (u 1 p))) 32 n (nI k)) 29 5 (nI (n + 1))) := by
  have e1 : rX (hu u 28 n p) (mv_u z 31 n (nI (u 1 p))) := by
    obtain ⟨h1, h2, h3, h4, h5, h6, h7, h8⟩ := h
    unfold rX
    rw [hu_key (k1 := 7) (by decide), hu_key (k1 := 8) (by decide), hu_key (k1 := 14) (by decide), hu_key (k1 := 18) (by decide), hu_key (k1 := 21) (by decide), hu_key (k1 := 22) (by decide), hu_key (k1 := 23) (by decide), hu_key (k1 := 24) (by decide), hu_key (k1 := 25) (by decide), hu_key (k1 := 26) (by decide), hu_key (k1 := 27) (by decide), hu_key (k1 := 30) (by decide), hu_key (k1 := 31) (by decide), hu_key (k1 := 1) (by decide)]
    rw [mv_u_ne (q := 3) (by decide), mv_u_ne (q := 23) (by decide), mv_u_ne (q := 26) (by decide), mv_u_ne (q := 67) (by decide)]
    refine ⟨rT_keys (rT_out h1 31 n _ (by decide) (fun q hq hh => (show ∀ q ∈ sX, q.1 ≠ 31 by decide) q hq hh.1)) (fun q hq => hu_key ((tX_keys q hq).2.2.2.2.2.2.2.2.2.2.2.1)) (fun q hq => by rw [hu_key ((show ∀ q ∈ sX, q.2.2 ≠ 28 by decide) q hq)]), h2, h3, h4, h5, fun a ha => ?_, fun c hc => ?_, h8⟩
    · rw [mv_u_ne (q := 34 + 4 * a) (by omega), mv_u_ne (q := 35 + 4 * a) (by omega), mv_u_ne (q := 36 + 4 * a) (by omega), mv_u_ne (q := 37 + 4 * a) (by omega)]
      exact h6 a ha
    · have : ¬ c = n := by omega
      rw [mv_u_at this, hu_ix this]; exact h7 c hc
  have e2 := rX_arr e1 32 29 n k (by decide) (by decide)
  refine rX_claims e2 (n + 1) (fun c hc => ?_)
  rw [mv_u_ne (by decide), hu_key (k1 := 1) (by decide), hu_key (k1 := 1) (by decide), hu_key (k := 29) (k1 := 28) (by decide)]
  by_cases e : c = n
  · subst e; rw [mv_u_eq, hu_self]
  · rw [mv_u_at e, hu_ix e]
    exact h.2.2.2.2.2.2.1 c (by omega)
theorem x_claim (u : hM) (z : mv_Z) (p h : Int32) (hi : hI u) (hz : rX u z) : xR 100 [.int p, .int h] u z (.int (a_claim u p h)) (o_claim u p h) := by
  have hn := rX_s hz 3 6 0 (by decide)
  have hf := rX_s hz 29 5 27 (by decide)
  have h24 := hi.1
  have h12 : u 27 0 ≤ 12 := hi.2.2.2.2.2.2.2.2.2.2.2.2.2.2.2.2.2.2.1
  have R0 := r_hasParish z p
  rw [hn] at R0
  unfold a_claim o_claim
  by_cases hc : 0 ≤ p ∧ p < nI (u 0 0)
  · rw [if_pos hc] at R0
    have e := nI_rngc hc.1 hc.2 (by omega)
    generalize p.toNatClampNeg = k at *
    obtain ⟨hk, rfl⟩ := e
    have R1 := r_lodge z (nI (u 1 k)) h _ hf h12
    refine ⟨_, mv_up (d := 3) (S1 := mv_E (if (0 ≤ h ∧ h < 48) ∧ u 27 0 < 12 then mv_u (mv_u (mv_u z 31 (u 27 0) (nI (u 1 k))) 32 (u 27 0) h) 29 5 (nI (u 27 0 + 1)) else z)) ?_ rfl, ?_, ?_⟩
    · have e1 : (if (0 ≤ nI k ∧ nI k < nI (u 0 0)) ∧ (0 ≤ h ∧ h < 48) ∧ u 27 0 < 12 then nI (u 27 0) else -1) = (if (0 ≤ h ∧ h < 48) ∧ u 27 0 < 12 then nI (u 27 0) else -1) := by simp only [hc, and_self, true_and]
      rw [e1]
      refine mv_start pX10_claim (some .int) [some (.ref 0), some (.int (nI k)), some (.int h)] rfl rfl rfl rfl (fun V C => ?_)
      refine mv_aload_n C rfl rfl ?_
      refine mv_getR C rfl rfl rfl ?_
      refine mv_iload_n C rfl rfl ?_
      refine mv_cV C rfl (mv_up R0 rfl) (by decide) rfl rfl rfl (Nat.le_of_ble_eq_true rfl) (Nat.le_refl _) (Nat.le_refl _) rfl ?_
      refine mv_if_eq C rfl (fun c8 => ?_) (fun c8 => ?_)
      · exact absurd c8 (by decide)
      · refine mv_aload_n C rfl rfl ?_
        refine mv_getR C rfl rfl rfl ?_
        refine mv_aload_n C rfl rfl ?_
        refine mv_getR C rfl rfl rfl ?_
        refine mv_getR C rfl rfl rfl ?_
        refine mv_iload_n C rfl rfl ?_
        refine mv_aldJ C rfl rfl rfl (by omega) (rX_a hz 4 1 (by decide) k) ?_
        refine mv_iload_n C rfl rfl ?_
        refine mv_cV C rfl R1 (by decide) rfl rfl rfl (Nat.le_of_ble_eq_true rfl) (Nat.le_refl _) (Nat.le_refl _) rfl ?_
        refine mv_goto C rfl ?_
        refine mv_ireturn C rfl mv_okI ?_ ?_
        all_goals rfl
    · by_cases h2 : (0 ≤ h ∧ h < 48) ∧ u 27 0 < 12
      · rw [if_pos h2, if_pos (show (0 ≤ nI k ∧ nI k < nI (u 0 0)) ∧ (0 ≤ h ∧ h < 48) ∧ u 27 0 < 12 from ⟨hc, h2⟩)]
        have eh := nI_nn h2.1.1
        generalize h.toNatClampNeg = kh at *
        subst eh
        exact rX_claim hz _ _ _ rfl
      · rw [if_neg h2, if_neg (show ¬ ((0 ≤ nI k ∧ nI k < nI (u 0 0)) ∧ (0 ≤ h ∧ h < 48) ∧ u 27 0 < 12) from fun q => h2 q.2)]; exact hz
    · split
      · exact fX_u (fX_u (fX_u fX_rf (by decide)) (by decide)) (by decide)
      · exact fX_rf
  · rw [if_neg hc] at R0
    rw [if_neg (fun q => hc q.1), if_neg (fun q => hc q.1)]
    refine ⟨_, mv_up (d := 3) (S1 := mv_E z) ?_ rfl, hz, fX_rf⟩
    refine mv_start pX10_claim (some .int) [some (.ref 0), some (.int p), some (.int h)] rfl rfl rfl rfl (fun V C => ?_)
    refine mv_aload_n C rfl rfl ?_
    refine mv_getR C rfl rfl rfl ?_
    refine mv_iload_n C rfl rfl ?_
    refine mv_cV C rfl (mv_up R0 rfl) (by decide) rfl rfl rfl (Nat.le_of_ble_eq_true rfl) (Nat.le_refl _) (Nat.le_refl _) rfl ?_
    refine mv_if_eq C rfl (fun c8 => ?_) (fun c8 => ?_)
    · refine mv_iconst C rfl ?_
      refine mv_ireturn C rfl mv_okI ?_ ?_
      all_goals rfl
    · exact absurd rfl c8
theorem m_claim (u : hM) (z : mv_Z) (p h : Int32) (hi : hI u) (hz : rM u z) : mR 163 [.int p, .int h] u z (.int (a_claim u p h)) (o_claim u p h) := by
  have h0 := rM_free hz 68 0 0 (Or.inr ⟨rfl, by decide⟩)
  have hp := rM_s h0 1 0 (by decide)
  have hn := rM_s h0 36 27 (by decide)
  have h24 := hi.1
  have h12 : u 27 0 ≤ 12 := hi.2.2.2.2.2.2.2.2.2.2.2.2.2.2.2.2.2.2.1
  have R : mv_Runs 3 163 [.ref 68, .int p, .int h] (mv_E z) (some (.int (a_claim u p h))) (mv_E (if (0 ≤ p ∧ p < nI (u 0 0)) ∧ (0 ≤ h ∧ h < 48) ∧ u 27 0 < 12 then mv_u (mv_u (mv_u (mv_u z 68 0 0) 94 (u 27 0) p) 95 (u 27 0) h) 68 36 (nI (u 27 0 + 1)) else mv_u z 68 0 0)) := by
    unfold a_claim
    refine mv_start pX11_claim (some .int) [some (.ref 68), some (.int p), some (.int h)] rfl rfl rfl rfl (fun V C => ?_)
    refine mv_aload_n C rfl rfl ?_
    refine mv_iconst C rfl ?_
    refine mv_putI C rfl rfl rfl rfl ?_
    refine mv_aload_n C rfl rfl ?_
    refine mv_iload_n C rfl rfl ?_
    refine mv_cV C rfl (r_mIsParish _ _ _ hp h24) (by decide) rfl rfl rfl (Nat.le_of_ble_eq_true rfl) (Nat.le_refl _) (Nat.le_refl _) rfl ?_
    refine mv_if_eq C rfl (fun c10 => ?_) (fun c10 => ?_)
    · try simp only [b01, b10, Classical.not_not] at c10
      try simp (disch := omega) only [lit_0, lit_1, lit_2, lit_3, lit_4, lit_5, lit_6, lit_7, lit_8, lit_9, lit_10, lit_11, lit_12, lit_23, lit_24, lit_30, lit_31, lit_32, lit_39, lit_40, lit_41, lit_46, lit_47, lit_48, lit_96, lit_99, lit_100, lit_255, lit_999, lit_1000, lit_2024, lit_32767, lit_1000000, nI_ltI, nI_leI, nI_eq, Nat.not_lt, Nat.not_le] at c10
      try simp only [unl_0, unl_1, unl_2, unl_3, unl_4, unl_5, unl_6, unl_7, unl_8, unl_9, unl_10, unl_11, unl_12, unl_23, unl_24, unl_30, unl_31, unl_32, unl_39, unl_40, unl_41, unl_46, unl_47, unl_48, unl_96, unl_99, unl_100, unl_255, unl_999, unl_1000, unl_2024, unl_32767, unl_1000000] at c10
      refine mv_iconst C rfl ?_
      refine mv_ireturn C rfl mv_okI ?_ ?_
      all_goals (clear C; clear hi; grind)
    · try simp only [b01, b10, Classical.not_not] at c10
      try simp (disch := omega) only [lit_0, lit_1, lit_2, lit_3, lit_4, lit_5, lit_6, lit_7, lit_8, lit_9, lit_10, lit_11, lit_12, lit_23, lit_24, lit_30, lit_31, lit_32, lit_39, lit_40, lit_41, lit_46, lit_47, lit_48, lit_96, lit_99, lit_100, lit_255, lit_999, lit_1000, lit_2024, lit_32767, lit_1000000, nI_ltI, nI_leI, nI_eq, Nat.not_lt, Nat.not_le] at c10
      try simp only [unl_0, unl_1, unl_2, unl_3, unl_4, unl_5, unl_6, unl_7, unl_8, unl_9, unl_10, unl_11, unl_12, unl_23, unl_24, unl_30, unl_31, unl_32, unl_39, unl_40, unl_41, unl_46, unl_47, unl_48, unl_96, unl_99, unl_100, unl_255, unl_999, unl_1000, unl_2024, unl_32767, unl_1000000] at c10
      refine mv_iload_n C rfl rfl ?_
      refine mv_cS C rfl (r_mIsHour _ _) (by decide) rfl (Nat.le_of_ble_eq_true rfl) (Nat.le_refl _) (Nat.le_refl _) rfl ?_
      refine mv_if_eq C rfl (fun c17 => ?_) (fun c17 => ?_)
      · try simp only [b01, b10, Classical.not_not] at c17
        try simp (disch := omega) only [lit_0, lit_1, lit_2, lit_3, lit_4, lit_5, lit_6, lit_7, lit_8, lit_9, lit_10, lit_11, lit_12, lit_23, lit_24, lit_30, lit_31, lit_32, lit_39, lit_40, lit_41, lit_46, lit_47, lit_48, lit_96, lit_99, lit_100, lit_255, lit_999, lit_1000, lit_2024, lit_32767, lit_1000000, nI_ltI, nI_leI, nI_eq, Nat.not_lt, Nat.not_le] at c17
        try simp only [unl_0, unl_1, unl_2, unl_3, unl_4, unl_5, unl_6, unl_7, unl_8, unl_9, unl_10, unl_11, unl_12, unl_23, unl_24, unl_30, unl_31, unl_32, unl_39, unl_40, unl_41, unl_46, unl_47, unl_48, unl_96, unl_99, unl_100, unl_255, unl_999, unl_1000, unl_2024, unl_32767, unl_1000000] at c17
        refine mv_iconst C rfl ?_
        refine mv_ireturn C rfl mv_okI ?_ ?_
        all_goals (clear C; clear hi; grind)
      · try simp only [b01, b10, Classical.not_not] at c17
        try simp (disch := omega) only [lit_0, lit_1, lit_2, lit_3, lit_4, lit_5, lit_6, lit_7, lit_8, lit_9, lit_10, lit_11, lit_12, lit_23, lit_24, lit_30, lit_31, lit_32, lit_39, lit_40, lit_41, lit_46, lit_47, lit_48, lit_96, lit_99, lit_100, lit_255, lit_999, lit_1000, lit_2024, lit_32767, lit_1000000, nI_ltI, nI_leI, nI_eq, Nat.not_lt, Nat.not_le] at c17
        try simp only [unl_0, unl_1, unl_2, unl_3, unl_4, unl_5, unl_6, unl_7, unl_8, unl_9, unl_10, unl_11, unl_12, unl_23, unl_24, unl_30, unl_31, unl_32, unl_39, unl_40, unl_41, unl_46, unl_47, unl_48, unl_96, unl_99, unl_100, unl_255, unl_999, unl_1000, unl_2024, unl_32767, unl_1000000] at c17
        refine mv_aload_n C rfl rfl ?_
        refine mv_getJ C rfl rfl rfl hn ?_
        refine mv_bipush C rfl ?_
        refine mv_icmp_ne C rfl (fun c26 => ?_) (fun c26 => ?_)
        · try simp only [b01, b10, Classical.not_not] at c26
          try simp (disch := omega) only [lit_0, lit_1, lit_2, lit_3, lit_4, lit_5, lit_6, lit_7, lit_8, lit_9, lit_10, lit_11, lit_12, lit_23, lit_24, lit_30, lit_31, lit_32, lit_39, lit_40, lit_41, lit_46, lit_47, lit_48, lit_96, lit_99, lit_100, lit_255, lit_999, lit_1000, lit_2024, lit_32767, lit_1000000, nI_ltI, nI_leI, nI_eq, Nat.not_lt, Nat.not_le] at c26
          try simp only [unl_0, unl_1, unl_2, unl_3, unl_4, unl_5, unl_6, unl_7, unl_8, unl_9, unl_10, unl_11, unl_12, unl_23, unl_24, unl_30, unl_31, unl_32, unl_39, unl_40, unl_41, unl_46, unl_47, unl_48, unl_96, unl_99, unl_100, unl_255, unl_999, unl_1000, unl_2024, unl_32767, unl_1000000] at c26
          refine mv_aload_n C rfl rfl ?_
          refine mv_getR C rfl rfl rfl ?_
          refine mv_aload_n C rfl rfl ?_
          refine mv_getJ C rfl rfl rfl hn ?_
          refine mv_iload_n C rfl rfl ?_
          refine mv_ast C rfl rfl rfl (by omega) ?_
          refine mv_aload_n C rfl rfl ?_
          refine mv_getR C rfl rfl rfl ?_
          refine mv_aload_n C rfl rfl ?_
          refine mv_getJ C rfl rfl rfl hn ?_
          refine mv_iload_n C rfl rfl ?_
          refine mv_ast C rfl rfl rfl (by omega) ?_
          refine mv_aload_n C rfl rfl ?_
          refine mv_dup C rfl rfl ?_
          refine mv_getJ C rfl rfl rfl hn ?_
          refine mv_iconst C rfl ?_
          refine mv_iadd C rfl ?_
          refine mv_top (nI_1 _) ?_
          refine mv_putI C rfl rfl rfl rfl ?_
          refine mv_aload_n C rfl rfl ?_
          refine mv_getJ C rfl rfl rfl (show _ = nI (u 27 0 + 1) from rfl) ?_
          refine mv_iconst C rfl ?_
          refine mv_isub C rfl ?_
          refine mv_top (nI_pred _) ?_
          refine mv_ireturn C rfl mv_okI ?_ ?_
          all_goals (clear C; clear hi; grind)
        · try simp only [b01, b10, Classical.not_not] at c26
          try simp (disch := omega) only [lit_0, lit_1, lit_2, lit_3, lit_4, lit_5, lit_6, lit_7, lit_8, lit_9, lit_10, lit_11, lit_12, lit_23, lit_24, lit_30, lit_31, lit_32, lit_39, lit_40, lit_41, lit_46, lit_47, lit_48, lit_96, lit_99, lit_100, lit_255, lit_999, lit_1000, lit_2024, lit_32767, lit_1000000, nI_ltI, nI_leI, nI_eq, Nat.not_lt, Nat.not_le] at c26
          try simp only [unl_0, unl_1, unl_2, unl_3, unl_4, unl_5, unl_6, unl_7, unl_8, unl_9, unl_10, unl_11, unl_12, unl_23, unl_24, unl_30, unl_31, unl_32, unl_39, unl_40, unl_41, unl_46, unl_47, unl_48, unl_96, unl_99, unl_100, unl_255, unl_999, unl_1000, unl_2024, unl_32767, unl_1000000] at c26
          refine mv_iconst C rfl ?_
          refine mv_ireturn C rfl mv_okI ?_ ?_
          all_goals (clear C; clear hi; grind)
  refine ⟨_, mv_up R rfl, ?_, ?_⟩
  · unfold o_claim
    split
    · rename_i hc
      obtain ⟨⟨a1, a2⟩, ⟨b1, b2⟩, -⟩ := hc
      have ea := nI_nn a1
      have eb := nI_nn b1
      generalize p.toNatClampNeg = ka at *
      generalize h.toNatClampNeg = kb at *
      subst ea; subst eb
      exact rM_sc (rM_arr (rM_arr h0 94 28 _ _ (by decide)) 95 29 _ _ (by decide)) 36 27 _ (by decide)
    · exact h0
  · split
    · exact fM_u (fM_u (fM_u (fM_u fM_rf (by decide)) (by decide)) (by decide)) (by decide)
    · exact fM_u fM_rf (by decide)
end

