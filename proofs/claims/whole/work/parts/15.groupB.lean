section
-- exit
def a_exit (u : hM) (p : Int32) : Int32 := if 0 ≤ p ∧ p < nI (u 0 0) then 1 else 0
def o_exit (u : hM) (p : Int32) (v : Nat) : hM := if 0 ≤ p ∧ p < nI (u 0 0) then hu u 7 p.toNatClampNeg v else u
theorem rX_ex {u : hM} {z : mv_Z} (h : rX u z) (p v : Nat) (hp : p < 24) (x : Int32) (hx : ∀ i, i < 32 → hbit x i = if i = p then decide (v = 1) else hbit (z.1 3 8) i) : rX (hu u 7 p v) (mv_u z 3 8 x) := by
  obtain ⟨h1, h2, h3, h4, h5, h6, h7, h8⟩ := h
  unfold rX
  rw [hu_key (k1 := 8) (by decide), hu_key (k1 := 14) (by decide), hu_key (k1 := 18) (by decide), hu_key (k1 := 21) (by decide), hu_key (k1 := 22) (by decide), hu_key (k1 := 23) (by decide), hu_key (k1 := 24) (by decide), hu_key (k1 := 25) (by decide), hu_key (k1 := 26) (by decide), hu_key (k1 := 27) (by decide), hu_key (k1 := 28) (by decide), hu_key (k1 := 30) (by decide), hu_key (k1 := 31) (by decide), hu_key (k1 := 1) (by decide)]
  rw [mv_u_sl (q := 3) (j := 9) (by decide), mv_u_ne (q := 23) (by decide), mv_u_ne (q := 26) (by decide), mv_u_ne (q := 31) (by decide), mv_u_ne (q := 67) (by decide), mv_u_eq]
  refine ⟨rT_keys (rT_out h1 3 8 x (by decide) (by decide)) ?_ ?_, fun i hi => ?_, h3, h4, h5, fun a ha => ?_, h7, h8⟩
  · exact fun q hq => hu_key ((tX_keys q hq).1)
  · have : ∀ q ∈ sX, q.2.2 ≠ 7 := by decide
    exact fun q hq => by rw [hu_key (this q hq)]
  · rw [hx i hi]
    by_cases e : i = p
    · subst e; simp [hu_self, hp]
    · rw [if_neg e, hu_ix e]; exact h2 i hi
  · rw [mv_u_ne (q := 34 + 4 * a) (by omega), mv_u_ne (q := 35 + 4 * a) (by omega), mv_u_ne (q := 36 + 4 * a) (by omega), mv_u_ne (q := 37 + 4 * a) (by omega)]
    exact h6 a ha
theorem x_exit (u : hM) (z : mv_Z) (r : Int32) (v : Nat) (hv : v ≤ 1) (hi : hI u) (hz : rX u z) : xR 75 [.int r, .int (nI v)] u z (.int (a_exit u r)) (o_exit u r v) := by
  have hn := rX_s hz 3 6 0 (by decide)
  have h40 := hi.1
  have R0 := r_hasParish z r
  rw [hn] at R0
  unfold a_exit o_exit
  by_cases hc : 0 ≤ r ∧ r < nI (u 0 0)
  · have e := nI_rngc hc.1 hc.2 (by omega)
    rw [if_pos hc] at R0 ⊢
    rw [if_pos hc]
    generalize r.toNatClampNeg = k at *
    obtain ⟨hk, rfl⟩ := e
    rcases (show v = 0 ∨ v = 1 by omega) with rfl | rfl
    · refine ⟨_, mv_up (d := 3) (S1 := mv_E (mv_u z 3 8 (z.1 3 8 &&& ((1 <<< (nI k &&& 31)) ^^^ (-1))))) ?_ rfl, rX_ex hz _ _ (by omega) _ (fun i hi => ?_), fX_u fX_rf (by decide)⟩
      · refine mv_start pX10_exit (some .boolean) [some (.ref 0), some (.int (nI k)), some (.int (nI 0))] rfl rfl rfl rfl (fun V C => ?_)
        refine mv_aload_n C rfl rfl ?_
        refine mv_getR C rfl rfl rfl ?_
        refine mv_iload_n C rfl rfl ?_
        refine mv_cV C rfl (mv_up R0 rfl) (by decide) rfl rfl rfl (Nat.le_of_ble_eq_true rfl) (Nat.le_refl _) (Nat.le_refl _) rfl ?_
        refine mv_if_ne C rfl (fun c8 => ?_) (fun c8 => ?_)
        · refine mv_aload_n C rfl rfl ?_
          refine mv_getR C rfl rfl rfl ?_
          refine mv_iload_n C rfl rfl ?_
          refine mv_if_eq C rfl (fun c18 => ?_) (fun c18 => ?_)
          · refine mv_aload_n C rfl rfl ?_
            refine mv_getR C rfl rfl rfl ?_
            refine mv_getI C rfl rfl rfl ?_
            refine mv_iload_n C rfl rfl ?_
            refine mv_cS C rfl (mv_up (r_bit _ _) rfl) (by decide) rfl (Nat.le_of_ble_eq_true rfl) (Nat.le_refl _) (Nat.le_refl _) rfl ?_
            refine mv_iconst C rfl ?_
            refine mv_ixor C rfl ?_
            refine mv_iand C rfl ?_
            refine mv_putI C rfl rfl rfl rfl ?_
            refine mv_iconst C rfl ?_
            refine mv_ireturn C rfl mv_okZ1 ?_ ?_
            all_goals rfl
          · exact absurd rfl c18
        · exact absurd c8 (by decide)
      · rw [hb_and, hb_not _ hi, hb_bit (by omega) hi]
        by_cases e : i = k
        · simp [e]
        · simp [e]
    · refine ⟨_, mv_up (d := 3) (S1 := mv_E (mv_u z 3 8 (z.1 3 8 ||| (1 <<< (nI k &&& 31))))) ?_ rfl, rX_ex hz _ _ (by omega) _ (fun i hi => ?_), fX_u fX_rf (by decide)⟩
      · refine mv_start pX10_exit (some .boolean) [some (.ref 0), some (.int (nI k)), some (.int (nI 1))] rfl rfl rfl rfl (fun V C => ?_)
        refine mv_aload_n C rfl rfl ?_
        refine mv_getR C rfl rfl rfl ?_
        refine mv_iload_n C rfl rfl ?_
        refine mv_cV C rfl (mv_up R0 rfl) (by decide) rfl rfl rfl (Nat.le_of_ble_eq_true rfl) (Nat.le_refl _) (Nat.le_refl _) rfl ?_
        refine mv_if_ne C rfl (fun c8 => ?_) (fun c8 => ?_)
        · refine mv_aload_n C rfl rfl ?_
          refine mv_getR C rfl rfl rfl ?_
          refine mv_iload_n C rfl rfl ?_
          refine mv_if_eq C rfl (fun c18 => ?_) (fun c18 => ?_)
          · exact absurd c18 (by decide)
          · refine mv_aload_n C rfl rfl ?_
            refine mv_getR C rfl rfl rfl ?_
            refine mv_getI C rfl rfl rfl ?_
            refine mv_iload_n C rfl rfl ?_
            refine mv_cS C rfl (mv_up (r_bit _ _) rfl) (by decide) rfl (Nat.le_of_ble_eq_true rfl) (Nat.le_refl _) (Nat.le_refl _) rfl ?_
            refine mv_ior C rfl ?_
            refine mv_goto C rfl ?_
            refine mv_putI C rfl rfl rfl rfl ?_
            refine mv_iconst C rfl ?_
            refine mv_ireturn C rfl mv_okZ1 ?_ ?_
            all_goals rfl
        · exact absurd c8 (by decide)
      · rw [hb_or, hb_bit (by omega) hi]
        by_cases e : i = k
        · simp [e]
        · simp [e]
  · rw [if_neg hc] at R0 ⊢
    rw [if_neg hc]
    refine ⟨_, mv_up (d := 3) (S1 := mv_E z) ?_ rfl, hz, fX_rf⟩
    refine mv_start pX10_exit (some .boolean) [some (.ref 0), some (.int r), some (.int (nI v))] rfl rfl rfl rfl (fun V C => ?_)
    refine mv_aload_n C rfl rfl ?_
    refine mv_getR C rfl rfl rfl ?_
    refine mv_iload_n C rfl rfl ?_
    refine mv_cV C rfl (mv_up R0 rfl) (by decide) rfl rfl rfl (Nat.le_of_ble_eq_true rfl) (Nat.le_refl _) (Nat.le_refl _) rfl ?_
    refine mv_if_ne C rfl (fun c8 => ?_) (fun c8 => ?_)
    · exact absurd rfl c8
    · refine mv_iconst C rfl ?_
      refine mv_ireturn C rfl mv_okZ0 ?_ ?_
      all_goals rfl
theorem m_exit (u : hM) (z : mv_Z) (r : Int32) (v : Nat) (hv : v ≤ 1) (hi : hI u) (hz : rM u z) : mR 120 [.int r, .int (nI v)] u z (.int (a_exit u r)) (o_exit u r v) := by
  have hn := rM_s hz 1 0 (by decide)
  have h40 := hi.1
  have h0 := rM_free hz 68 0 0 (Or.inr ⟨rfl, by decide⟩)
  have R0 := r_mIsParish (mv_u z 68 0 0) r _ hn h40
  unfold a_exit o_exit
  by_cases hc : 0 ≤ r ∧ r < nI (u 0 0)
  · have e := nI_rngc hc.1 hc.2 (by omega)
    rw [if_pos hc] at R0 ⊢
    rw [if_pos hc]
    generalize r.toNatClampNeg = k at *
    obtain ⟨hk, rfl⟩ := e
    refine ⟨_, mv_up (d := 3) (S1 := mv_E (mv_u (mv_u z 68 0 0) 70 k (nI v))) ?_ rfl, rM_arr h0 70 7 _ _ (by decide), fM_u (fM_u fM_rf (by decide)) (by decide)⟩
    refine mv_start pX11_exit (some .boolean) [some (.ref 68), some (.int (nI k)), some (.int (nI v))] rfl rfl rfl rfl (fun V C => ?_)
    refine mv_aload_n C rfl rfl ?_
    refine mv_iconst C rfl ?_
    refine mv_putI C rfl rfl rfl rfl ?_
    refine mv_aload_n C rfl rfl ?_
    refine mv_iload_n C rfl rfl ?_
    refine mv_cV C rfl (mv_up R0 rfl) (by decide) rfl rfl rfl (Nat.le_of_ble_eq_true rfl) (Nat.le_refl _) (Nat.le_refl _) rfl ?_
    refine mv_if_ne C rfl (fun c10 => ?_) (fun c10 => ?_)
    · refine mv_aload_n C rfl rfl ?_
      refine mv_getR C rfl rfl rfl ?_
      refine mv_iload_n C rfl rfl ?_
      refine mv_iload_n C rfl rfl ?_
      refine mv_zst C rfl rfl rfl (by omega) (v01 hv) ?_
      refine mv_iconst C rfl ?_
      refine mv_ireturn C rfl mv_okZ1 ?_ ?_
      all_goals rfl
    · exact absurd c10 (by decide)
  · rw [if_neg hc] at R0 ⊢
    rw [if_neg hc]
    refine ⟨_, mv_up (d := 3) (S1 := mv_E (mv_u z 68 0 0)) ?_ rfl, h0, fM_u fM_rf (by decide)⟩
    refine mv_start pX11_exit (some .boolean) [some (.ref 68), some (.int r), some (.int (nI v))] rfl rfl rfl rfl (fun V C => ?_)
    refine mv_aload_n C rfl rfl ?_
    refine mv_iconst C rfl ?_
    refine mv_putI C rfl rfl rfl rfl ?_
    refine mv_aload_n C rfl rfl ?_
    refine mv_iload_n C rfl rfl ?_
    refine mv_cV C rfl (mv_up R0 rfl) (by decide) rfl rfl rfl (Nat.le_of_ble_eq_true rfl) (Nat.le_refl _) (Nat.le_refl _) rfl ?_
    refine mv_if_ne C rfl (fun c10 => ?_) (fun c10 => ?_)
    · exact absurd rfl c10
    · refine mv_iconst C rfl ?_
      refine mv_ireturn C rfl mv_okZ0 ?_ ?_
      all_goals rfl
-- begin
def a_begin (u : hM) (p : Int32) : Int32 := if 0 ≤ p ∧ p < nI (u 0 0) then 1 else 0
def o_begin (u : hM) (p : Int32) : hM := if 0 ≤ p ∧ p < nI (u 0 0) then hu u 8 0 (p.toNatClampNeg + 1) else u
theorem rX_st {u : hM} {z : mv_Z} (h : rX u z) (p : Nat) : rX (hu u 8 0 (p + 1)) (mv_u z 3 9 (nI p)) := by
  obtain ⟨h1, h2, h3, h4, h5, h6, h7, h8⟩ := h
  unfold rX
  rw [hu_key (k1 := 7) (by decide), hu_key (k1 := 14) (by decide), hu_key (k1 := 18) (by decide), hu_key (k1 := 21) (by decide), hu_key (k1 := 22) (by decide), hu_key (k1 := 23) (by decide), hu_key (k1 := 24) (by decide), hu_key (k1 := 25) (by decide), hu_key (k1 := 26) (by decide), hu_key (k1 := 27) (by decide), hu_key (k1 := 28) (by decide), hu_key (k1 := 30) (by decide), hu_key (k1 := 31) (by decide), hu_key (k1 := 1) (by decide)]
  rw [mv_u_sl (q := 3) (j := 8) (by decide), mv_u_ne (q := 23) (by decide), mv_u_ne (q := 26) (by decide), mv_u_ne (q := 31) (by decide), mv_u_ne (q := 67) (by decide), mv_u_eq]
  refine ⟨rT_keys (rT_out h1 3 9 _ (by decide) (by decide)) ?_ ?_, h2, by rw [hu_self]; rfl, h4, h5, fun a ha => ?_, h7, h8⟩
  · exact fun q hq => hu_key ((tX_keys q hq).2.1)
  · have : ∀ q ∈ sX, q.2.2 ≠ 8 := by decide
    exact fun q hq => by rw [hu_key (this q hq)]
  · rw [mv_u_ne (q := 34 + 4 * a) (by omega), mv_u_ne (q := 35 + 4 * a) (by omega), mv_u_ne (q := 36 + 4 * a) (by omega), mv_u_ne (q := 37 + 4 * a) (by omega)]
    exact h6 a ha
theorem rM_st {u : hM} {z : mv_Z} (h : rM u z) (p : Nat) : rM (hu u 8 0 (p + 1)) (mv_u z 68 9 (nI p)) := by
  obtain ⟨h1, h3, h4, h6, h8⟩ := h
  unfold rM
  rw [hu_key (k1 := 14) (by decide), hu_key (k1 := 21) (by decide), hu_key (k1 := 22) (by decide), hu_key (k1 := 23) (by decide), hu_key (k1 := 24) (by decide), hu_key (k1 := 25) (by decide), hu_key (k1 := 26) (by decide), hu_key (k1 := 30) (by decide), hu_key (k1 := 31) (by decide)]
  rw [mv_u_eq, mv_u_ne (q := 84) (by decide), mv_u_ne (q := 89) (by decide), mv_u_ne (q := 90) (by decide), mv_u_ne (q := 91) (by decide), mv_u_ne (q := 92) (by decide), mv_u_ne (q := 93) (by decide), mv_u_ne (q := 82) (by decide)]
  refine ⟨rT_keys (rT_out h1 68 9 _ (by decide) (by decide)) ?_ ?_, by rw [hu_self]; rfl, h4, h6, h8⟩
  · exact fun q hq => hu_key ((tM_keys q hq).1)
  · have : ∀ q ∈ sM, q.2.2 ≠ 8 := by decide
    exact fun q hq => by rw [hu_key (this q hq)]
theorem x_begin (u : hM) (z : mv_Z) (r : Int32) (hi : hI u) (hz : rX u z) : xR 76 [.int r] u z (.int (a_begin u r)) (o_begin u r) := by
  have hn := rX_s hz 3 6 0 (by decide)
  have h40 := hi.1
  have R0 := r_hasParish z r
  rw [hn] at R0
  unfold a_begin o_begin
  by_cases hc : 0 ≤ r ∧ r < nI (u 0 0)
  · have e := nI_rngc hc.1 hc.2 (by omega)
    rw [if_pos hc] at R0 ⊢
    rw [if_pos hc]
    generalize r.toNatClampNeg = k at *
    obtain ⟨hk, rfl⟩ := e
    refine ⟨_, mv_up (d := 3) (S1 := mv_E (mv_u z 3 9 (nI k))) ?_ rfl, rX_st hz _, fX_u fX_rf (by decide)⟩
    refine mv_start pX10_begin (some .boolean) [some (.ref 0), some (.int (nI k))] rfl rfl rfl rfl (fun V C => ?_)
    refine mv_aload_n C rfl rfl ?_
    refine mv_getR C rfl rfl rfl ?_
    refine mv_iload_n C rfl rfl ?_
    refine mv_cV C rfl (mv_up R0 rfl) (by decide) rfl rfl rfl (Nat.le_of_ble_eq_true rfl) (Nat.le_refl _) (Nat.le_refl _) rfl ?_
    refine mv_if_ne C rfl (fun c8 => ?_) (fun c8 => ?_)
    · refine mv_aload_n C rfl rfl ?_
      refine mv_getR C rfl rfl rfl ?_
      refine mv_iload_n C rfl rfl ?_
      refine mv_putI C rfl rfl rfl rfl ?_
      refine mv_iconst C rfl ?_
      refine mv_ireturn C rfl mv_okZ1 ?_ ?_
      all_goals rfl
    · exact absurd c8 (by decide)
  · rw [if_neg hc] at R0 ⊢
    rw [if_neg hc]
    refine ⟨_, mv_up (d := 3) (S1 := mv_E z) ?_ rfl, hz, fX_rf⟩
    refine mv_start pX10_begin (some .boolean) [some (.ref 0), some (.int r)] rfl rfl rfl rfl (fun V C => ?_)
    refine mv_aload_n C rfl rfl ?_
    refine mv_getR C rfl rfl rfl ?_
    refine mv_iload_n C rfl rfl ?_
    refine mv_cV C rfl (mv_up R0 rfl) (by decide) rfl rfl rfl (Nat.le_of_ble_eq_true rfl) (Nat.le_refl _) (Nat.le_refl _) rfl ?_
    refine mv_if_ne C rfl (fun c8 => ?_) (fun c8 => ?_)
    · exact absurd rfl c8
    · refine mv_iconst C rfl ?_
      refine mv_ireturn C rfl mv_okZ0 ?_ ?_
      all_goals rfl
theorem m_begin (u : hM) (z : mv_Z) (r : Int32) (hi : hI u) (hz : rM u z) : mR 121 [.int r] u z (.int (a_begin u r)) (o_begin u r) := by
  have hn := rM_s hz 1 0 (by decide)
  have h40 := hi.1
  have h0 := rM_free hz 68 0 0 (Or.inr ⟨rfl, by decide⟩)
  have R0 := r_mIsParish (mv_u z 68 0 0) r _ hn h40
  unfold a_begin o_begin
  by_cases hc : 0 ≤ r ∧ r < nI (u 0 0)
  · have e := nI_rngc hc.1 hc.2 (by omega)
    rw [if_pos hc] at R0 ⊢
    rw [if_pos hc]
    generalize r.toNatClampNeg = k at *
    obtain ⟨hk, rfl⟩ := e
    refine ⟨_, mv_up (d := 3) (S1 := mv_E (mv_u (mv_u z 68 0 0) 68 9 (nI k))) ?_ rfl, rM_st h0 _, fM_u (fM_u fM_rf (by decide)) (by decide)⟩
    refine mv_start pX11_begin (some .boolean) [some (.ref 68), some (.int (nI k))] rfl rfl rfl rfl (fun V C => ?_)
    refine mv_aload_n C rfl rfl ?_
    refine mv_iconst C rfl ?_
    refine mv_putI C rfl rfl rfl rfl ?_
    refine mv_aload_n C rfl rfl ?_
    refine mv_iload_n C rfl rfl ?_
    refine mv_cV C rfl (mv_up R0 rfl) (by decide) rfl rfl rfl (Nat.le_of_ble_eq_true rfl) (Nat.le_refl _) (Nat.le_refl _) rfl ?_
    refine mv_if_ne C rfl (fun c10 => ?_) (fun c10 => ?_)
    · refine mv_aload_n C rfl rfl ?_
      refine mv_iload_n C rfl rfl ?_
      refine mv_putI C rfl rfl rfl rfl ?_
      refine mv_iconst C rfl ?_
      refine mv_ireturn C rfl mv_okZ1 ?_ ?_
      all_goals rfl
    · exact absurd c10 (by decide)
  · rw [if_neg hc] at R0 ⊢
    rw [if_neg hc]
    refine ⟨_, mv_up (d := 3) (S1 := mv_E (mv_u z 68 0 0)) ?_ rfl, h0, fM_u fM_rf (by decide)⟩
    refine mv_start pX11_begin (some .boolean) [some (.ref 68), some (.int r)] rfl rfl rfl rfl (fun V C => ?_)
    refine mv_aload_n C rfl rfl ?_
    refine mv_iconst C rfl ?_
    refine mv_putI C rfl rfl rfl rfl ?_
    refine mv_aload_n C rfl rfl ?_
    refine mv_iload_n C rfl rfl ?_
    refine mv_cV C rfl (mv_up R0 rfl) (by decide) rfl rfl rfl (Nat.le_of_ble_eq_true rfl) (Nat.le_refl _) (Nat.le_refl _) rfl ?_
    refine mv_if_ne C rfl (fun c10 => ?_) (fun c10 => ?_)
    · exact absurd rfl c10
    · refine mv_iconst C rfl ?_
      refine mv_ireturn C rfl mv_okZ0 ?_ ?_
      all_goals rfl
-- seen, vain, guarded
def a_fact (u : hM) (key : Nat) (o h : Int32) : Int32 := if (0 ≤ o ∧ o < nI (u key 0)) ∧ (0 ≤ h ∧ h < 48) ∧ u 9 0 < 40 then nI (u 9 0) else -1
def o_fact (u : hM) (key : Nat) (k : Nat) (o h : Int32) : hM := if (0 ≤ o ∧ o < nI (u key 0)) ∧ (0 ≤ h ∧ h < 48) ∧ u 9 0 < 40 then hu (hu (hu (hu u 10 (u 9 0) k) 11 (u 9 0) o.toNatClampNeg) 12 (u 9 0) h.toNatClampNeg) 9 0 (u 9 0 + 1) else u
theorem x_seen (u : hM) (z : mv_Z) (o h : Int32) (hi : hI u) (hz : rX u z) : xR 79 [.int o, .int h] u z (.int (a_fact u 0 o h)) (o_fact u 0 0 o h) := by
  have hn := rX_s hz 3 6 0 (by decide)
  have hf := rX_s hz 10 4 9 (by decide)
  have h40 : u 9 0 ≤ 40 := hi.2.2.2.2.2.2.2.1
  have R0 := r_hasParish z o
  rw [hn] at R0
  have R1 := r_factsAdd z 0 o h _ hf h40
  unfold a_fact o_fact
  by_cases hc : 0 ≤ o ∧ o < nI (u 0 0)
  · rw [if_pos hc] at R0
    refine ⟨_, mv_up (d := 3) (S1 := mv_E (if (0 ≤ h ∧ h < 48) ∧ u 9 0 < 40 then mv_u (mv_u (mv_u (mv_u z 11 (u 9 0) 0) 12 (u 9 0) o) 13 (u 9 0) h) 10 4 (nI (u 9 0 + 1)) else z)) ?_ rfl, ?_, ?_⟩
    · have e1 : (if (0 ≤ o ∧ o < nI (u 0 0)) ∧ (0 ≤ h ∧ h < 48) ∧ u 9 0 < 40 then nI (u 9 0) else -1) = (if (0 ≤ h ∧ h < 48) ∧ u 9 0 < 40 then nI (u 9 0) else -1) := by simp only [hc, and_self, true_and]
      rw [e1]
      refine mv_start pX10_seen (some .int) [some (.ref 0), some (.int o), some (.int h)] rfl rfl rfl rfl (fun V C => ?_)
      refine mv_aload_n C rfl rfl ?_
      refine mv_getR C rfl rfl rfl ?_
      refine mv_iload_n C rfl rfl ?_
      refine mv_cV C rfl (mv_up R0 rfl) (by decide) rfl rfl rfl (Nat.le_of_ble_eq_true rfl) (Nat.le_refl _) (Nat.le_refl _) rfl ?_
      refine mv_if_eq C rfl (fun c8 => ?_) (fun c8 => ?_)
      · exact absurd c8 (by decide)
      · refine mv_aload_n C rfl rfl ?_
        refine mv_getR C rfl rfl rfl ?_
        refine mv_iconst C rfl ?_
        refine mv_iload_n C rfl rfl ?_
        refine mv_iload_n C rfl rfl ?_
        refine mv_cV C rfl R1 (by decide) rfl rfl rfl (Nat.le_of_ble_eq_true rfl) (Nat.le_refl _) (Nat.le_refl _) rfl ?_
        refine mv_goto C rfl ?_
        refine mv_ireturn C rfl mv_okI ?_ ?_
        all_goals rfl
    · by_cases h2 : (0 ≤ h ∧ h < 48) ∧ u 9 0 < 40
      · rw [if_pos h2, if_pos (show (0 ≤ o ∧ o < nI (u 0 0)) ∧ (0 ≤ h ∧ h < 48) ∧ u 9 0 < 40 from ⟨hc, h2⟩)]
        have eo := nI_nn hc.1
        have eh := nI_nn h2.1.1
        generalize o.toNatClampNeg = ko at *
        generalize h.toNatClampNeg = kh at *
        subst eo; subst eh
        exact rX_sc (rX_arr (rX_arr (rX_arr hz 11 10 _ _ (by decide) (by decide)) 12 11 _ _ (by decide) (by decide)) 13 12 _ _ (by decide) (by decide)) 10 4 9 _ (by decide)
      · rw [if_neg h2, if_neg (show ¬ ((0 ≤ o ∧ o < nI (u 0 0)) ∧ (0 ≤ h ∧ h < 48) ∧ u 9 0 < 40) from fun q => h2 q.2)]; exact hz
    · split
      · exact fX_u (fX_u (fX_u (fX_u fX_rf (by decide)) (by decide)) (by decide)) (by decide)
      · exact fX_rf
  · rw [if_neg hc] at R0
    rw [if_neg (fun q => hc q.1), if_neg (fun q => hc q.1)]
    refine ⟨_, mv_up (d := 3) (S1 := mv_E z) ?_ rfl, hz, fX_rf⟩
    refine mv_start pX10_seen (some .int) [some (.ref 0), some (.int o), some (.int h)] rfl rfl rfl rfl (fun V C => ?_)
    refine mv_aload_n C rfl rfl ?_
    refine mv_getR C rfl rfl rfl ?_
    refine mv_iload_n C rfl rfl ?_
    refine mv_cV C rfl (mv_up R0 rfl) (by decide) rfl rfl rfl (Nat.le_of_ble_eq_true rfl) (Nat.le_refl _) (Nat.le_refl _) rfl ?_
    refine mv_if_eq C rfl (fun c8 => ?_) (fun c8 => ?_)
    · refine mv_iconst C rfl ?_
      refine mv_ireturn C rfl mv_okI ?_ ?_
      all_goals rfl
    · exact absurd rfl c8
theorem x_vain (u : hM) (z : mv_Z) (o h : Int32) (hi : hI u) (hz : rX u z) : xR 80 [.int o, .int h] u z (.int (a_fact u 0 o h)) (o_fact u 0 1 o h) := by
  have hn := rX_s hz 3 6 0 (by decide)
  have hf := rX_s hz 10 4 9 (by decide)
  have h40 : u 9 0 ≤ 40 := hi.2.2.2.2.2.2.2.1
  have R0 := r_hasParish z o
  rw [hn] at R0
  have R1 := r_factsAdd z 1 o h _ hf h40
  unfold a_fact o_fact
  by_cases hc : 0 ≤ o ∧ o < nI (u 0 0)
  · rw [if_pos hc] at R0
    refine ⟨_, mv_up (d := 3) (S1 := mv_E (if (0 ≤ h ∧ h < 48) ∧ u 9 0 < 40 then mv_u (mv_u (mv_u (mv_u z 11 (u 9 0) 1) 12 (u 9 0) o) 13 (u 9 0) h) 10 4 (nI (u 9 0 + 1)) else z)) ?_ rfl, ?_, ?_⟩
    · have e1 : (if (0 ≤ o ∧ o < nI (u 0 0)) ∧ (0 ≤ h ∧ h < 48) ∧ u 9 0 < 40 then nI (u 9 0) else -1) = (if (0 ≤ h ∧ h < 48) ∧ u 9 0 < 40 then nI (u 9 0) else -1) := by simp only [hc, and_self, true_and]
      rw [e1]
      refine mv_start pX10_vain (some .int) [some (.ref 0), some (.int o), some (.int h)] rfl rfl rfl rfl (fun V C => ?_)
      refine mv_aload_n C rfl rfl ?_
      refine mv_getR C rfl rfl rfl ?_
      refine mv_iload_n C rfl rfl ?_
      refine mv_cV C rfl (mv_up R0 rfl) (by decide) rfl rfl rfl (Nat.le_of_ble_eq_true rfl) (Nat.le_refl _) (Nat.le_refl _) rfl ?_
      refine mv_if_eq C rfl (fun c8 => ?_) (fun c8 => ?_)
      · exact absurd c8 (by decide)
      · refine mv_aload_n C rfl rfl ?_
        refine mv_getR C rfl rfl rfl ?_
        refine mv_iconst C rfl ?_
        refine mv_iload_n C rfl rfl ?_
        refine mv_iload_n C rfl rfl ?_
        refine mv_cV C rfl R1 (by decide) rfl rfl rfl (Nat.le_of_ble_eq_true rfl) (Nat.le_refl _) (Nat.le_refl _) rfl ?_
        refine mv_goto C rfl ?_
        refine mv_ireturn C rfl mv_okI ?_ ?_
        all_goals rfl
    · by_cases h2 : (0 ≤ h ∧ h < 48) ∧ u 9 0 < 40
      · rw [if_pos h2, if_pos (show (0 ≤ o ∧ o < nI (u 0 0)) ∧ (0 ≤ h ∧ h < 48) ∧ u 9 0 < 40 from ⟨hc, h2⟩)]
        have eo := nI_nn hc.1
        have eh := nI_nn h2.1.1
        generalize o.toNatClampNeg = ko at *
        generalize h.toNatClampNeg = kh at *
        subst eo; subst eh
        exact rX_sc (rX_arr (rX_arr (rX_arr hz 11 10 _ _ (by decide) (by decide)) 12 11 _ _ (by decide) (by decide)) 13 12 _ _ (by decide) (by decide)) 10 4 9 _ (by decide)
      · rw [if_neg h2, if_neg (show ¬ ((0 ≤ o ∧ o < nI (u 0 0)) ∧ (0 ≤ h ∧ h < 48) ∧ u 9 0 < 40) from fun q => h2 q.2)]; exact hz
    · split
      · exact fX_u (fX_u (fX_u (fX_u fX_rf (by decide)) (by decide)) (by decide)) (by decide)
      · exact fX_rf
  · rw [if_neg hc] at R0
    rw [if_neg (fun q => hc q.1), if_neg (fun q => hc q.1)]
    refine ⟨_, mv_up (d := 3) (S1 := mv_E z) ?_ rfl, hz, fX_rf⟩
    refine mv_start pX10_vain (some .int) [some (.ref 0), some (.int o), some (.int h)] rfl rfl rfl rfl (fun V C => ?_)
    refine mv_aload_n C rfl rfl ?_
    refine mv_getR C rfl rfl rfl ?_
    refine mv_iload_n C rfl rfl ?_
    refine mv_cV C rfl (mv_up R0 rfl) (by decide) rfl rfl rfl (Nat.le_of_ble_eq_true rfl) (Nat.le_refl _) (Nat.le_refl _) rfl ?_
    refine mv_if_eq C rfl (fun c8 => ?_) (fun c8 => ?_)
    · refine mv_iconst C rfl ?_
      refine mv_ireturn C rfl mv_okI ?_ ?_
      all_goals rfl
    · exact absurd rfl c8
theorem x_guarded (u : hM) (z : mv_Z) (o h : Int32) (hi : hI u) (hz : rX u z) : xR 81 [.int o, .int h] u z (.int (a_fact u 2 o h)) (o_fact u 2 2 o h) := by
  have hn := rX_s hz 3 7 2 (by decide)
  have hf := rX_s hz 10 4 9 (by decide)
  have h40 : u 9 0 ≤ 40 := hi.2.2.2.2.2.2.2.1
  have R0 := r_hasRoad z o
  rw [hn] at R0
  have R1 := r_factsAdd z 2 o h _ hf h40
  unfold a_fact o_fact
  by_cases hc : 0 ≤ o ∧ o < nI (u 2 0)
  · rw [if_pos hc] at R0
    refine ⟨_, mv_up (d := 3) (S1 := mv_E (if (0 ≤ h ∧ h < 48) ∧ u 9 0 < 40 then mv_u (mv_u (mv_u (mv_u z 11 (u 9 0) 2) 12 (u 9 0) o) 13 (u 9 0) h) 10 4 (nI (u 9 0 + 1)) else z)) ?_ rfl, ?_, ?_⟩
    · have e1 : (if (0 ≤ o ∧ o < nI (u 2 0)) ∧ (0 ≤ h ∧ h < 48) ∧ u 9 0 < 40 then nI (u 9 0) else -1) = (if (0 ≤ h ∧ h < 48) ∧ u 9 0 < 40 then nI (u 9 0) else -1) := by simp only [hc, and_self, true_and]
      rw [e1]
      refine mv_start pX10_guarded (some .int) [some (.ref 0), some (.int o), some (.int h)] rfl rfl rfl rfl (fun V C => ?_)
      refine mv_aload_n C rfl rfl ?_
      refine mv_getR C rfl rfl rfl ?_
      refine mv_iload_n C rfl rfl ?_
      refine mv_cV C rfl (mv_up R0 rfl) (by decide) rfl rfl rfl (Nat.le_of_ble_eq_true rfl) (Nat.le_refl _) (Nat.le_refl _) rfl ?_
      refine mv_if_eq C rfl (fun c8 => ?_) (fun c8 => ?_)
      · exact absurd c8 (by decide)
      · refine mv_aload_n C rfl rfl ?_
        refine mv_getR C rfl rfl rfl ?_
        refine mv_iconst C rfl ?_
        refine mv_iload_n C rfl rfl ?_
        refine mv_iload_n C rfl rfl ?_
        refine mv_cV C rfl R1 (by decide) rfl rfl rfl (Nat.le_of_ble_eq_true rfl) (Nat.le_refl _) (Nat.le_refl _) rfl ?_
        refine mv_goto C rfl ?_
        refine mv_ireturn C rfl mv_okI ?_ ?_
        all_goals rfl
    · by_cases h2 : (0 ≤ h ∧ h < 48) ∧ u 9 0 < 40
      · rw [if_pos h2, if_pos (show (0 ≤ o ∧ o < nI (u 2 0)) ∧ (0 ≤ h ∧ h < 48) ∧ u 9 0 < 40 from ⟨hc, h2⟩)]
        have eo := nI_nn hc.1
        have eh := nI_nn h2.1.1
        generalize o.toNatClampNeg = ko at *
        generalize h.toNatClampNeg = kh at *
        subst eo; subst eh
        exact rX_sc (rX_arr (rX_arr (rX_arr hz 11 10 _ _ (by decide) (by decide)) 12 11 _ _ (by decide) (by decide)) 13 12 _ _ (by decide) (by decide)) 10 4 9 _ (by decide)
      · rw [if_neg h2, if_neg (show ¬ ((0 ≤ o ∧ o < nI (u 2 0)) ∧ (0 ≤ h ∧ h < 48) ∧ u 9 0 < 40) from fun q => h2 q.2)]; exact hz
    · split
      · exact fX_u (fX_u (fX_u (fX_u fX_rf (by decide)) (by decide)) (by decide)) (by decide)
      · exact fX_rf
  · rw [if_neg hc] at R0
    rw [if_neg (fun q => hc q.1), if_neg (fun q => hc q.1)]
    refine ⟨_, mv_up (d := 3) (S1 := mv_E z) ?_ rfl, hz, fX_rf⟩
    refine mv_start pX10_guarded (some .int) [some (.ref 0), some (.int o), some (.int h)] rfl rfl rfl rfl (fun V C => ?_)
    refine mv_aload_n C rfl rfl ?_
    refine mv_getR C rfl rfl rfl ?_
    refine mv_iload_n C rfl rfl ?_
    refine mv_cV C rfl (mv_up R0 rfl) (by decide) rfl rfl rfl (Nat.le_of_ble_eq_true rfl) (Nat.le_refl _) (Nat.le_refl _) rfl ?_
    refine mv_if_eq C rfl (fun c8 => ?_) (fun c8 => ?_)
    · refine mv_iconst C rfl ?_
      refine mv_ireturn C rfl mv_okI ?_ ?_
      all_goals rfl
    · exact absurd rfl c8
theorem m_seen (u : hM) (z : mv_Z) (o h : Int32) (hi : hI u) (hz : rM u z) : mR 125 [.int o, .int h] u z (.int (a_fact u 0 o h)) (o_fact u 0 0 o h) := by
  have hn := rM_s hz 1 0 (by decide)
  have hf := rM_s hz 11 9 (by decide)
  have h40 : u 9 0 ≤ 40 := hi.2.2.2.2.2.2.2.1
  have h0 := rM_free hz 68 0 0 (Or.inr ⟨rfl, by decide⟩)
  have R0 := r_mIsParish (mv_u z 68 0 0) o _ hn hi.1
  have R1 := r_mFact (mv_u z 68 0 0) 0 (if 0 ≤ o ∧ o < nI (u 0 0) then 1 else 0) o h _ hf h40
  have ec : (¬ (if 0 ≤ o ∧ o < nI (u 0 0) then (1 : Int32) else 0) = 0 ∧ (0 ≤ h ∧ h < 48) ∧ u 9 0 < 40) ↔ ((0 ≤ o ∧ o < nI (u 0 0)) ∧ (0 ≤ h ∧ h < 48) ∧ u 9 0 < 40) := by rw [b10]
  simp only [ec] at R1
  unfold a_fact o_fact
  refine ⟨_, mv_up (d := 4) (S1 := mv_E (if (0 ≤ o ∧ o < nI (u 0 0)) ∧ (0 ≤ h ∧ h < 48) ∧ u 9 0 < 40 then mv_u (mv_u (mv_u (mv_u (mv_u (mv_u z 68 0 0) 76 (u 9 0) 0) 77 (u 9 0) o) 78 (u 9 0) h) 79 (u 9 0) 0) 68 11 (nI (u 9 0 + 1)) else mv_u z 68 0 0)) ?_ rfl, ?_, ?_⟩
  · refine mv_start pX11_seen (some .int) [some (.ref 68), some (.int o), some (.int h)] rfl rfl rfl rfl (fun V C => ?_)
    refine mv_aload_n C rfl rfl ?_
    refine mv_iconst C rfl ?_
    refine mv_putI C rfl rfl rfl rfl ?_
    refine mv_aload_n C rfl rfl ?_
    refine mv_iconst C rfl ?_
    refine mv_aload_n C rfl rfl ?_
    refine mv_iload_n C rfl rfl ?_
    refine mv_cV C rfl (mv_up R0 rfl) (by decide) rfl rfl rfl (Nat.le_of_ble_eq_true rfl) (Nat.le_refl _) (Nat.le_refl _) rfl ?_
    refine mv_iload_n C rfl rfl ?_
    refine mv_iload_n C rfl rfl ?_
    refine mv_cV C rfl R1 (by decide) rfl rfl rfl (Nat.le_of_ble_eq_true rfl) (Nat.le_refl _) (Nat.le_refl _) rfl ?_
    refine mv_ireturn C rfl mv_okI ?_ ?_
    all_goals rfl
  · split
    · rename_i h2
      have eo := nI_nn h2.1.1
      have eh := nI_nn h2.2.1.1
      generalize o.toNatClampNeg = ko at *
      generalize h.toNatClampNeg = kh at *
      subst eo; subst eh
      have hs : u 13 (u 9 0) = 0 := (hi.2.2.2.2.2.2.2.2.2.1 (u 9 0)).2 (Nat.le_refl _)
      have h1 := rM_arr (rM_arr (rM_arr h0 76 10 (u 9 0) 0 (by decide)) 77 11 (u 9 0) ko (by decide)) 78 12 (u 9 0) kh (by decide)
      have h3 := rM_arr h1 79 13 (u 9 0) 0 (by decide)
      have e13 : hu (hu (hu (hu u 10 (u 9 0) 0) 11 (u 9 0) ko) 12 (u 9 0) kh) 13 (u 9 0) 0 = hu (hu (hu u 10 (u 9 0) 0) 11 (u 9 0) ko) 12 (u 9 0) kh := by
        funext a b
        by_cases e : a = 13 ∧ b = u 9 0
        · obtain ⟨rfl, rfl⟩ := e
          rw [hu_self]
          rw [hu_key (by decide), hu_key (by decide), hu_key (by decide)]
          exact hs.symm
        · simp only [hu]; rw [if_neg e]
      rw [e13] at h3
      exact rM_sc h3 11 9 _ (by decide)
    · exact h0
  · split
    · exact fM_u (fM_u (fM_u (fM_u (fM_u (fM_u fM_rf (by decide)) (by decide)) (by decide)) (by decide)) (by decide)) (by decide)
    · exact fM_u fM_rf (by decide)
theorem m_vain (u : hM) (z : mv_Z) (o h : Int32) (hi : hI u) (hz : rM u z) : mR 126 [.int o, .int h] u z (.int (a_fact u 0 o h)) (o_fact u 0 1 o h) := by
  have hn := rM_s hz 1 0 (by decide)
  have hf := rM_s hz 11 9 (by decide)
  have h40 : u 9 0 ≤ 40 := hi.2.2.2.2.2.2.2.1
  have h0 := rM_free hz 68 0 0 (Or.inr ⟨rfl, by decide⟩)
  have R0 := r_mIsParish (mv_u z 68 0 0) o _ hn hi.1
  have R1 := r_mFact (mv_u z 68 0 0) 1 (if 0 ≤ o ∧ o < nI (u 0 0) then 1 else 0) o h _ hf h40
  have ec : (¬ (if 0 ≤ o ∧ o < nI (u 0 0) then (1 : Int32) else 0) = 0 ∧ (0 ≤ h ∧ h < 48) ∧ u 9 0 < 40) ↔ ((0 ≤ o ∧ o < nI (u 0 0)) ∧ (0 ≤ h ∧ h < 48) ∧ u 9 0 < 40) := by rw [b10]
  simp only [ec] at R1
  unfold a_fact o_fact
  refine ⟨_, mv_up (d := 4) (S1 := mv_E (if (0 ≤ o ∧ o < nI (u 0 0)) ∧ (0 ≤ h ∧ h < 48) ∧ u 9 0 < 40 then mv_u (mv_u (mv_u (mv_u (mv_u (mv_u z 68 0 0) 76 (u 9 0) 1) 77 (u 9 0) o) 78 (u 9 0) h) 79 (u 9 0) 0) 68 11 (nI (u 9 0 + 1)) else mv_u z 68 0 0)) ?_ rfl, ?_, ?_⟩
  · refine mv_start pX11_vain (some .int) [some (.ref 68), some (.int o), some (.int h)] rfl rfl rfl rfl (fun V C => ?_)
    refine mv_aload_n C rfl rfl ?_
    refine mv_iconst C rfl ?_
    refine mv_putI C rfl rfl rfl rfl ?_
    refine mv_aload_n C rfl rfl ?_
    refine mv_iconst C rfl ?_
    refine mv_aload_n C rfl rfl ?_
    refine mv_iload_n C rfl rfl ?_
    refine mv_cV C rfl (mv_up R0 rfl) (by decide) rfl rfl rfl (Nat.le_of_ble_eq_true rfl) (Nat.le_refl _) (Nat.le_refl _) rfl ?_
    refine mv_iload_n C rfl rfl ?_
    refine mv_iload_n C rfl rfl ?_
    refine mv_cV C rfl R1 (by decide) rfl rfl rfl (Nat.le_of_ble_eq_true rfl) (Nat.le_refl _) (Nat.le_refl _) rfl ?_
    refine mv_ireturn C rfl mv_okI ?_ ?_
    all_goals rfl
  · split
    · rename_i h2
      have eo := nI_nn h2.1.1
      have eh := nI_nn h2.2.1.1
      generalize o.toNatClampNeg = ko at *
      generalize h.toNatClampNeg = kh at *
      subst eo; subst eh
      have hs : u 13 (u 9 0) = 0 := (hi.2.2.2.2.2.2.2.2.2.1 (u 9 0)).2 (Nat.le_refl _)
      have h1 := rM_arr (rM_arr (rM_arr h0 76 10 (u 9 0) 1 (by decide)) 77 11 (u 9 0) ko (by decide)) 78 12 (u 9 0) kh (by decide)
      have h3 := rM_arr h1 79 13 (u 9 0) 0 (by decide)
      have e13 : hu (hu (hu (hu u 10 (u 9 0) 1) 11 (u 9 0) ko) 12 (u 9 0) kh) 13 (u 9 0) 0 = hu (hu (hu u 10 (u 9 0) 1) 11 (u 9 0) ko) 12 (u 9 0) kh := by
        funext a b
        by_cases e : a = 13 ∧ b = u 9 0
        · obtain ⟨rfl, rfl⟩ := e
          rw [hu_self]
          rw [hu_key (by decide), hu_key (by decide), hu_key (by decide)]
          exact hs.symm
        · simp only [hu]; rw [if_neg e]
      rw [e13] at h3
      exact rM_sc h3 11 9 _ (by decide)
    · exact h0
  · split
    · exact fM_u (fM_u (fM_u (fM_u (fM_u (fM_u fM_rf (by decide)) (by decide)) (by decide)) (by decide)) (by decide)) (by decide)
    · exact fM_u fM_rf (by decide)
theorem m_guarded (u : hM) (z : mv_Z) (o h : Int32) (hi : hI u) (hz : rM u z) : mR 127 [.int o, .int h] u z (.int (a_fact u 2 o h)) (o_fact u 2 2 o h) := by
  have hn := rM_s hz 4 2 (by decide)
  have hf := rM_s hz 11 9 (by decide)
  have h40 : u 9 0 ≤ 40 := hi.2.2.2.2.2.2.2.1
  have h0 := rM_free hz 68 0 0 (Or.inr ⟨rfl, by decide⟩)
  have R0 := r_inI (mv_u z 68 0 0) o 0 (nI (u 2 0) - 1 : Int32).toInt64 _ (inN (by have := hi.2.2.1; omega))
  have R1 := r_mFact (mv_u z 68 0 0) 2 (if 0 ≤ o ∧ o < nI (u 2 0) then 1 else 0) o h _ hf h40
  have ec : (¬ (if 0 ≤ o ∧ o < nI (u 2 0) then (1 : Int32) else 0) = 0 ∧ (0 ≤ h ∧ h < 48) ∧ u 9 0 < 40) ↔ ((0 ≤ o ∧ o < nI (u 2 0)) ∧ (0 ≤ h ∧ h < 48) ∧ u 9 0 < 40) := by rw [b10]
  simp only [ec] at R1
  unfold a_fact o_fact
  refine ⟨_, mv_up (d := 4) (S1 := mv_E (if (0 ≤ o ∧ o < nI (u 2 0)) ∧ (0 ≤ h ∧ h < 48) ∧ u 9 0 < 40 then mv_u (mv_u (mv_u (mv_u (mv_u (mv_u z 68 0 0) 76 (u 9 0) 2) 77 (u 9 0) o) 78 (u 9 0) h) 79 (u 9 0) 0) 68 11 (nI (u 9 0 + 1)) else mv_u z 68 0 0)) ?_ rfl, ?_, ?_⟩
  · refine mv_start pX11_guarded (some .int) [some (.ref 68), some (.int o), some (.int h)] rfl rfl rfl rfl (fun V C => ?_)
    refine mv_aload_n C rfl rfl ?_
    refine mv_iconst C rfl ?_
    refine mv_putI C rfl rfl rfl rfl ?_
    refine mv_aload_n C rfl rfl ?_
    refine mv_iconst C rfl ?_
    refine mv_iload_n C rfl rfl ?_
    refine mv_i2l C rfl ?_
    refine mv_lconst C rfl ?_
    refine mv_aload_n C rfl rfl ?_
    refine mv_getJ C rfl rfl rfl hn ?_
    refine mv_iconst C rfl ?_
    refine mv_isub C rfl ?_
    refine mv_i2l C rfl ?_
    refine mv_cS C rfl (mv_up R0 rfl) (by decide) rfl (Nat.le_of_ble_eq_true rfl) (Nat.le_refl _) (Nat.le_refl _) rfl ?_
    refine mv_iload_n C rfl rfl ?_
    refine mv_iload_n C rfl rfl ?_
    refine mv_cV C rfl R1 (by decide) rfl rfl rfl (Nat.le_of_ble_eq_true rfl) (Nat.le_refl _) (Nat.le_refl _) rfl ?_
    refine mv_ireturn C rfl mv_okI ?_ ?_
    all_goals rfl
  · split
    · rename_i h2
      have eo := nI_nn h2.1.1
      have eh := nI_nn h2.2.1.1
      generalize o.toNatClampNeg = ko at *
      generalize h.toNatClampNeg = kh at *
      subst eo; subst eh
      have hs : u 13 (u 9 0) = 0 := (hi.2.2.2.2.2.2.2.2.2.1 (u 9 0)).2 (Nat.le_refl _)
      have h1 := rM_arr (rM_arr (rM_arr h0 76 10 (u 9 0) 2 (by decide)) 77 11 (u 9 0) ko (by decide)) 78 12 (u 9 0) kh (by decide)
      have h3 := rM_arr h1 79 13 (u 9 0) 0 (by decide)
      have e13 : hu (hu (hu (hu u 10 (u 9 0) 2) 11 (u 9 0) ko) 12 (u 9 0) kh) 13 (u 9 0) 0 = hu (hu (hu u 10 (u 9 0) 2) 11 (u 9 0) ko) 12 (u 9 0) kh := by
        funext a b
        by_cases e : a = 13 ∧ b = u 9 0
        · obtain ⟨rfl, rfl⟩ := e
          rw [hu_self]
          rw [hu_key (by decide), hu_key (by decide), hu_key (by decide)]
          exact hs.symm
        · simp only [hu]; rw [if_neg e]
      rw [e13] at h3
      exact rM_sc h3 11 9 _ (by decide)
    · exact h0
  · split
    · exact fM_u (fM_u (fM_u (fM_u (fM_u (fM_u fM_rf (by decide)) (by decide)) (by decide)) (by decide)) (by decide)) (by decide)
    · exact fM_u fM_rf (by decide)
end

