section
def f18 (u : hM) (n A B i : Nat) : Nat → Int32 := fun q => nI (if 6 * n ≤ q ∧ q < 6 * n + i then dig A B (q - 6 * n) else u 18 q)
theorem f18_step (u : hM) (n A B i : Nat) : upd (f18 u n A B i) (6 * n + i) (nI (dig A B i)) = f18 u n A B (i + 1) := by
  funext q
  by_cases e : q = 6 * n + i
  · subst e
    simp only [upd, if_true, f18]
    rw [if_pos (by omega), show 6 * n + i - 6 * n = i by omega]
  · simp only [upd, e, if_false, f18]
    by_cases h : 6 * n ≤ q ∧ q < 6 * n + i
    · rw [if_pos h, if_pos (by omega)]
    · rw [if_neg h, if_neg (by omega)]
theorem dig_val {A B k : Nat} (hA : A < 32768) (hB : B < 32768) (hk : k < 6) : (nI (if k < 3 then A else B) >>> ((10 - 5 * (nI k - nI k / 3 * 3) : Int32) &&& 31)) &&& 31 = nI (dig A B k) := by
  have e1 : nI k - nI k / 3 * 3 = nI (k % 3) := pk_rem (a := k) (d := 3) (by omega) (by decide) (by decide)
  have e2 : (5 : Int32) * nI (k % 3) = nI (5 * (k % 3)) := pk_mul 5 (k % 3)
  have e3 : (10 : Int32) - nI (5 * (k % 3)) = nI (10 - 5 * (k % 3)) := pk_sub (a := 10) (b := 5 * (k % 3)) (by omega)
  have hl : (if k < 3 then A else B) < 32768 := by split <;> assumption
  rw [e1, e2, e3, nI_shr (by omega) (by omega), nI_and31 (by have := Nat.div_le_self (if k < 3 then A else B) (2 ^ (10 - 5 * (k % 3))); omega)]
  rfl
theorem m_person (u : hM) (z : mv_Z) (p a b : Int32) (hi : hI u) (hz : rM u z) : mR 150 [.int p, .int a, .int b] u z (.int (a_person u p a b)) (o_person u p a b) := by
  have h0 := rM_free hz 68 0 0 (Or.inr ⟨rfl, by decide⟩)
  have hn := rM_s h0 1 0 (by decide)
  have hf := rM_s h0 23 16 (by decide)
  have h24 := hi.1
  have h30 : u 16 0 ≤ 30 := hi.2.2.2.2.2.2.2.2.2.2.2.1
  have R0 := r_mIsParish (mv_u z 68 0 0) p _ hn h24
  have Ra := r_inI (mv_u z 68 0 0) a 0 32767 (0 ≤ a ∧ a ≤ 32767) (by rw [i32_le, i32_le, i32_0, i32_32767, l64_0, l64_32767])
  have Rb := r_inI (mv_u z 68 0 0) b 0 32767 (0 ≤ b ∧ b ≤ 32767) (by rw [i32_le, i32_le, i32_0, i32_32767, l64_0, l64_32767])
  unfold a_person o_person
  by_cases hc : (0 ≤ p ∧ p < nI (u 0 0)) ∧ (0 ≤ a ∧ a ≤ 32767) ∧ (0 ≤ b ∧ b ≤ 32767) ∧ u 16 0 < 30
  · rw [if_pos hc, if_pos hc]
    obtain ⟨hp, ha, hb, h3⟩ := hc
    rw [if_pos hp] at R0
    rw [if_pos ha] at Ra
    rw [if_pos hb] at Rb
    have ep := nI_nn hp.1
    have ea := nI_nn ha.1
    have eb := nI_nn hb.1
    have la := le32767 ha.1 ha.2
    have lb := le32767 hb.1 hb.2
    generalize p.toNatClampNeg = P at *
    generalize a.toNatClampNeg = A at *
    generalize b.toNatClampNeg = B at *
    subst ep; subst ea; subst eb
    have hw := rM_arr h0 86 17 (u 16 0) P (by decide)
    refine ⟨_, mv_up (d := 3) (S1 := mv_E (mv_u (mv_w (mv_u (mv_u z 68 0 0) 86 (u 16 0) (nI P)) 87 (f18 u (u 16 0) A B 6)) 68 23 (nI (u 16 0 + 1)))) ?_ rfl, ?_, fM_u (fM_w (fM_u (fM_u fM_rf (by decide)) (by decide)) (by decide)) (by decide)⟩
    · refine mv_start pX11_person (some .int) [some (.ref 68), some (.int (nI P)), some (.int (nI A)), some (.int (nI B)), none] rfl rfl rfl rfl (fun V C => ?_)
      have hw18 : (mv_u (mv_u z 68 0 0) 86 (u 16 0) (nI P)).1 87 = f18 u (u 16 0) A B 0 := by
        funext q
        have := rM_a h0 87 18 (by decide) q
        simp only [f18]
        rw [if_neg (by omega), ← this]; rfl
      have loop : ∀ (k i : Nat), i + k = 6 → V 61 [some (.ref 68), some (.int (nI P)), some (.int (nI A)), some (.int (nI B)), some (.int (nI i))] [] (mv_E (mv_w (mv_u (mv_u z 68 0 0) 86 (u 16 0) (nI P)) 87 (f18 u (u 16 0) A B i))) := by
        intro k
        induction k with
        | zero =>
          intro i hi
          obtain rfl : i = 6 := by omega
          refine mv_iload C rfl rfl ?_
          refine mv_bipush C rfl ?_
          refine mv_icmp_ge C rfl (fun c65 => ?_) (fun c65 => ?_)
          · refine mv_aload_n C rfl rfl ?_
            refine mv_dup C rfl rfl ?_
            refine mv_getJ C rfl rfl rfl hf ?_
            refine mv_iconst C rfl ?_
            refine mv_iadd C rfl ?_
            refine mv_top (nI_1 _) ?_
            refine mv_putI C rfl rfl rfl rfl ?_
            refine mv_aload_n C rfl rfl ?_
            refine mv_getJ C rfl rfl rfl (show _ = nI (u 16 0 + 1) from rfl) ?_
            refine mv_iconst C rfl ?_
            refine mv_isub C rfl ?_
            refine mv_top (nI_pred _) ?_
            refine mv_ireturn C rfl mv_okI ?_ ?_
            all_goals rfl
          · exact absurd (by decide) c65
        | succ k ih =>
          intro i hi
          have e := ih (i + 1) (by omega)
          rw [← f18_step, ← mv_uw] at e
          have st : ∀ x : Int32, x = nI (if i < 3 then A else B) → V 93 [some (.ref 68), some (.int (nI P)), some (.int (nI A)), some (.int (nI B)), some (.int (nI i))] [.int x, .int (nI (6 * u 16 0 + i)), .ref 87] (mv_E (mv_w (mv_u (mv_u z 68 0 0) 86 (u 16 0) (nI P)) 87 (f18 u (u 16 0) A B i))) := by
            intro x hx
            subst hx
            refine mv_bipush C rfl ?_
            refine mv_iconst C rfl ?_
            refine mv_iload C rfl rfl ?_
            refine mv_iconst C rfl ?_
            refine mv_irem C rfl (by decide) ?_
            refine mv_imul C rfl ?_
            refine mv_isub C rfl ?_
            refine mv_ishr C rfl ?_
            refine mv_bipush C rfl ?_
            refine mv_iand C rfl ?_
            refine mv_top (dig_val la lb (by omega)) ?_
            refine mv_ast C rfl rfl rfl (by omega) ?_
            refine mv_inc4 C rfl rfl ?_
            refine mv_goto C rfl ?_
            simp only [nI_1]
            exact e
          refine mv_iload C rfl rfl ?_
          refine mv_bipush C rfl ?_
          refine mv_icmp_ge C rfl (fun c65 => ?_) (fun c65 => ?_)
          · exact absurd c65 (nI_ge (b := 6) (by omega) (by decide))
          · refine mv_aload_n C rfl rfl ?_
            refine mv_getR C rfl rfl rfl ?_
            refine mv_bipush C rfl ?_
            refine mv_aload_n C rfl rfl ?_
            refine mv_getJ C rfl rfl rfl hf ?_
            refine mv_imul C rfl ?_
            refine mv_top (pk_mul 6 _) ?_
            refine mv_iload C rfl rfl ?_
            refine mv_iadd C rfl ?_
            refine mv_top (nI_add _ _) ?_
            refine mv_iload C rfl rfl ?_
            refine mv_iconst C rfl ?_
            refine mv_icmp_ge C rfl (fun c85 => ?_) (fun c85 => ?_)
            · have hi3 : ¬ i < 3 := fun q => absurd c85 (nI_ge (b := 3) (by omega) (by decide))
              refine mv_iload_n C rfl rfl ?_
              refine st _ ?_
              simp only [hi3, if_true, if_false]
            · have hi3 : i < 3 := by (rcases Nat.lt_or_ge i 3 with q | q; exact q; exact absurd (nI_le q (by omega)) c85)
              refine mv_iload_n C rfl rfl ?_
              refine mv_goto C rfl ?_
              refine st _ ?_
              simp only [hi3, if_true, if_false]
      refine mv_aload_n C rfl rfl ?_
      refine mv_iconst C rfl ?_
      refine mv_putI C rfl rfl rfl rfl ?_
      refine mv_aload_n C rfl rfl ?_
      refine mv_iload_n C rfl rfl ?_
      refine mv_cV C rfl (mv_up R0 rfl) (by decide) rfl rfl rfl (Nat.le_of_ble_eq_true rfl) (Nat.le_refl _) (Nat.le_refl _) rfl ?_
      refine mv_if_eq C rfl (fun c10 => ?_) (fun c10 => ?_)
      · exact absurd c10 (by decide)
      · refine mv_iload_n C rfl rfl ?_
        refine mv_i2l C rfl ?_
        refine mv_lconst C rfl ?_
        refine mv_ldc2_w C rfl ?_
        refine mv_cS C rfl (mv_up Ra rfl) (by decide) rfl (Nat.le_of_ble_eq_true rfl) (Nat.le_refl _) (Nat.le_refl _) rfl ?_
        refine mv_if_eq C rfl (fun c22 => ?_) (fun c22 => ?_)
        · exact absurd c22 (by decide)
        · refine mv_iload_n C rfl rfl ?_
          refine mv_i2l C rfl ?_
          refine mv_lconst C rfl ?_
          refine mv_ldc2_w C rfl ?_
          refine mv_cS C rfl (mv_up Rb rfl) (by decide) rfl (Nat.le_of_ble_eq_true rfl) (Nat.le_refl _) (Nat.le_refl _) rfl ?_
          refine mv_if_eq C rfl (fun c34 => ?_) (fun c34 => ?_)
          · exact absurd c34 (by decide)
          · refine mv_aload_n C rfl rfl ?_
            refine mv_getJ C rfl rfl rfl hf ?_
            refine mv_bipush C rfl ?_
            refine mv_icmp_ne C rfl (fun c43 => ?_) (fun c43 => ?_)
            · refine mv_aload_n C rfl rfl ?_
              refine mv_getR C rfl rfl rfl ?_
              refine mv_aload_n C rfl rfl ?_
              refine mv_getJ C rfl rfl rfl hf ?_
              refine mv_iload_n C rfl rfl ?_
              refine mv_ast C rfl rfl rfl (by omega) ?_
              refine mv_iconst C rfl ?_
              refine mv_is4 C rfl rfl ?_
              refine mv_sto (z1 := mv_w (mv_u (mv_u z 68 0 0) 86 (u 16 0) (nI P)) 87 (f18 u (u 16 0) A B 0)) ?_ (loop 6 0 (by omega))
              rw [← hw18, mv_w_self]
            · exact absurd ((nI_eq (b := 30) (by omega) (by decide)).mp c43) (by omega)
    · have := rM_w (u1 := h18 (hu u 17 (u 16 0) P) (u 16 0) A B) hw 87 18 (by decide) (fun k hk => h18_key hk)
      have e : (fun i => nI (h18 (hu u 17 (u 16 0) P) (u 16 0) A B 18 i)) = f18 u (u 16 0) A B 6 := by
        funext q; simp only [h18, f18, if_true]; rw [hu_key (by decide)]
      rw [e] at this
      exact rM_sc this 23 16 _ (by decide)
  · rw [if_neg hc, if_neg hc]
    refine ⟨_, mv_up (d := 3) (S1 := mv_E (mv_u z 68 0 0)) ?_ rfl, h0, fM_u fM_rf (by decide)⟩
    refine mv_start pX11_person (some .int) [some (.ref 68), some (.int p), some (.int a), some (.int b), none] rfl rfl rfl rfl (fun V C => ?_)
    refine mv_aload_n C rfl rfl ?_
    refine mv_iconst C rfl ?_
    refine mv_putI C rfl rfl rfl rfl ?_
    refine mv_aload_n C rfl rfl ?_
    refine mv_iload_n C rfl rfl ?_
    refine mv_cV C rfl (mv_up R0 rfl) (by decide) rfl rfl rfl (Nat.le_of_ble_eq_true rfl) (Nat.le_refl _) (Nat.le_refl _) rfl ?_
    refine mv_if_eq C rfl (fun c10 => ?_) (fun c10 => ?_)
    · try simp only [b01, b10, Classical.not_not] at c10
      try simp (disch := omega) only [lit_0, lit_1, lit_2, lit_3, lit_4, lit_5, lit_6, lit_7, lit_8, lit_9, lit_10, lit_11, lit_12, lit_23, lit_24, lit_30, lit_31, lit_32, lit_39, lit_40, lit_41, lit_46, lit_47, lit_48, lit_96, lit_99, lit_100, lit_255, lit_999, lit_1000, lit_2024, lit_32767, lit_1000000, nI_ltI, nI_leI, nI_eq, Nat.not_lt, Nat.not_le] at c10
      try simp only [unl_0, unl_1, unl_2, unl_3, unl_4, unl_5, unl_6, unl_7, unl_8, unl_9, unl_10, unl_11, unl_12, unl_23, unl_24, unl_30, unl_31, unl_32, unl_39, unl_40, unl_41, unl_46, unl_47, unl_48, unl_96, unl_99, unl_100, unl_255, unl_999, unl_1000, unl_2024, unl_32767, unl_1000000] at c10
      refine mv_iconst C rfl ?_
      refine mv_ireturn C rfl mv_okI ?_ ?_
      all_goals rfl
    · try simp only [b01, b10, Classical.not_not] at c10
      try simp (disch := omega) only [lit_0, lit_1, lit_2, lit_3, lit_4, lit_5, lit_6, lit_7, lit_8, lit_9, lit_10, lit_11, lit_12, lit_23, lit_24, lit_30, lit_31, lit_32, lit_39, lit_40, lit_41, lit_46, lit_47, lit_48, lit_96, lit_99, lit_100, lit_255, lit_999, lit_1000, lit_2024, lit_32767, lit_1000000, nI_ltI, nI_leI, nI_eq, Nat.not_lt, Nat.not_le] at c10
      try simp only [unl_0, unl_1, unl_2, unl_3, unl_4, unl_5, unl_6, unl_7, unl_8, unl_9, unl_10, unl_11, unl_12, unl_23, unl_24, unl_30, unl_31, unl_32, unl_39, unl_40, unl_41, unl_46, unl_47, unl_48, unl_96, unl_99, unl_100, unl_255, unl_999, unl_1000, unl_2024, unl_32767, unl_1000000] at c10
      refine mv_iload_n C rfl rfl ?_
      refine mv_i2l C rfl ?_
      refine mv_lconst C rfl ?_
      refine mv_ldc2_w C rfl ?_
      refine mv_cS C rfl (mv_up Ra rfl) (by decide) rfl (Nat.le_of_ble_eq_true rfl) (Nat.le_refl _) (Nat.le_refl _) rfl ?_
      refine mv_if_eq C rfl (fun c22 => ?_) (fun c22 => ?_)
      · try simp only [b01, b10, Classical.not_not] at c22
        try simp (disch := omega) only [lit_0, lit_1, lit_2, lit_3, lit_4, lit_5, lit_6, lit_7, lit_8, lit_9, lit_10, lit_11, lit_12, lit_23, lit_24, lit_30, lit_31, lit_32, lit_39, lit_40, lit_41, lit_46, lit_47, lit_48, lit_96, lit_99, lit_100, lit_255, lit_999, lit_1000, lit_2024, lit_32767, lit_1000000, nI_ltI, nI_leI, nI_eq, Nat.not_lt, Nat.not_le] at c22
        try simp only [unl_0, unl_1, unl_2, unl_3, unl_4, unl_5, unl_6, unl_7, unl_8, unl_9, unl_10, unl_11, unl_12, unl_23, unl_24, unl_30, unl_31, unl_32, unl_39, unl_40, unl_41, unl_46, unl_47, unl_48, unl_96, unl_99, unl_100, unl_255, unl_999, unl_1000, unl_2024, unl_32767, unl_1000000] at c22
        refine mv_iconst C rfl ?_
        refine mv_ireturn C rfl mv_okI ?_ ?_
        all_goals rfl
      · try simp only [b01, b10, Classical.not_not] at c22
        try simp (disch := omega) only [lit_0, lit_1, lit_2, lit_3, lit_4, lit_5, lit_6, lit_7, lit_8, lit_9, lit_10, lit_11, lit_12, lit_23, lit_24, lit_30, lit_31, lit_32, lit_39, lit_40, lit_41, lit_46, lit_47, lit_48, lit_96, lit_99, lit_100, lit_255, lit_999, lit_1000, lit_2024, lit_32767, lit_1000000, nI_ltI, nI_leI, nI_eq, Nat.not_lt, Nat.not_le] at c22
        try simp only [unl_0, unl_1, unl_2, unl_3, unl_4, unl_5, unl_6, unl_7, unl_8, unl_9, unl_10, unl_11, unl_12, unl_23, unl_24, unl_30, unl_31, unl_32, unl_39, unl_40, unl_41, unl_46, unl_47, unl_48, unl_96, unl_99, unl_100, unl_255, unl_999, unl_1000, unl_2024, unl_32767, unl_1000000] at c22
        refine mv_iload_n C rfl rfl ?_
        refine mv_i2l C rfl ?_
        refine mv_lconst C rfl ?_
        refine mv_ldc2_w C rfl ?_
        refine mv_cS C rfl (mv_up Rb rfl) (by decide) rfl (Nat.le_of_ble_eq_true rfl) (Nat.le_refl _) (Nat.le_refl _) rfl ?_
        refine mv_if_eq C rfl (fun c34 => ?_) (fun c34 => ?_)
        · try simp only [b01, b10, Classical.not_not] at c34
          try simp (disch := omega) only [lit_0, lit_1, lit_2, lit_3, lit_4, lit_5, lit_6, lit_7, lit_8, lit_9, lit_10, lit_11, lit_12, lit_23, lit_24, lit_30, lit_31, lit_32, lit_39, lit_40, lit_41, lit_46, lit_47, lit_48, lit_96, lit_99, lit_100, lit_255, lit_999, lit_1000, lit_2024, lit_32767, lit_1000000, nI_ltI, nI_leI, nI_eq, Nat.not_lt, Nat.not_le] at c34
          try simp only [unl_0, unl_1, unl_2, unl_3, unl_4, unl_5, unl_6, unl_7, unl_8, unl_9, unl_10, unl_11, unl_12, unl_23, unl_24, unl_30, unl_31, unl_32, unl_39, unl_40, unl_41, unl_46, unl_47, unl_48, unl_96, unl_99, unl_100, unl_255, unl_999, unl_1000, unl_2024, unl_32767, unl_1000000] at c34
          refine mv_iconst C rfl ?_
          refine mv_ireturn C rfl mv_okI ?_ ?_
          all_goals rfl
        · try simp only [b01, b10, Classical.not_not] at c34
          try simp (disch := omega) only [lit_0, lit_1, lit_2, lit_3, lit_4, lit_5, lit_6, lit_7, lit_8, lit_9, lit_10, lit_11, lit_12, lit_23, lit_24, lit_30, lit_31, lit_32, lit_39, lit_40, lit_41, lit_46, lit_47, lit_48, lit_96, lit_99, lit_100, lit_255, lit_999, lit_1000, lit_2024, lit_32767, lit_1000000, nI_ltI, nI_leI, nI_eq, Nat.not_lt, Nat.not_le] at c34
          try simp only [unl_0, unl_1, unl_2, unl_3, unl_4, unl_5, unl_6, unl_7, unl_8, unl_9, unl_10, unl_11, unl_12, unl_23, unl_24, unl_30, unl_31, unl_32, unl_39, unl_40, unl_41, unl_46, unl_47, unl_48, unl_96, unl_99, unl_100, unl_255, unl_999, unl_1000, unl_2024, unl_32767, unl_1000000] at c34
          refine mv_aload_n C rfl rfl ?_
          refine mv_getJ C rfl rfl rfl hf ?_
          refine mv_bipush C rfl ?_
          refine mv_icmp_ne C rfl (fun c43 => ?_) (fun c43 => ?_)
          · exact absurd ⟨c10, c22, c34, (by (rcases Nat.lt_or_ge (u 16 0) 30 with q | q; exact q; exact absurd (show nI (u 16 0) = 30 by rw [show u 16 0 = 30 by omega]; rfl) c43))⟩ hc
          · try simp only [b01, b10, Classical.not_not] at c43
            try simp (disch := omega) only [lit_0, lit_1, lit_2, lit_3, lit_4, lit_5, lit_6, lit_7, lit_8, lit_9, lit_10, lit_11, lit_12, lit_23, lit_24, lit_30, lit_31, lit_32, lit_39, lit_40, lit_41, lit_46, lit_47, lit_48, lit_96, lit_99, lit_100, lit_255, lit_999, lit_1000, lit_2024, lit_32767, lit_1000000, nI_ltI, nI_leI, nI_eq, Nat.not_lt, Nat.not_le] at c43
            try simp only [unl_0, unl_1, unl_2, unl_3, unl_4, unl_5, unl_6, unl_7, unl_8, unl_9, unl_10, unl_11, unl_12, unl_23, unl_24, unl_30, unl_31, unl_32, unl_39, unl_40, unl_41, unl_46, unl_47, unl_48, unl_96, unl_99, unl_100, unl_255, unl_999, unl_1000, unl_2024, unl_32767, unl_1000000] at c43
            refine mv_iconst C rfl ?_
            refine mv_ireturn C rfl mv_okI ?_ ?_
            all_goals rfl
-- whom the description fits
def hag (u : hM) (k x : Nat) : Bool := decide (u 14 k = 0) || (decide (x ≤ u 14 k - 1 + u 15 k) && decide (u 14 k - 1 ≤ x + u 15 k))
def hmis (g : Nat → Bool) : Nat → Nat → Nat
  | 0, _ => 0
  | k + 1, i => bif g i then hmis g k (i + 1) else i + 1
def hmf (u : hM) (p : Nat) : Nat := hmis (fun k => hag u k (u 18 (6 * p + k))) 6 0
theorem abs_gt {x v b : Nat} (hx : x < 2 ^ 20) (hv : v < 2 ^ 20) (hb : b < 2 ^ 20) : nI b < (if 0 ≤ nI x - nI v then nI x - nI v else 0 - (nI x - nI v)) ↔ ¬ (x ≤ v + b ∧ v ≤ x + b) := by
  have e := pk_sub_toInt (a := x) (b := v) (by omega) (by omega)
  by_cases h : v ≤ x
  · have h0 : 0 ≤ nI x - nI v := by rw [i32_le, e, i32_0]; omega
    rw [if_pos h0, i32_lt, e, nI_toInt (by omega)]; omega
  · have h0 : ¬ 0 ≤ nI x - nI v := by rw [i32_le, e, i32_0]; omega
    rw [if_neg h0]
    have e2 : 0 - (nI x - nI v) = nI v - nI x := by rw [Int32.zero_sub, Int32.neg_sub]
    rw [e2, i32_lt, pk_sub_toInt (by omega) (by omega), nI_toInt (by omega)]; omega

theorem r_agrees (z : mv_Z) (u : hM) (k x : Nat) (hk : k < 6) (hx : x < 32) (hv : z.1 23 = fun k => hst (u 14 k)) (hb : z.1 24 = fun k => nI (u 15 k)) (h1 : ∀ k, u 14 k ≤ 32 ∧ u 15 k ≤ 31) : mv_Runs 1 42 [.ref 22, .int (nI k), .int (nI x)] (mv_E z) (some (.int (bif hag u k x then 1 else 0))) (mv_E z) := by
  have hi1 := h1 k
  have hv1 : z.1 23 k = hst (u 14 k) := by rw [hv]
  have hb1 : z.1 24 k = nI (u 15 k) := by rw [hb]
  by_cases h0 : u 14 k = 0
  · rw [show hag u k x = true by simp [hag, h0]]
    refine mv_start pX4_agrees (some .boolean) [some (.ref 22), some (.int (nI k)), some (.int (nI x))] rfl rfl rfl rfl (fun V C => ?_)
    refine mv_aload_n C rfl rfl ?_
    refine mv_getR C rfl rfl rfl ?_
    refine mv_iload_n C rfl rfl ?_
    refine mv_aldJ C rfl rfl rfl (by omega) hv1 ?_
    refine mv_iconst C rfl ?_
    refine mv_icmp_eq C rfl (fun c7 => ?_) (fun c7 => ?_)
    · refine mv_iconst C rfl ?_
      refine mv_goto C rfl ?_
      refine mv_ireturn C rfl mv_okZ1 ?_ ?_
      all_goals rfl
    · exact absurd ((hst_m1 (by omega)).mpr h0) c7
  · obtain ⟨v, hv2⟩ : ∃ v, u 14 k = v + 1 := ⟨u 14 k - 1, by omega⟩
    rw [hv2] at hv1
    have hv3 : z.1 23 k = nI v := hv1
    have he : hag u k x = (decide (x ≤ v + u 15 k) && decide (v ≤ x + u 15 k)) := by simp [hag, hv2]
    rw [he]
    refine mv_start pX4_agrees (some .boolean) [some (.ref 22), some (.int (nI k)), some (.int (nI x))] rfl rfl rfl rfl (fun V C => ?_)
    refine mv_aload_n C rfl rfl ?_
    refine mv_getR C rfl rfl rfl ?_
    refine mv_iload_n C rfl rfl ?_
    refine mv_aldJ C rfl rfl rfl (by omega) hv3 ?_
    refine mv_iconst C rfl ?_
    refine mv_icmp_eq C rfl (fun c7 => ?_) (fun c7 => ?_)
    · exact absurd c7 (nI_nm1 (by omega))
    · refine mv_iload_n C rfl rfl ?_
      refine mv_aload_n C rfl rfl ?_
      refine mv_getR C rfl rfl rfl ?_
      refine mv_iload_n C rfl rfl ?_
      refine mv_aldJ C rfl rfl rfl (by omega) hv3 ?_
      refine mv_isub C rfl ?_
      refine mv_mabs C rfl rfl (Nat.le_of_ble_eq_true rfl) ?_
      refine mv_aload_n C rfl rfl ?_
      refine mv_getR C rfl rfl rfl ?_
      refine mv_iload_n C rfl rfl ?_
      refine mv_aldJ C rfl rfl rfl (by omega) hb1 ?_
      refine mv_icmp_gt C rfl (fun c27 => ?_) (fun c27 => ?_)
      · rw [abs_gt (by omega) (by omega) (by omega)] at c27
        refine mv_iconst C rfl ?_
        refine mv_ireturn C rfl (by first | exact mv_okZ1 | exact mv_okZ0) ?_ ?_
        all_goals first | rfl | (rw [show (decide (x ≤ v + u 15 k) && decide (v ≤ x + u 15 k)) = true by simp; omega]; rfl) | (rw [show (decide (x ≤ v + u 15 k) && decide (v ≤ x + u 15 k)) = false by simp; omega]; rfl)
      · rw [abs_gt (by omega) (by omega) (by omega)] at c27
        refine mv_iconst C rfl ?_
        refine mv_goto C rfl ?_
        refine mv_ireturn C rfl (by first | exact mv_okZ1 | exact mv_okZ0) ?_ ?_
        all_goals first | rfl | (rw [show (decide (x ≤ v + u 15 k) && decide (v ≤ x + u 15 k)) = true by simp; omega]; rfl) | (rw [show (decide (x ≤ v + u 15 k) && decide (v ≤ x + u 15 k)) = false by simp; omega]; rfl)
theorem look_dig {a0 a1 a2 a3 a4 a5 : Nat} (h0 : a0 < 32) (h1 : a1 < 32) (h2 : a2 < 32) (h3 : a3 < 32) (h4 : a4 < 32) (h5 : a5 < 32) (k : Nat) (hk : k < 6) : (nI (a0 * 33554432 + a1 * 1048576 + a2 * 32768 + a3 * 1024 + a4 * 32 + a5) >>> ((5 * (5 - nI k) : Int32) &&& 31)) &&& 31 = nI (([a0, a1, a2, a3, a4, a5] : List Nat).getD k 0) := by
  have e2 : (5 : Int32) - nI k = nI (5 - k) := pk_sub (a := 5) (b := k) (by omega)
  have e3 : (5 : Int32) * nI (5 - k) = nI (5 * (5 - k)) := pk_mul 5 (5 - k)
  have hle := Nat.div_le_self (a0 * 33554432 + a1 * 1048576 + a2 * 32768 + a3 * 1024 + a4 * 32 + a5) (2 ^ (5 * (5 - k)))
  rw [e2, e3, nI_shr (by omega) (by omega), nI_and31 (by omega)]
  rcases (show k = 0 ∨ k = 1 ∨ k = 2 ∨ k = 3 ∨ k = 4 ∨ k = 5 by omega) with rfl | rfl | rfl | rfl | rfl | rfl
  all_goals (congr 1; simp only [Nat.reduceMul, Nat.reduceSub, Nat.reducePow, List.getD_cons_zero, List.getD_cons_succ]; omega)
theorem r_misfit (z : mv_Z) (u : hM) (p : Nat) (hp : p < 30) (hz : rX u z) (hi : hI u) : mv_Runs 2 37 [.ref 21, .int (nI p)] (mv_E z) (some (.int (nI (hmf u p)))) (mv_E z) := by
  have hd : ∀ k, u 18 k < 32 := hi.2.2.2.2.2.2.2.2.2.2.2.2.2.1
  have h1 := hi.2.2.2.2.2.2.2.2.2.2.1
  have hl := hz.2.2.2.2.1 p hp
  refine mv_start pX3_misfit (some .int) [some (.ref 21), some (.int (nI p)), none, none] rfl rfl rfl rfl (fun V C => ?_)
  have loop : ∀ (k i : Nat), i + k = 6 → hmis (fun k => hag u k (u 18 (6 * p + k))) k i = hmf u p → V 2 [some (.ref 21), some (.int (nI p)), some (.int (nI i)), none] [] (mv_E z) := by
    intro k
    induction k with
    | zero =>
      intro i hi he
      obtain rfl : i = 6 := by omega
      refine mv_iload_n C rfl rfl ?_
      refine mv_bipush C rfl ?_
      refine mv_icmp_ge C rfl (fun c5 => ?_) (fun c5 => ?_)
      · refine mv_iconst C rfl ?_
        refine mv_ireturn C rfl mv_okI ?_ ?_
        all_goals first | rfl | (rw [← he]; rfl)
      · exact absurd (by decide) c5
    | succ k ih =>
      intro i hi he
      have hx : (nI (u 18 (6 * p) * 33554432 + u 18 (6 * p + 1) * 1048576 + u 18 (6 * p + 2) * 32768 + u 18 (6 * p + 3) * 1024 + u 18 (6 * p + 4) * 32 + u 18 (6 * p + 5)) >>> ((5 * (5 - nI i) : Int32) &&& 31)) &&& 31 = nI (u 18 (6 * p + i)) := by
        rw [look_dig (hd _) (hd _) (hd _) (hd _) (hd _) (hd _) i (by omega)]
        rcases (show i = 0 ∨ i = 1 ∨ i = 2 ∨ i = 3 ∨ i = 4 ∨ i = 5 by omega) with rfl | rfl | rfl | rfl | rfl | rfl <;> rfl
      have R := r_agrees z u i (u 18 (6 * p + i)) (by omega) (hd _) hz.2.2.2.1 (funext fun k => rX_a hz 24 15 (by decide) k) h1
      simp only [hmis] at he
      cases hg : hag u i (u 18 (6 * p + i)) with
      | true =>
        rw [hg] at R he
        refine mv_iload_n C rfl rfl ?_
        refine mv_bipush C rfl ?_
        refine mv_icmp_ge C rfl (fun c5 => ?_) (fun c5 => ?_)
        · exact absurd c5 (nI_ge (b := 6) (by omega) (by decide))
        · refine mv_aload_n C rfl rfl ?_
          refine mv_getR C rfl rfl rfl ?_
          refine mv_iload_n C rfl rfl ?_
          refine mv_aldJ C rfl rfl rfl (by omega) hl ?_
          refine mv_iconst C rfl ?_
          refine mv_iconst C rfl ?_
          refine mv_iload_n C rfl rfl ?_
          refine mv_isub C rfl ?_
          refine mv_imul C rfl ?_
          refine mv_ishr C rfl ?_
          refine mv_bipush C rfl ?_
          refine mv_iand C rfl ?_
          refine mv_top hx ?_
          refine mv_is_n3 C rfl rfl ?_
          refine mv_aload_n C rfl rfl ?_
          refine mv_getR C rfl rfl rfl ?_
          refine mv_iload_n C rfl rfl ?_
          refine mv_iload_n C rfl rfl ?_
          refine mv_cV C rfl R (by decide) rfl rfl rfl (Nat.le_of_ble_eq_true rfl) (Nat.le_refl _) (Nat.le_refl _) rfl ?_
          refine mv_if_ne C rfl (fun c33 => ?_) (fun c33 => ?_)
          · refine mv_inc2 C rfl rfl ?_
            refine mv_goto C rfl ?_
            simp only [nI_1]
            exact mv_forget C _ (mv_le3 _ _ _ _) (ih (i + 1) (by omega) he)
          · exact absurd c33 (by decide)
      | false =>
        rw [hg] at R he
        refine mv_iload_n C rfl rfl ?_
        refine mv_bipush C rfl ?_
        refine mv_icmp_ge C rfl (fun c5 => ?_) (fun c5 => ?_)
        · exact absurd c5 (nI_ge (b := 6) (by omega) (by decide))
        · refine mv_aload_n C rfl rfl ?_
          refine mv_getR C rfl rfl rfl ?_
          refine mv_iload_n C rfl rfl ?_
          refine mv_aldJ C rfl rfl rfl (by omega) hl ?_
          refine mv_iconst C rfl ?_
          refine mv_iconst C rfl ?_
          refine mv_iload_n C rfl rfl ?_
          refine mv_isub C rfl ?_
          refine mv_imul C rfl ?_
          refine mv_ishr C rfl ?_
          refine mv_bipush C rfl ?_
          refine mv_iand C rfl ?_
          refine mv_top hx ?_
          refine mv_is_n3 C rfl rfl ?_
          refine mv_aload_n C rfl rfl ?_
          refine mv_getR C rfl rfl rfl ?_
          refine mv_iload_n C rfl rfl ?_
          refine mv_iload_n C rfl rfl ?_
          refine mv_cV C rfl R (by decide) rfl rfl rfl (Nat.le_of_ble_eq_true rfl) (Nat.le_refl _) (Nat.le_refl _) rfl ?_
          refine mv_if_ne C rfl (fun c33 => ?_) (fun c33 => ?_)
          · exact absurd rfl c33
          · refine mv_iconst C rfl ?_
            refine mv_iload_n C rfl rfl ?_
            refine mv_iadd C rfl ?_
            refine mv_top (nI_add 1 _) ?_
            refine mv_ireturn C rfl mv_okI ?_ ?_
            all_goals first | rfl | (rw [← he]; simp only [cond_false, Nat.add_comm])
  refine mv_iconst C rfl ?_
  refine mv_is_n2 C rfl rfl ?_
  exact loop 6 0 (by omega) rfl
theorem hmis_le (g : Nat → Bool) : ∀ k i, hmis g k i ≤ k + i
  | 0, i => Nat.zero_le _
  | k + 1, i => by
    simp only [hmis]
    cases g i with
    | true => have := hmis_le g k (i + 1); simp only [cond_true]; omega
    | false => simp only [cond_false]; omega
theorem hmf_le (u : hM) (p : Nat) : hmf u p ≤ 6 := hmis_le _ 6 0
def a_fits (u : hM) (p : Int32) : Int32 := if 0 ≤ p ∧ p < nI (u 16 0) then nI (hmf u p.toNatClampNeg) else -1
theorem x_fits (u : hM) (z : mv_Z) (p : Int32) (hi : hI u) (hz : rX u z) : xR 93 [.int p] u z (.int (a_fits u p)) u := by
  have hn := rX_s hz 21 3 16 (by decide)
  have h30 : u 16 0 ≤ 30 := hi.2.2.2.2.2.2.2.2.2.2.2.1
  unfold a_fits
  refine ⟨_, mv_up (d := 3) (S1 := mv_E z) ?_ rfl, hz, fX_rf⟩
  by_cases hc : 0 ≤ p ∧ p < nI (u 16 0)
  · rw [if_pos hc]
    have e := nI_rngc hc.1 hc.2 (by omega)
    generalize p.toNatClampNeg = k at *
    obtain ⟨hk, rfl⟩ := e
    have R := r_misfit z u k (by omega) hz hi
    refine mv_start pX10_fits (some .int) [some (.ref 0), some (.int (nI k))] rfl rfl rfl rfl (fun V C => ?_)
    refine mv_iload_n C rfl rfl ?_
    refine mv_if_lt C rfl (fun c1 => ?_) (fun c1 => ?_)
    · exact absurd c1 (nI_pos (by omega))
    · refine mv_iload_n C rfl rfl ?_
      refine mv_aload_n C rfl rfl ?_
      refine mv_getR C rfl rfl rfl ?_
      refine mv_getJ C rfl rfl rfl hn ?_
      refine mv_icmp_ge C rfl (fun c12 => ?_) (fun c12 => ?_)
      · exact absurd c12 (nI_ge hk (by omega))
      · refine mv_aload_n C rfl rfl ?_
        refine mv_getR C rfl rfl rfl ?_
        refine mv_iload_n C rfl rfl ?_
        refine mv_cV C rfl R (by decide) rfl rfl rfl (Nat.le_of_ble_eq_true rfl) (Nat.le_refl _) (Nat.le_refl _) rfl ?_
        refine mv_goto C rfl ?_
        refine mv_ireturn C rfl mv_okI ?_ ?_
        all_goals rfl
  · rw [if_neg hc]
    refine mv_start pX10_fits (some .int) [some (.ref 0), some (.int p)] rfl rfl rfl rfl (fun V C => ?_)
    refine mv_iload_n C rfl rfl ?_
    refine mv_if_lt C rfl (fun c1 => ?_) (fun c1 => ?_)
    · refine mv_iconst C rfl ?_
      refine mv_ireturn C rfl mv_okI ?_ ?_
      all_goals rfl
    · refine mv_iload_n C rfl rfl ?_
      refine mv_aload_n C rfl rfl ?_
      refine mv_getR C rfl rfl rfl ?_
      refine mv_getJ C rfl rfl rfl hn ?_
      refine mv_icmp_ge C rfl (fun c12 => ?_) (fun c12 => ?_)
      · refine mv_iconst C rfl ?_
        refine mv_ireturn C rfl mv_okI ?_ ?_
        all_goals rfl
      · exact absurd ⟨(by rw [i32_lt] at c1; rw [i32_le]; omega), (by rw [i32_le] at c12; rw [i32_lt]; omega)⟩ hc
theorem r_unfit (z : mv_Z) (u : hM) (p : Nat) (hp : p < 30) (hz : rM u z) (hi : hI u) : mv_Runs 2 151 [.ref 68, .int (nI p)] (mv_E z) (some (.int (nI (hmf u p)))) (mv_E z) := by
  have hd : ∀ k, u 18 k < 32 := hi.2.2.2.2.2.2.2.2.2.2.2.2.2.1
  have h1 := hi.2.2.2.2.2.2.2.2.2.2.1
  refine mv_start pX11_unfit (some .int) [some (.ref 68), some (.int (nI p)), none] rfl rfl rfl rfl (fun V C => ?_)
  have loop : ∀ (k i : Nat), i + k = 6 → hmis (fun k => hag u k (u 18 (6 * p + k))) k i = hmf u p → V 2 [some (.ref 68), some (.int (nI p)), some (.int (nI i))] [] (mv_E z) := by
    intro k
    induction k with
    | zero =>
      intro i hi he
      obtain rfl : i = 6 := by omega
      refine mv_iload_n C rfl rfl ?_
      refine mv_bipush C rfl ?_
      refine mv_icmp_ge C rfl (fun c5 => ?_) (fun c5 => ?_)
      · refine mv_iconst C rfl ?_
        refine mv_ireturn C rfl mv_okI ?_ ?_
        all_goals first | rfl | (rw [← he]; rfl)
      · exact absurd (by decide) c5
    | succ k ih =>
      intro i hi he
      have hi1 := h1 i
      have hx := hd (6 * p + i)
      have hv1 : z.1 84 i = hst (u 14 i) := by rw [hz.2.2.1]
      have hb1 := rM_a hz 85 15 (by decide) i
      have hx1 := rM_a hz 87 18 (by decide) (6 * p + i)
      simp only [hmis] at he
      by_cases h0 : u 14 i = 0
      · rw [show hag u i (u 18 (6 * p + i)) = true by simp [hag, h0]] at he
        refine mv_iload_n C rfl rfl ?_
        refine mv_bipush C rfl ?_
        refine mv_icmp_ge C rfl (fun c5 => ?_) (fun c5 => ?_)
        · exact absurd c5 (nI_ge (b := 6) (by omega) (by decide))
        · refine mv_aload_n C rfl rfl ?_
          refine mv_getR C rfl rfl rfl ?_
          refine mv_iload_n C rfl rfl ?_
          refine mv_aldJ C rfl rfl rfl (by omega) hv1 ?_
          refine mv_if_lt C rfl (fun c14 => ?_) (fun c14 => ?_)
          · refine mv_inc2 C rfl rfl ?_
            refine mv_goto C rfl ?_
            simp only [nI_1]
            exact ih (i + 1) (by omega) he
          · exact absurd ((hst_ge (by omega)).mpr h0) c14
      · obtain ⟨v, hv2⟩ : ∃ v, u 14 i = v + 1 := ⟨u 14 i - 1, by omega⟩
        rw [hv2] at hv1
        have hv3 : z.1 84 i = nI v := hv1
        have hg : hag u i (u 18 (6 * p + i)) = (decide (u 18 (6 * p + i) ≤ v + u 15 i) && decide (v ≤ u 18 (6 * p + i) + u 15 i)) := by simp [hag, hv2]
        rw [hg] at he
        refine mv_iload_n C rfl rfl ?_
        refine mv_bipush C rfl ?_
        refine mv_icmp_ge C rfl (fun c5 => ?_) (fun c5 => ?_)
        · exact absurd c5 (nI_ge (b := 6) (by omega) (by decide))
        · refine mv_aload_n C rfl rfl ?_
          refine mv_getR C rfl rfl rfl ?_
          refine mv_iload_n C rfl rfl ?_
          refine mv_aldJ C rfl rfl rfl (by omega) hv3 ?_
          refine mv_if_lt C rfl (fun c14 => ?_) (fun c14 => ?_)
          · exact absurd c14 (nI_pos (by omega))
          · refine mv_aload_n C rfl rfl ?_
            refine mv_getR C rfl rfl rfl ?_
            refine mv_bipush C rfl ?_
            refine mv_iload_n C rfl rfl ?_
            refine mv_imul C rfl ?_
            refine mv_top (pk_mul 6 _) ?_
            refine mv_iload_n C rfl rfl ?_
            refine mv_iadd C rfl ?_
            refine mv_top (nI_add _ _) ?_
            refine mv_aldJ C rfl rfl rfl (by omega) hx1 ?_
            refine mv_aload_n C rfl rfl ?_
            refine mv_getR C rfl rfl rfl ?_
            refine mv_iload_n C rfl rfl ?_
            refine mv_aldJ C rfl rfl rfl (by omega) hv3 ?_
            refine mv_isub C rfl ?_
            refine mv_mabs C rfl rfl (Nat.le_of_ble_eq_true rfl) ?_
            refine mv_aload_n C rfl rfl ?_
            refine mv_getR C rfl rfl rfl ?_
            refine mv_iload_n C rfl rfl ?_
            refine mv_aldJ C rfl rfl rfl (by omega) hb1 ?_
            refine mv_icmp_le C rfl (fun c44 => ?_) (fun c44 => ?_)
            · have c45 : ¬ nI (u 15 i) < (if 0 ≤ nI (u 18 (6 * p + i)) - nI v then nI (u 18 (6 * p + i)) - nI v else 0 - (nI (u 18 (6 * p + i)) - nI v)) := by (rw [i32_lt]; rw [i32_le] at c44; omega)
              rw [abs_gt (by omega) (by omega) (by omega)] at c45
              rw [show (decide (u 18 (6 * p + i) ≤ v + u 15 i) && decide (v ≤ u 18 (6 * p + i) + u 15 i)) = true by simp; omega] at he
              refine mv_inc2 C rfl rfl ?_
              refine mv_goto C rfl ?_
              simp only [nI_1]
              exact ih (i + 1) (by omega) he
            · have c45 : nI (u 15 i) < (if 0 ≤ nI (u 18 (6 * p + i)) - nI v then nI (u 18 (6 * p + i)) - nI v else 0 - (nI (u 18 (6 * p + i)) - nI v)) := by (rw [i32_lt]; rw [i32_le] at c44; omega)
              rw [abs_gt (by omega) (by omega) (by omega)] at c45
              rw [show (decide (u 18 (6 * p + i) ≤ v + u 15 i) && decide (v ≤ u 18 (6 * p + i) + u 15 i)) = false by simp; omega] at he
              refine mv_iload_n C rfl rfl ?_
              refine mv_iconst C rfl ?_
              refine mv_iadd C rfl ?_
              refine mv_top (nI_1 _) ?_
              refine mv_ireturn C rfl mv_okI ?_ ?_
              all_goals first | rfl | (rw [← he]; rfl)
  refine mv_iconst C rfl ?_
  refine mv_is_n2 C rfl rfl ?_
  exact loop 6 0 (by omega) rfl
theorem m_fits (u : hM) (z : mv_Z) (p : Int32) (hi : hI u) (hz : rM u z) : mR 152 [.int p] u z (.int (a_fits u p)) u := by
  have h0 := rM_free hz 68 0 0 (Or.inr ⟨rfl, by decide⟩)
  have hn := rM_s h0 23 16 (by decide)
  have h30 : u 16 0 ≤ 30 := hi.2.2.2.2.2.2.2.2.2.2.2.1
  have R0 := r_inI (mv_u z 68 0 0) p 0 (nI (u 16 0) - 1 : Int32).toInt64 _ (inN (by omega))
  unfold a_fits
  refine ⟨_, mv_up (d := 3) (S1 := mv_E (mv_u z 68 0 0)) ?_ rfl, h0, fM_u fM_rf (by decide)⟩
  by_cases hc : 0 ≤ p ∧ p < nI (u 16 0)
  · rw [if_pos hc] at R0 ⊢
    have e := nI_rngc hc.1 hc.2 (by omega)
    generalize p.toNatClampNeg = k at *
    obtain ⟨hk, rfl⟩ := e
    have R := r_unfit _ u k (by omega) h0 hi
    refine mv_start pX11_fits (some .int) [some (.ref 68), some (.int (nI k))] rfl rfl rfl rfl (fun V C => ?_)
    refine mv_aload_n C rfl rfl ?_
    refine mv_iconst C rfl ?_
    refine mv_putI C rfl rfl rfl rfl ?_
    refine mv_iload_n C rfl rfl ?_
    refine mv_i2l C rfl ?_
    refine mv_lconst C rfl ?_
    refine mv_aload_n C rfl rfl ?_
    refine mv_getJ C rfl rfl rfl hn ?_
    refine mv_iconst C rfl ?_
    refine mv_isub C rfl ?_
    refine mv_i2l C rfl ?_
    refine mv_cS C rfl (mv_up R0 rfl) (by decide) rfl (Nat.le_of_ble_eq_true rfl) (Nat.le_refl _) (Nat.le_refl _) rfl ?_
    refine mv_if_eq C rfl (fun c18 => ?_) (fun c18 => ?_)
    · exact absurd c18 (by decide)
    · refine mv_aload_n C rfl rfl ?_
      refine mv_iload_n C rfl rfl ?_
      refine mv_cV C rfl R (by decide) rfl rfl rfl (Nat.le_of_ble_eq_true rfl) (Nat.le_refl _) (Nat.le_refl _) rfl ?_
      refine mv_goto C rfl ?_
      refine mv_ireturn C rfl mv_okI ?_ ?_
      all_goals rfl
  · rw [if_neg hc] at R0 ⊢
    refine mv_start pX11_fits (some .int) [some (.ref 68), some (.int p)] rfl rfl rfl rfl (fun V C => ?_)
    refine mv_aload_n C rfl rfl ?_
    refine mv_iconst C rfl ?_
    refine mv_putI C rfl rfl rfl rfl ?_
    refine mv_iload_n C rfl rfl ?_
    refine mv_i2l C rfl ?_
    refine mv_lconst C rfl ?_
    refine mv_aload_n C rfl rfl ?_
    refine mv_getJ C rfl rfl rfl hn ?_
    refine mv_iconst C rfl ?_
    refine mv_isub C rfl ?_
    refine mv_i2l C rfl ?_
    refine mv_cS C rfl (mv_up R0 rfl) (by decide) rfl (Nat.le_of_ble_eq_true rfl) (Nat.le_refl _) (Nat.le_refl _) rfl ?_
    refine mv_if_eq C rfl (fun c18 => ?_) (fun c18 => ?_)
    · refine mv_iconst C rfl ?_
      refine mv_ireturn C rfl mv_okI ?_ ?_
      all_goals rfl
    · exact absurd rfl c18
end

