section
theorem r1 {c : Prop} [Decidable c] (h : c) : (if c then (1 : Int32) else 0) = 1 := if_pos h
theorem r0 {c : Prop} [Decidable c] (h : ¬ c) : (if c then (1 : Int32) else 0) = 0 := if_neg h
theorem cl_le {x : Int32} {n : Nat} (h : 0 ≤ x) (h1 : x < nI n) (hn : n < 2 ^ 31) : x.toNatClampNeg < n := (nI_rngc h h1 hn).1
-- road
def a_road (u : hM) (a b h : Int32) : Int32 := if (0 ≤ a ∧ a < nI (u 0 0)) ∧ (0 ≤ b ∧ b < nI (u 0 0)) ∧ ¬ a = b ∧ (1 ≤ h ∧ h ≤ 12) ∧ u 2 0 < 40 then nI (u 2 0) else -1
def o_road (u : hM) (a b h : Int32) : hM := if (0 ≤ a ∧ a < nI (u 0 0)) ∧ (0 ≤ b ∧ b < nI (u 0 0)) ∧ ¬ a = b ∧ (1 ≤ h ∧ h ≤ 12) ∧ u 2 0 < 40 then hu (hu (hu (hu u 3 (u 2 0) a.toNatClampNeg) 4 (u 2 0) b.toNatClampNeg) 5 (u 2 0) h.toNatClampNeg) 2 0 (u 2 0 + 1) else u
theorem i32_1le {h : Int32} (hh : 1 ≤ h) : 0 ≤ h := by rw [i32_le] at *; simp only [i32_0, i32_1] at *; omega
theorem x_road (u : hM) (z : mv_Z) (a b h : Int32) (hi : hI u) (hz : rX u z) : xR 73 [.int a, .int b, .int h] u z (.int (a_road u a b h)) (o_road u a b h) := by
  have hn := rX_s hz 3 7 2 (by decide)
  have hp := rX_s hz 3 6 0 (by decide)
  have h40 := hi.2.2.1
  have R0 := r_addRoad z a b h _ hn h40
  rw [hp] at R0
  have R : mv_Runs 3 73 [.ref 0, .int a, .int b, .int h] (mv_E z) (some (.int (a_road u a b h))) (mv_E (if (0 ≤ a ∧ a < nI (u 0 0)) ∧ (0 ≤ b ∧ b < nI (u 0 0)) ∧ ¬ a = b ∧ (1 ≤ h ∧ h ≤ 12) ∧ u 2 0 < 40 then mv_u (mv_u (mv_u (mv_u z 6 (u 2 0) a) 7 (u 2 0) b) 8 (u 2 0) h) 3 7 (nI (u 2 0 + 1)) else z)) := by
    refine mv_start pX10_road (some .int) [some (.ref 0), some (.int a), some (.int b), some (.int h)] rfl rfl rfl rfl (fun V C => ?_)
    refine mv_aload_n C rfl rfl ?_
    refine mv_getR C rfl rfl rfl ?_
    refine mv_iload_n C rfl rfl ?_
    refine mv_iload_n C rfl rfl ?_
    refine mv_iload_n C rfl rfl ?_
    refine mv_cV C rfl R0 (by decide) rfl rfl rfl (Nat.le_of_ble_eq_true rfl) (Nat.le_refl _) (Nat.le_refl _) rfl ?_
    refine mv_ireturn C rfl mv_okI ?_ ?_
    all_goals rfl
  refine ⟨_, mv_up R rfl, ?_, ?_⟩
  · unfold o_road
    split
    · rename_i hc
      obtain ⟨⟨a1, a2⟩, ⟨b1, b2⟩, -, ⟨c1, c2⟩, -⟩ := hc
      have ea := nI_nn a1
      have eb := nI_nn b1
      have eh := nI_nn (i32_1le c1)
      generalize a.toNatClampNeg = ka at *
      generalize b.toNatClampNeg = kb at *
      generalize h.toNatClampNeg = kh at *
      subst ea; subst eb; subst eh
      exact rX_sc (rX_arr (rX_arr (rX_arr hz 6 3 _ _ (by decide) (by decide)) 7 4 _ _ (by decide) (by decide)) 8 5 _ _ (by decide) (by decide)) 3 7 2 _ (by decide)
    · exact hz
  · split
    · exact fX_u (fX_u (fX_u (fX_u fX_rf (by decide)) (by decide)) (by decide)) (by decide)
    · exact fX_rf
theorem m_road (u : hM) (z : mv_Z) (a b h : Int32) (hi : hI u) (hz : rM u z) : mR 118 [.int a, .int b, .int h] u z (.int (a_road u a b h)) (o_road u a b h) := by
  have hn := rM_s hz 4 2 (by decide)
  have hp := rM_s hz 1 0 (by decide)
  have h40 := hi.2.2.1
  have h24 := hi.1
  have R : mv_Runs 3 118 [.ref 68, .int a, .int b, .int h] (mv_E z) (some (.int (a_road u a b h))) (mv_E (if (0 ≤ a ∧ a < nI (u 0 0)) ∧ (0 ≤ b ∧ b < nI (u 0 0)) ∧ ¬ a = b ∧ (1 ≤ h ∧ h ≤ 12) ∧ u 2 0 < 40 then mv_u (mv_u (mv_u (mv_u (mv_u z 68 0 0) 71 (u 2 0) a) 72 (u 2 0) b) 73 (u 2 0) h) 68 4 (nI (u 2 0 + 1)) else mv_u z 68 0 0)) := by
    unfold a_road
    refine mv_start pX11_road (some .int) [some (.ref 68), some (.int a), some (.int b), some (.int h)] rfl rfl rfl rfl (fun V C => ?_)
    refine mv_aload_n C rfl rfl ?_
    refine mv_iconst C rfl ?_
    refine mv_putI C rfl rfl rfl rfl ?_
    refine mv_aload_n C rfl rfl ?_
    refine mv_iload_n C rfl rfl ?_
    refine mv_cV C rfl (r_mIsParish _ _ _ hp h24) (by decide) rfl rfl rfl (Nat.le_of_ble_eq_true rfl) (Nat.le_refl _) (Nat.le_refl _) rfl ?_
    refine mv_if_eq C rfl (fun c10 => ?_) (fun c10 => ?_)
    · try simp only [b01, b10, Classical.not_not] at c10
      try simp (disch := omega) only [lit_0, lit_1, lit_2, lit_3, lit_4, lit_5, lit_6, lit_7, lit_8, lit_9, lit_10, lit_11, lit_12, lit_23, lit_24, lit_30, lit_31, lit_32, lit_39, lit_40, lit_41, lit_46, lit_47, lit_48, lit_96, lit_99, lit_100, lit_255, lit_999, lit_1000, lit_2024, lit_32767, lit_1000000, nI_ltI, nI_leI, nI_eq, Nat.not_lt, Nat.not_le] at c10
      try simp only [unl_0, unl_1, unl_2, unl_3, unl_4, unl_5, unl_6, unl_7, unl_8, unl_9, unl_10, unl_11, unl_12, unl_23, unl_24, unl_30, unl_31, unl_32, unl_39, unl_40, unl_41, unl_46, unl_47, unl_48, unl_96, unl_99, unl_100, unl_255, unl_999, unl_1000, unl_2024, unl_32767, unl_1000000] at c10
      refine mv_iconst C rfl ?_
      refine mv_ireturn C rfl mv_okI ?_ ?_
      all_goals (clear C; clear hi; grind)
    · try simp only [b01, b10, Classical.not_not] at c10
      try simp (disch := omega) only [lit_0, lit_1, lit_2, lit_3, lit_4, lit_5, lit_6, lit_7, lit_8, lit_9, lit_10, lit_11, lit_12, lit_23, lit_24, lit_30, lit_31, lit_32, lit_39, lit_40, lit_41, lit_46, lit_47, lit_48, lit_96, lit_99, lit_100, lit_255, lit_999, lit_1000, lit_2024, lit_32767, lit_1000000, nI_ltI, nI_leI, nI_eq, Nat.not_lt, Nat.not_le] at c10
      try simp only [unl_0, unl_1, unl_2, unl_3, unl_4, unl_5, unl_6, unl_7, unl_8, unl_9, unl_10, unl_11, unl_12, unl_23, unl_24, unl_30, unl_31, unl_32, unl_39, unl_40, unl_41, unl_46, unl_47, unl_48, unl_96, unl_99, unl_100, unl_255, unl_999, unl_1000, unl_2024, unl_32767, unl_1000000] at c10
      refine mv_aload_n C rfl rfl ?_
      refine mv_iload_n C rfl rfl ?_
      refine mv_cV C rfl (r_mIsParish _ _ _ hp h24) (by decide) rfl rfl rfl (Nat.le_of_ble_eq_true rfl) (Nat.le_refl _) (Nat.le_refl _) rfl ?_
      refine mv_if_eq C rfl (fun c18 => ?_) (fun c18 => ?_)
      · try simp only [b01, b10, Classical.not_not] at c18
        try simp (disch := omega) only [lit_0, lit_1, lit_2, lit_3, lit_4, lit_5, lit_6, lit_7, lit_8, lit_9, lit_10, lit_11, lit_12, lit_23, lit_24, lit_30, lit_31, lit_32, lit_39, lit_40, lit_41, lit_46, lit_47, lit_48, lit_96, lit_99, lit_100, lit_255, lit_999, lit_1000, lit_2024, lit_32767, lit_1000000, nI_ltI, nI_leI, nI_eq, Nat.not_lt, Nat.not_le] at c18
        try simp only [unl_0, unl_1, unl_2, unl_3, unl_4, unl_5, unl_6, unl_7, unl_8, unl_9, unl_10, unl_11, unl_12, unl_23, unl_24, unl_30, unl_31, unl_32, unl_39, unl_40, unl_41, unl_46, unl_47, unl_48, unl_96, unl_99, unl_100, unl_255, unl_999, unl_1000, unl_2024, unl_32767, unl_1000000] at c18
        refine mv_iconst C rfl ?_
        refine mv_ireturn C rfl mv_okI ?_ ?_
        all_goals (clear C; clear hi; grind)
      · try simp only [b01, b10, Classical.not_not] at c18
        try simp (disch := omega) only [lit_0, lit_1, lit_2, lit_3, lit_4, lit_5, lit_6, lit_7, lit_8, lit_9, lit_10, lit_11, lit_12, lit_23, lit_24, lit_30, lit_31, lit_32, lit_39, lit_40, lit_41, lit_46, lit_47, lit_48, lit_96, lit_99, lit_100, lit_255, lit_999, lit_1000, lit_2024, lit_32767, lit_1000000, nI_ltI, nI_leI, nI_eq, Nat.not_lt, Nat.not_le] at c18
        try simp only [unl_0, unl_1, unl_2, unl_3, unl_4, unl_5, unl_6, unl_7, unl_8, unl_9, unl_10, unl_11, unl_12, unl_23, unl_24, unl_30, unl_31, unl_32, unl_39, unl_40, unl_41, unl_46, unl_47, unl_48, unl_96, unl_99, unl_100, unl_255, unl_999, unl_1000, unl_2024, unl_32767, unl_1000000] at c18
        refine mv_iload_n C rfl rfl ?_
        refine mv_iload_n C rfl rfl ?_
        refine mv_icmp_eq C rfl (fun c23 => ?_) (fun c23 => ?_)
        · try simp only [b01, b10, Classical.not_not] at c23
          try simp (disch := omega) only [lit_0, lit_1, lit_2, lit_3, lit_4, lit_5, lit_6, lit_7, lit_8, lit_9, lit_10, lit_11, lit_12, lit_23, lit_24, lit_30, lit_31, lit_32, lit_39, lit_40, lit_41, lit_46, lit_47, lit_48, lit_96, lit_99, lit_100, lit_255, lit_999, lit_1000, lit_2024, lit_32767, lit_1000000, nI_ltI, nI_leI, nI_eq, Nat.not_lt, Nat.not_le] at c23
          try simp only [unl_0, unl_1, unl_2, unl_3, unl_4, unl_5, unl_6, unl_7, unl_8, unl_9, unl_10, unl_11, unl_12, unl_23, unl_24, unl_30, unl_31, unl_32, unl_39, unl_40, unl_41, unl_46, unl_47, unl_48, unl_96, unl_99, unl_100, unl_255, unl_999, unl_1000, unl_2024, unl_32767, unl_1000000] at c23
          refine mv_iconst C rfl ?_
          refine mv_ireturn C rfl mv_okI ?_ ?_
          all_goals (clear C; clear hi; grind)
        · try simp only [b01, b10, Classical.not_not] at c23
          try simp (disch := omega) only [lit_0, lit_1, lit_2, lit_3, lit_4, lit_5, lit_6, lit_7, lit_8, lit_9, lit_10, lit_11, lit_12, lit_23, lit_24, lit_30, lit_31, lit_32, lit_39, lit_40, lit_41, lit_46, lit_47, lit_48, lit_96, lit_99, lit_100, lit_255, lit_999, lit_1000, lit_2024, lit_32767, lit_1000000, nI_ltI, nI_leI, nI_eq, Nat.not_lt, Nat.not_le] at c23
          try simp only [unl_0, unl_1, unl_2, unl_3, unl_4, unl_5, unl_6, unl_7, unl_8, unl_9, unl_10, unl_11, unl_12, unl_23, unl_24, unl_30, unl_31, unl_32, unl_39, unl_40, unl_41, unl_46, unl_47, unl_48, unl_96, unl_99, unl_100, unl_255, unl_999, unl_1000, unl_2024, unl_32767, unl_1000000] at c23
          refine mv_iload_n C rfl rfl ?_
          refine mv_i2l C rfl ?_
          refine mv_lconst C rfl ?_
          refine mv_ldc2_w C rfl ?_
          refine mv_cS C rfl (mv_up (r_inI _ _ _ _ (1 ≤ h ∧ h ≤ 12) (by rw [i32_le, i32_le, i32_1, i32_12, l64_1, l64_12])) rfl) (by decide) rfl (Nat.le_of_ble_eq_true rfl) (Nat.le_refl _) (Nat.le_refl _) rfl ?_
          refine mv_if_eq C rfl (fun c35 => ?_) (fun c35 => ?_)
          · try simp only [b01, b10, Classical.not_not] at c35
            try simp (disch := omega) only [lit_0, lit_1, lit_2, lit_3, lit_4, lit_5, lit_6, lit_7, lit_8, lit_9, lit_10, lit_11, lit_12, lit_23, lit_24, lit_30, lit_31, lit_32, lit_39, lit_40, lit_41, lit_46, lit_47, lit_48, lit_96, lit_99, lit_100, lit_255, lit_999, lit_1000, lit_2024, lit_32767, lit_1000000, nI_ltI, nI_leI, nI_eq, Nat.not_lt, Nat.not_le] at c35
            try simp only [unl_0, unl_1, unl_2, unl_3, unl_4, unl_5, unl_6, unl_7, unl_8, unl_9, unl_10, unl_11, unl_12, unl_23, unl_24, unl_30, unl_31, unl_32, unl_39, unl_40, unl_41, unl_46, unl_47, unl_48, unl_96, unl_99, unl_100, unl_255, unl_999, unl_1000, unl_2024, unl_32767, unl_1000000] at c35
            refine mv_iconst C rfl ?_
            refine mv_ireturn C rfl mv_okI ?_ ?_
            all_goals (clear C; clear hi; grind)
          · try simp only [b01, b10, Classical.not_not] at c35
            try simp (disch := omega) only [lit_0, lit_1, lit_2, lit_3, lit_4, lit_5, lit_6, lit_7, lit_8, lit_9, lit_10, lit_11, lit_12, lit_23, lit_24, lit_30, lit_31, lit_32, lit_39, lit_40, lit_41, lit_46, lit_47, lit_48, lit_96, lit_99, lit_100, lit_255, lit_999, lit_1000, lit_2024, lit_32767, lit_1000000, nI_ltI, nI_leI, nI_eq, Nat.not_lt, Nat.not_le] at c35
            try simp only [unl_0, unl_1, unl_2, unl_3, unl_4, unl_5, unl_6, unl_7, unl_8, unl_9, unl_10, unl_11, unl_12, unl_23, unl_24, unl_30, unl_31, unl_32, unl_39, unl_40, unl_41, unl_46, unl_47, unl_48, unl_96, unl_99, unl_100, unl_255, unl_999, unl_1000, unl_2024, unl_32767, unl_1000000] at c35
            refine mv_aload_n C rfl rfl ?_
            refine mv_getJ C rfl rfl rfl hn ?_
            refine mv_bipush C rfl ?_
            refine mv_icmp_ne C rfl (fun c44 => ?_) (fun c44 => ?_)
            · try simp only [b01, b10, Classical.not_not] at c44
              try simp (disch := omega) only [lit_0, lit_1, lit_2, lit_3, lit_4, lit_5, lit_6, lit_7, lit_8, lit_9, lit_10, lit_11, lit_12, lit_23, lit_24, lit_30, lit_31, lit_32, lit_39, lit_40, lit_41, lit_46, lit_47, lit_48, lit_96, lit_99, lit_100, lit_255, lit_999, lit_1000, lit_2024, lit_32767, lit_1000000, nI_ltI, nI_leI, nI_eq, Nat.not_lt, Nat.not_le] at c44
              try simp only [unl_0, unl_1, unl_2, unl_3, unl_4, unl_5, unl_6, unl_7, unl_8, unl_9, unl_10, unl_11, unl_12, unl_23, unl_24, unl_30, unl_31, unl_32, unl_39, unl_40, unl_41, unl_46, unl_47, unl_48, unl_96, unl_99, unl_100, unl_255, unl_999, unl_1000, unl_2024, unl_32767, unl_1000000] at c44
              refine mv_aload_n C rfl rfl ?_
              refine mv_getR C rfl rfl rfl ?_
              refine mv_aload_n C rfl rfl ?_
              refine mv_getJ C rfl rfl rfl hn ?_
              refine mv_iload_n C rfl rfl ?_
              refine mv_ast C rfl rfl rfl (by omega) ?_
              refine mv_aload_n C rfl rfl ?_
              refine mv_getR C rfl rfl rfl ?_
              refine mv_aload_n C rfl rfl ?_
              refine mv_getJ C rfl rfl rfl hn ?_
              refine mv_iload_n C rfl rfl ?_
              refine mv_ast C rfl rfl rfl (by omega) ?_
              refine mv_aload_n C rfl rfl ?_
              refine mv_getR C rfl rfl rfl ?_
              refine mv_aload_n C rfl rfl ?_
              refine mv_getJ C rfl rfl rfl hn ?_
              refine mv_iload_n C rfl rfl ?_
              refine mv_ast C rfl rfl rfl (by omega) ?_
              refine mv_aload_n C rfl rfl ?_
              refine mv_dup C rfl rfl ?_
              refine mv_getJ C rfl rfl rfl hn ?_
              refine mv_iconst C rfl ?_
              refine mv_iadd C rfl ?_
              refine mv_top (nI_1 _) ?_
              refine mv_putI C rfl rfl rfl rfl ?_
              refine mv_aload_n C rfl rfl ?_
              refine mv_getJ C rfl rfl rfl (show _ = nI (u 2 0 + 1) from rfl) ?_
              refine mv_iconst C rfl ?_
              refine mv_isub C rfl ?_
              refine mv_top (nI_pred _) ?_
              refine mv_ireturn C rfl mv_okI ?_ ?_
              all_goals (clear C; clear hi; grind)
            · try simp only [b01, b10, Classical.not_not] at c44
              try simp (disch := omega) only [lit_0, lit_1, lit_2, lit_3, lit_4, lit_5, lit_6, lit_7, lit_8, lit_9, lit_10, lit_11, lit_12, lit_23, lit_24, lit_30, lit_31, lit_32, lit_39, lit_40, lit_41, lit_46, lit_47, lit_48, lit_96, lit_99, lit_100, lit_255, lit_999, lit_1000, lit_2024, lit_32767, lit_1000000, nI_ltI, nI_leI, nI_eq, Nat.not_lt, Nat.not_le] at c44
              try simp only [unl_0, unl_1, unl_2, unl_3, unl_4, unl_5, unl_6, unl_7, unl_8, unl_9, unl_10, unl_11, unl_12, unl_23, unl_24, unl_30, unl_31, unl_32, unl_39, unl_40, unl_41, unl_46, unl_47, unl_48, unl_96, unl_99, unl_100, unl_255, unl_999, unl_1000, unl_2024, unl_32767, unl_1000000] at c44
              refine mv_iconst C rfl ?_
              refine mv_ireturn C rfl mv_okI ?_ ?_
              all_goals (clear C; clear hi; grind)
  refine ⟨_, mv_up R rfl, ?_, ?_⟩
  · unfold o_road
    have h0 := rM_free hz 68 0 0 (Or.inr ⟨rfl, by decide⟩)
    split
    · rename_i hc
      obtain ⟨⟨a1, a2⟩, ⟨b1, b2⟩, -, ⟨c1, c2⟩, -⟩ := hc
      have ea := nI_nn a1
      have eb := nI_nn b1
      have eh := nI_nn (i32_1le c1)
      generalize a.toNatClampNeg = ka at *
      generalize b.toNatClampNeg = kb at *
      generalize h.toNatClampNeg = kh at *
      subst ea; subst eb; subst eh
      exact rM_sc (rM_arr (rM_arr (rM_arr h0 71 3 _ _ (by decide)) 72 4 _ _ (by decide)) 73 5 _ _ (by decide)) 4 2 _ (by decide)
    · exact h0
  · split
    · exact fM_u (fM_u (fM_u (fM_u (fM_u fM_rf (by decide)) (by decide)) (by decide)) (by decide)) (by decide)
    · exact fM_u fM_rf (by decide)
-- shut
def a_shut (u : hM) (r : Int32) : Int32 := if 0 ≤ r ∧ r < nI (u 2 0) then 1 else 0
def o_shut (u : hM) (r : Int32) (v : Nat) : hM := if 0 ≤ r ∧ r < nI (u 2 0) then hu u 6 r.toNatClampNeg v else u
theorem v01 {v : Nat} (h : v ≤ 1) : nI v = 0 ∨ nI v = 1 := by
  rcases (show v = 0 ∨ v = 1 by omega) with rfl | rfl
  · exact Or.inl rfl
  · exact Or.inr rfl
theorem x_shut (u : hM) (z : mv_Z) (r : Int32) (v : Nat) (hv : v ≤ 1) (hi : hI u) (hz : rX u z) : xR 74 [.int r, .int (nI v)] u z (.int (a_shut u r)) (o_shut u r v) := by
  have hn := rX_s hz 3 7 2 (by decide)
  have h40 := hi.2.2.1
  have R0 := r_hasRoad z r
  rw [hn] at R0
  unfold a_shut o_shut
  by_cases hc : 0 ≤ r ∧ r < nI (u 2 0)
  · have e := nI_rngc hc.1 hc.2 (by omega)
    rw [if_pos hc] at R0 ⊢
    rw [if_pos hc]
    generalize r.toNatClampNeg = k at *
    obtain ⟨hk, rfl⟩ := e
    refine ⟨_, mv_up (d := 3) (S1 := mv_E (mv_u z 9 k (nI v))) ?_ rfl, rX_arr hz 9 6 _ _ (by decide) (by decide), fX_u fX_rf (by decide)⟩
    refine mv_start pX10_shut (some .boolean) [some (.ref 0), some (.int (nI k)), some (.int (nI v))] rfl rfl rfl rfl (fun V C => ?_)
    refine mv_aload_n C rfl rfl ?_
    refine mv_getR C rfl rfl rfl ?_
    refine mv_iload_n C rfl rfl ?_
    refine mv_cV C rfl (mv_up R0 rfl) (by decide) rfl rfl rfl (Nat.le_of_ble_eq_true rfl) (Nat.le_refl _) (Nat.le_refl _) rfl ?_
    refine mv_if_ne C rfl (fun c8 => ?_) (fun c8 => ?_)
    · refine mv_aload_n C rfl rfl ?_
      refine mv_getR C rfl rfl rfl ?_
      refine mv_getR C rfl rfl rfl ?_
      refine mv_iload_n C rfl rfl ?_
      refine mv_iload_n C rfl rfl ?_
      refine mv_zst C rfl rfl rfl (by omega) (v01 hv) ?_
      refine mv_iconst C rfl ?_
      refine mv_ireturn C rfl mv_okZ1 ?_ ?_
      all_goals rfl
    · exact absurd c8 (by decide)
  · rw [if_neg hc] at R0 ⊢
    rw [if_neg hc]
    refine ⟨_, mv_up (d := 3) (S1 := mv_E z) ?_ rfl, hz, fX_rf⟩
    refine mv_start pX10_shut (some .boolean) [some (.ref 0), some (.int r), some (.int (nI v))] rfl rfl rfl rfl (fun V C => ?_)
    refine mv_aload_n C rfl rfl ?_
    refine mv_getR C rfl rfl rfl ?_
    refine mv_iload_n C rfl rfl ?_
    refine mv_cV C rfl (mv_up R0 rfl) (by decide) rfl rfl rfl (Nat.le_of_ble_eq_true rfl) (Nat.le_refl _) (Nat.le_refl _) rfl ?_
    refine mv_if_ne C rfl (fun c8 => ?_) (fun c8 => ?_)
    · exact absurd rfl c8
    · refine mv_iconst C rfl ?_
      refine mv_ireturn C rfl mv_okZ0 ?_ ?_
      all_goals rfl
theorem m_shut (u : hM) (z : mv_Z) (r : Int32) (v : Nat) (hv : v ≤ 1) (hi : hI u) (hz : rM u z) : mR 119 [.int r, .int (nI v)] u z (.int (a_shut u r)) (o_shut u r v) := by
  have hn := rM_s hz 4 2 (by decide)
  have h40 := hi.2.2.1
  have h0 := rM_free hz 68 0 0 (Or.inr ⟨rfl, by decide⟩)
  have R0 := r_inI (mv_u z 68 0 0) r 0 (nI (u 2 0) - 1 : Int32).toInt64 _ (inN (by omega))
  unfold a_shut o_shut
  by_cases hc : 0 ≤ r ∧ r < nI (u 2 0)
  · have e := nI_rngc hc.1 hc.2 (by omega)
    rw [if_pos hc] at R0 ⊢
    rw [if_pos hc]
    generalize r.toNatClampNeg = k at *
    obtain ⟨hk, rfl⟩ := e
    refine ⟨_, mv_up (d := 3) (S1 := mv_E (mv_u (mv_u z 68 0 0) 74 k (nI v))) ?_ rfl, rM_arr h0 74 6 _ _ (by decide), fM_u (fM_u fM_rf (by decide)) (by decide)⟩
    refine mv_start pX11_shut (some .boolean) [some (.ref 68), some (.int (nI k)), some (.int (nI v))] rfl rfl rfl rfl (fun V C => ?_)
    refine mv_aload_n C rfl rfl ?_
    refine mv_iconst C rfl ?_
    refine mv_putI C rfl rfl rfl rfl ?_
    refine mv_iload_n C rfl rfl ?_
    refine mv_i2l C rfl ?_
    refine mv_lconst C rfl ?_
    refine mv_aload_n C rfl rfl ?_
    refine mv_getJ C rfl rfl rfl hn ?_
    refine mv_iconst C rfl ?_
    refine mv_isub C rfl ?_
    refine mv_i2l C rfl ?_
    refine mv_cS C rfl (mv_up R0 rfl) (by decide) rfl (Nat.le_of_ble_eq_true rfl) (Nat.le_refl _) (Nat.le_refl _) rfl ?_
    refine mv_if_ne C rfl (fun c18 => ?_) (fun c18 => ?_)
    · refine mv_aload_n C rfl rfl ?_
      refine mv_getR C rfl rfl rfl ?_
      refine mv_iload_n C rfl rfl ?_
      refine mv_iload_n C rfl rfl ?_
      refine mv_zst C rfl rfl rfl (by omega) (v01 hv) ?_
      refine mv_iconst C rfl ?_
      refine mv_ireturn C rfl mv_okZ1 ?_ ?_
      all_goals rfl
    · exact absurd c18 (by decide)
  · rw [if_neg hc] at R0 ⊢
    rw [if_neg hc]
    refine ⟨_, mv_up (d := 3) (S1 := mv_E (mv_u z 68 0 0)) ?_ rfl, h0, fM_u fM_rf (by decide)⟩
    refine mv_start pX11_shut (some .boolean) [some (.ref 68), some (.int r), some (.int (nI v))] rfl rfl rfl rfl (fun V C => ?_)
    refine mv_aload_n C rfl rfl ?_
    refine mv_iconst C rfl ?_
    refine mv_putI C rfl rfl rfl rfl ?_
    refine mv_iload_n C rfl rfl ?_
    refine mv_i2l C rfl ?_
    refine mv_lconst C rfl ?_
    refine mv_aload_n C rfl rfl ?_
    refine mv_getJ C rfl rfl rfl hn ?_
    refine mv_iconst C rfl ?_
    refine mv_isub C rfl ?_
    refine mv_i2l C rfl ?_
    refine mv_cS C rfl (mv_up R0 rfl) (by decide) rfl (Nat.le_of_ble_eq_true rfl) (Nat.le_refl _) (Nat.le_refl _) rfl ?_
    refine mv_if_ne C rfl (fun c18 => ?_) (fun c18 => ?_)
    · exact absurd rfl c18
    · refine mv_iconst C rfl ?_
      refine mv_ireturn C rfl mv_okZ0 ?_ ?_
      all_goals rfl
-- strike
def a_strike (u : hM) (f : Int32) : Int32 := if 0 ≤ f ∧ f < nI (u 9 0) then 1 else 0
def o_strike (u : hM) (f : Int32) (v : Nat) : hM := if 0 ≤ f ∧ f < nI (u 9 0) then hu u 13 f.toNatClampNeg v else u
theorem x_strike (u : hM) (z : mv_Z) (r : Int32) (v : Nat) (hv : v ≤ 1) (hi : hI u) (hz : rX u z) : xR 82 [.int r, .int (nI v)] u z (.int (a_strike u r)) (o_strike u r v) := by
  have hn := rX_s hz 10 4 9 (by decide)
  have h40 := hi.2.2.2.2.2.2.2.1
  unfold a_strike o_strike
  by_cases hc : 0 ≤ r ∧ r < nI (u 9 0)
  · have e := nI_rngc hc.1 hc.2 (by omega)
    rw [if_pos hc, if_pos hc]
    generalize r.toNatClampNeg = k at *
    obtain ⟨hk, rfl⟩ := e
    refine ⟨_, mv_up (d := 3) (S1 := mv_E (mv_u z 14 k (nI v))) ?_ rfl, rX_arr hz 14 13 _ _ (by decide) (by decide), fX_u fX_rf (by decide)⟩
    refine mv_start pX10_strike (some .boolean) [some (.ref 0), some (.int (nI k)), some (.int (nI v))] rfl rfl rfl rfl (fun V C => ?_)
    refine mv_iload_n C rfl rfl ?_
    refine mv_if_lt C rfl (fun c1 => ?_) (fun c1 => ?_)
    · exact absurd c1 (nI_pos (by omega))
    · refine mv_iload_n C rfl rfl ?_
      refine mv_aload_n C rfl rfl ?_
      refine mv_getR C rfl rfl rfl ?_
      refine mv_getJ C rfl rfl rfl hn ?_
      refine mv_icmp_lt C rfl (fun c12 => ?_) (fun c12 => ?_)
      · refine mv_aload_n C rfl rfl ?_
        refine mv_getR C rfl rfl rfl ?_
        refine mv_getR C rfl rfl rfl ?_
        refine mv_iload_n C rfl rfl ?_
        refine mv_iload_n C rfl rfl ?_
        refine mv_zst C rfl rfl rfl (by omega) (v01 hv) ?_
        refine mv_iconst C rfl ?_
        refine mv_ireturn C rfl mv_okZ1 ?_ ?_
        all_goals rfl
      · exact absurd hc.2 c12
  · rw [if_neg hc, if_neg hc]
    refine ⟨_, mv_up (d := 3) (S1 := mv_E z) ?_ rfl, hz, fX_rf⟩
    refine mv_start pX10_strike (some .boolean) [some (.ref 0), some (.int r), some (.int (nI v))] rfl rfl rfl rfl (fun V C => ?_)
    refine mv_iload_n C rfl rfl ?_
    refine mv_if_lt C rfl (fun c1 => ?_) (fun c1 => ?_)
    · refine mv_iconst C rfl ?_
      refine mv_ireturn C rfl mv_okZ0 ?_ ?_
      all_goals rfl
    · refine mv_iload_n C rfl rfl ?_
      refine mv_aload_n C rfl rfl ?_
      refine mv_getR C rfl rfl rfl ?_
      refine mv_getJ C rfl rfl rfl hn ?_
      refine mv_icmp_lt C rfl (fun c12 => ?_) (fun c12 => ?_)
      · exact absurd ⟨(by rw [i32_lt] at c1; rw [i32_le]; omega), c12⟩ hc
      · refine mv_iconst C rfl ?_
        refine mv_ireturn C rfl mv_okZ0 ?_ ?_
        all_goals rfl
theorem m_strike (u : hM) (z : mv_Z) (r : Int32) (v : Nat) (hv : v ≤ 1) (hi : hI u) (hz : rM u z) : mR 128 [.int r, .int (nI v)] u z (.int (a_strike u r)) (o_strike u r v) := by
  have hn := rM_s hz 11 9 (by decide)
  have h40 := hi.2.2.2.2.2.2.2.1
  have h0 := rM_free hz 68 0 0 (Or.inr ⟨rfl, by decide⟩)
  have R0 := r_inI (mv_u z 68 0 0) r 0 (nI (u 9 0) - 1 : Int32).toInt64 _ (inN (by omega))
  unfold a_strike o_strike
  by_cases hc : 0 ≤ r ∧ r < nI (u 9 0)
  · have e := nI_rngc hc.1 hc.2 (by omega)
    rw [if_pos hc] at R0 ⊢
    rw [if_pos hc]
    generalize r.toNatClampNeg = k at *
    obtain ⟨hk, rfl⟩ := e
    refine ⟨_, mv_up (d := 3) (S1 := mv_E (mv_u (mv_u z 68 0 0) 79 k (nI v))) ?_ rfl, rM_arr h0 79 13 _ _ (by decide), fM_u (fM_u fM_rf (by decide)) (by decide)⟩
    refine mv_start pX11_strike (some .boolean) [some (.ref 68), some (.int (nI k)), some (.int (nI v))] rfl rfl rfl rfl (fun V C => ?_)
    refine mv_aload_n C rfl rfl ?_
    refine mv_iconst C rfl ?_
    refine mv_putI C rfl rfl rfl rfl ?_
    refine mv_iload_n C rfl rfl ?_
    refine mv_i2l C rfl ?_
    refine mv_lconst C rfl ?_
    refine mv_aload_n C rfl rfl ?_
    refine mv_getJ C rfl rfl rfl hn ?_
    refine mv_iconst C rfl ?_
    refine mv_isub C rfl ?_
    refine mv_i2l C rfl ?_
    refine mv_cS C rfl (mv_up R0 rfl) (by decide) rfl (Nat.le_of_ble_eq_true rfl) (Nat.le_refl _) (Nat.le_refl _) rfl ?_
    refine mv_if_ne C rfl (fun c18 => ?_) (fun c18 => ?_)
    · refine mv_aload_n C rfl rfl ?_
      refine mv_getR C rfl rfl rfl ?_
      refine mv_iload_n C rfl rfl ?_
      refine mv_iload_n C rfl rfl ?_
      refine mv_zst C rfl rfl rfl (by omega) (v01 hv) ?_
      refine mv_iconst C rfl ?_
      refine mv_ireturn C rfl mv_okZ1 ?_ ?_
      all_goals rfl
    · exact absurd c18 (by decide)
  · rw [if_neg hc] at R0 ⊢
    rw [if_neg hc]
    refine ⟨_, mv_up (d := 3) (S1 := mv_E (mv_u z 68 0 0)) ?_ rfl, h0, fM_u fM_rf (by decide)⟩
    refine mv_start pX11_strike (some .boolean) [some (.ref 68), some (.int r), some (.int (nI v))] rfl rfl rfl rfl (fun V C => ?_)
    refine mv_aload_n C rfl rfl ?_
    refine mv_iconst C rfl ?_
    refine mv_putI C rfl rfl rfl rfl ?_
    refine mv_iload_n C rfl rfl ?_
    refine mv_i2l C rfl ?_
    refine mv_lconst C rfl ?_
    refine mv_aload_n C rfl rfl ?_
    refine mv_getJ C rfl rfl rfl hn ?_
    refine mv_iconst C rfl ?_
    refine mv_isub C rfl ?_
    refine mv_i2l C rfl ?_
    refine mv_cS C rfl (mv_up R0 rfl) (by decide) rfl (Nat.le_of_ble_eq_true rfl) (Nat.le_refl _) (Nat.le_refl _) rfl ?_
    refine mv_if_ne C rfl (fun c18 => ?_) (fun c18 => ?_)
    · exact absurd rfl c18
    · refine mv_iconst C rfl ?_
      refine mv_ireturn C rfl mv_okZ0 ?_ ?_
      all_goals rfl
end

