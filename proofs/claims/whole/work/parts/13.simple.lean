section
theorem lgc_val (x y : Int64) : (x.toInt < y.toInt ∧ lg_cmp x y = -1) ∨ (x.toInt = y.toInt ∧ lg_cmp x y = 0) ∨ (y.toInt < x.toInt ∧ lg_cmp x y = 1) := by
  unfold lg_cmp
  rcases Int.lt_trichotomy x.toInt y.toInt with h | h | h
  · have h1 : ¬ y < x := by rw [Int64.lt_iff_toInt_lt]; omega
    have h2 : ¬ x = y := by rintro rfl; omega
    exact Or.inl ⟨h, by rw [if_neg h1, if_neg h2]⟩
  · have h2 : x = y := Int64.toInt_inj.mp h
    have h1 : ¬ y < x := by rw [Int64.lt_iff_toInt_lt]; omega
    exact Or.inr (Or.inl ⟨h, by rw [if_neg h1, if_pos h2]⟩)
  · have h1 : y < x := by rw [Int64.lt_iff_toInt_lt]; omega
    exact Or.inr (Or.inr ⟨h, by rw [if_pos h1]⟩)
theorem lgc_lt (x y : Int64) : lg_cmp x y < 0 ↔ x.toInt < y.toInt := by
  rcases lgc_val x y with ⟨h, e⟩ | ⟨h, e⟩ | ⟨h, e⟩ <;> rw [e, i32_lt] <;> simp only [i32_0, i32_1, i32_m1] <;> omega
theorem lgc_gt (x y : Int64) : 0 < lg_cmp x y ↔ y.toInt < x.toInt := by
  rcases lgc_val x y with ⟨h, e⟩ | ⟨h, e⟩ | ⟨h, e⟩ <;> rw [e, i32_lt] <;> simp only [i32_0, i32_1, i32_m1] <;> omega
theorem r_in (z : mv_Z) (x y w : Int64) : mv_Runs 1 113 [.long x, .long y, .long w] (mv_E z) (some (.int (if y.toInt ≤ x.toInt ∧ x.toInt ≤ w.toInt then 1 else 0))) (mv_E z) := by
  refine mv_start pX11_in (some .boolean) [some (.long x), none, some (.long y), none, some (.long w), none] rfl rfl rfl rfl (fun V C => ?_)
  refine mv_lload_n C rfl rfl ?_
  refine mv_lload_n C rfl rfl ?_
  refine mv_lcmp C rfl ?_
  refine mv_if_lt C rfl (fun c3 => ?_) (fun c3 => ?_)
  · first | rw [lgc_lt] at c3 | rw [lgc_gt] at c3
    refine mv_iconst C rfl ?_
    refine mv_ireturn C rfl (by first | exact mv_okZ1 | exact mv_okZ0) ?_ ?_
    all_goals (clear C; first | rfl | grind)
  · first | rw [lgc_lt] at c3 | rw [lgc_gt] at c3
    refine mv_lload_n C rfl rfl ?_
    refine mv_lload C rfl rfl ?_
    refine mv_lcmp C rfl ?_
    refine mv_if_gt C rfl (fun c10 => ?_) (fun c10 => ?_)
    · first | rw [lgc_lt] at c10 | rw [lgc_gt] at c10
      refine mv_iconst C rfl ?_
      refine mv_ireturn C rfl (by first | exact mv_okZ1 | exact mv_okZ0) ?_ ?_
      all_goals (clear C; first | rfl | grind)
    · first | rw [lgc_lt] at c10 | rw [lgc_gt] at c10
      refine mv_iconst C rfl ?_
      refine mv_goto C rfl ?_
      refine mv_ireturn C rfl (by first | exact mv_okZ1 | exact mv_okZ0) ?_ ?_
      all_goals (clear C; first | rfl | grind)
theorem r_inI (z : mv_Z) (x : Int32) (y w : Int64) (p : Prop) [Decidable p] (hp : (y.toInt ≤ x.toInt ∧ x.toInt ≤ w.toInt) ↔ p) : mv_Runs 1 113 [.long x.toInt64, .long y, .long w] (mv_E z) (some (.int (if p then 1 else 0))) (mv_E z) := by
  have := r_in z x.toInt64 y w
  rw [Int32.toInt_toInt64] at this
  simpa only [hp] using this
theorem p64 {n : Nat} (h : n < 2 ^ 31) : ((nI n - 1 : Int32).toInt64).toInt = (n : Int) - 1 := by
  rw [Int32.toInt_toInt64]
  cases n with
  | zero => rfl
  | succ k => rw [nI_pred, nI_toInt (by omega)]; omega
theorem l64_0 : (0 : Int64).toInt = 0 := rfl
theorem l64_1 : (1 : Int64).toInt = 1 := rfl
theorem l64_m1 : (-1 : Int64).toInt = -1 := rfl
theorem l64_5 : (5 : Int64).toInt = 5 := rfl
theorem l64_12 : (12 : Int64).toInt = 12 := rfl
theorem l64_31 : (31 : Int64).toInt = 31 := rfl
theorem l64_47 : (47 : Int64).toInt = 47 := rfl
theorem l64_32767 : (32767 : Int64).toInt = 32767 := rfl
theorem l64_mio : (1000000 : Int64).toInt = 1000000 := rfl
theorem inN {x : Int32} {n : Nat} (h : n < 2 ^ 31) : ((0 : Int64).toInt ≤ x.toInt ∧ x.toInt ≤ ((nI n - 1 : Int32).toInt64).toInt) ↔ (0 ≤ x ∧ x < nI n) := by
  rw [p64 h, i32_le, i32_lt, nI_toInt h, i32_0, l64_0]; omega
theorem r_mIsParish (z : mv_Z) (x : Int32) (n : Nat) (hn : z.1 68 1 = nI n) (h24 : n ≤ 24) : mv_Runs 2 115 [.ref 68, .int x] (mv_E z) (some (.int (if 0 ≤ x ∧ x < nI n then 1 else 0))) (mv_E z) := by
  refine mv_start pX11_isParish (some .boolean) [some (.ref 68), some (.int x)] rfl rfl rfl rfl (fun V C => ?_)
  refine mv_iload_n C rfl rfl ?_
  refine mv_i2l C rfl ?_
  refine mv_lconst C rfl ?_
  refine mv_aload_n C rfl rfl ?_
  refine mv_getJ C rfl rfl rfl hn ?_
  refine mv_iconst C rfl ?_
  refine mv_isub C rfl ?_
  refine mv_i2l C rfl ?_
  refine mv_cS C rfl (r_inI _ _ _ _ _ (inN (by omega))) (by decide) rfl (Nat.le_of_ble_eq_true rfl) (Nat.le_refl _) (Nat.le_refl _) rfl ?_
  refine mv_ireturn C rfl mv_okZi ?_ ?_
  all_goals rfl
theorem r_mIsHour (z : mv_Z) (x : Int32) : mv_Runs 2 116 [.int x] (mv_E z) (some (.int (if 0 ≤ x ∧ x < 48 then 1 else 0))) (mv_E z) := by
  refine mv_start pX11_isHour (some .boolean) [some (.int x)] rfl rfl rfl rfl (fun V C => ?_)
  refine mv_iload_n C rfl rfl ?_
  refine mv_i2l C rfl ?_
  refine mv_lconst C rfl ?_
  refine mv_ldc2_w C rfl ?_
  refine mv_cS C rfl (r_inI _ _ _ _ (0 ≤ x ∧ x < 48) (by rw [i32_le, i32_lt, i32_0, i32_48, l64_0, l64_47]; omega)) (by decide) rfl (Nat.le_of_ble_eq_true rfl) (Nat.le_refl _) (Nat.le_refl _) rfl ?_
  refine mv_ireturn C rfl mv_okZi ?_ ?_
  all_goals rfl
theorem r_mFact (z : mv_Z) (k i o h : Int32) (n : Nat) (hn : z.1 68 11 = nI n) (h40 : n ≤ 40) : mv_Runs 3 124 [.ref 68, .int k, .int i, .int o, .int h] (mv_E z) (some (.int (if ¬ i = 0 ∧ (0 ≤ h ∧ h < 48) ∧ n < 40 then nI n else -1))) (mv_E (if ¬ i = 0 ∧ (0 ≤ h ∧ h < 48) ∧ n < 40 then mv_u (mv_u (mv_u (mv_u (mv_u z 76 n k) 77 n o) 78 n h) 79 n 0) 68 11 (nI (n + 1)) else z)) := by
  refine mv_start pX11_fact (some .int) [some (.ref 68), some (.int k), some (.int i), some (.int o), some (.int h)] rfl rfl rfl rfl (fun V C => ?_)
  refine mv_iload_n C rfl rfl ?_
  refine mv_if_eq C rfl (fun c1 => ?_) (fun c1 => ?_)
  · try simp only [b01, b10, Classical.not_not] at c1
    try simp (disch := omega) only [lit_0, lit_1, lit_2, lit_3, lit_4, lit_5, lit_6, lit_7, lit_8, lit_9, lit_10, lit_11, lit_12, lit_23, lit_24, lit_30, lit_31, lit_32, lit_39, lit_40, lit_41, lit_46, lit_47, lit_48, lit_96, lit_99, lit_100, lit_255, lit_999, lit_1000, lit_2024, lit_32767, lit_1000000, nI_ltI, nI_leI, nI_eq, Nat.not_lt, Nat.not_le] at c1
    try simp only [unl_0, unl_1, unl_2, unl_3, unl_4, unl_5, unl_6, unl_7, unl_8, unl_9, unl_10, unl_11, unl_12, unl_23, unl_24, unl_30, unl_31, unl_32, unl_39, unl_40, unl_41, unl_46, unl_47, unl_48, unl_96, unl_99, unl_100, unl_255, unl_999, unl_1000, unl_2024, unl_32767, unl_1000000] at c1
    refine mv_iconst C rfl ?_
    refine mv_ireturn C rfl mv_okI ?_ ?_
    all_goals (clear C; grind)
  · try simp only [b01, b10, Classical.not_not] at c1
    try simp (disch := omega) only [lit_0, lit_1, lit_2, lit_3, lit_4, lit_5, lit_6, lit_7, lit_8, lit_9, lit_10, lit_11, lit_12, lit_23, lit_24, lit_30, lit_31, lit_32, lit_39, lit_40, lit_41, lit_46, lit_47, lit_48, lit_96, lit_99, lit_100, lit_255, lit_999, lit_1000, lit_2024, lit_32767, lit_1000000, nI_ltI, nI_leI, nI_eq, Nat.not_lt, Nat.not_le] at c1
    try simp only [unl_0, unl_1, unl_2, unl_3, unl_4, unl_5, unl_6, unl_7, unl_8, unl_9, unl_10, unl_11, unl_12, unl_23, unl_24, unl_30, unl_31, unl_32, unl_39, unl_40, unl_41, unl_46, unl_47, unl_48, unl_96, unl_99, unl_100, unl_255, unl_999, unl_1000, unl_2024, unl_32767, unl_1000000] at c1
    refine mv_iload C rfl rfl ?_
    refine mv_cS C rfl (mv_up (r_mIsHour _ _) rfl) (by decide) rfl (Nat.le_of_ble_eq_true rfl) (Nat.le_refl _) (Nat.le_refl _) rfl ?_
    refine mv_if_eq C rfl (fun c9 => ?_) (fun c9 => ?_)
    · try simp only [b01, b10, Classical.not_not] at c9
      try simp (disch := omega) only [lit_0, lit_1, lit_2, lit_3, lit_4, lit_5, lit_6, lit_7, lit_8, lit_9, lit_10, lit_11, lit_12, lit_23, lit_24, lit_30, lit_31, lit_32, lit_39, lit_40, lit_41, lit_46, lit_47, lit_48, lit_96, lit_99, lit_100, lit_255, lit_999, lit_1000, lit_2024, lit_32767, lit_1000000, nI_ltI, nI_leI, nI_eq, Nat.not_lt, Nat.not_le] at c9
      try simp only [unl_0, unl_1, unl_2, unl_3, unl_4, unl_5, unl_6, unl_7, unl_8, unl_9, unl_10, unl_11, unl_12, unl_23, unl_24, unl_30, unl_31, unl_32, unl_39, unl_40, unl_41, unl_46, unl_47, unl_48, unl_96, unl_99, unl_100, unl_255, unl_999, unl_1000, unl_2024, unl_32767, unl_1000000] at c9
      refine mv_iconst C rfl ?_
      refine mv_ireturn C rfl mv_okI ?_ ?_
      all_goals (clear C; grind)
    · try simp only [b01, b10, Classical.not_not] at c9
      try simp (disch := omega) only [lit_0, lit_1, lit_2, lit_3, lit_4, lit_5, lit_6, lit_7, lit_8, lit_9, lit_10, lit_11, lit_12, lit_23, lit_24, lit_30, lit_31, lit_32, lit_39, lit_40, lit_41, lit_46, lit_47, lit_48, lit_96, lit_99, lit_100, lit_255, lit_999, lit_1000, lit_2024, lit_32767, lit_1000000, nI_ltI, nI_leI, nI_eq, Nat.not_lt, Nat.not_le] at c9
      try simp only [unl_0, unl_1, unl_2, unl_3, unl_4, unl_5, unl_6, unl_7, unl_8, unl_9, unl_10, unl_11, unl_12, unl_23, unl_24, unl_30, unl_31, unl_32, unl_39, unl_40, unl_41, unl_46, unl_47, unl_48, unl_96, unl_99, unl_100, unl_255, unl_999, unl_1000, unl_2024, unl_32767, unl_1000000] at c9
      refine mv_aload_n C rfl rfl ?_
      refine mv_getJ C rfl rfl rfl hn ?_
      refine mv_bipush C rfl ?_
      refine mv_icmp_ne C rfl (fun c18 => ?_) (fun c18 => ?_)
      · try simp only [b01, b10, Classical.not_not] at c18
        try simp (disch := omega) only [lit_0, lit_1, lit_2, lit_3, lit_4, lit_5, lit_6, lit_7, lit_8, lit_9, lit_10, lit_11, lit_12, lit_23, lit_24, lit_30, lit_31, lit_32, lit_39, lit_40, lit_41, lit_46, lit_47, lit_48, lit_96, lit_99, lit_100, lit_255, lit_999, lit_1000, lit_2024, lit_32767, lit_1000000, nI_ltI, nI_leI, nI_eq, Nat.not_lt, Nat.not_le] at c18
        try simp only [unl_0, unl_1, unl_2, unl_3, unl_4, unl_5, unl_6, unl_7, unl_8, unl_9, unl_10, unl_11, unl_12, unl_23, unl_24, unl_30, unl_31, unl_32, unl_39, unl_40, unl_41, unl_46, unl_47, unl_48, unl_96, unl_99, unl_100, unl_255, unl_999, unl_1000, unl_2024, unl_32767, unl_1000000] at c18
        refine mv_aload_n C rfl rfl ?_
        refine mv_getR C rfl rfl rfl ?_
        refine mv_aload_n C rfl rfl ?_
        refine mv_getJ C rfl rfl rfl hn ?_
        refine mv_iload_n C rfl rfl ?_
        refine mv_ast C rfl rfl rfl (by omega) ?_
        refine mv_aload_n C rfl rfl ?_
        refine mv_getR C rfl rfl rfl ?_
        refine mv_aload_n C rfl rfl ?_
        refine mv_getJ C rfl rfl rfl hn ?_
        refine mv_iload_n C rfl rfl ?_
        refine mv_ast C rfl rfl rfl (by omega) ?_
        refine mv_aload_n C rfl rfl ?_
        refine mv_getR C rfl rfl rfl ?_
        refine mv_aload_n C rfl rfl ?_
        refine mv_getJ C rfl rfl rfl hn ?_
        refine mv_iload C rfl rfl ?_
        refine mv_ast C rfl rfl rfl (by omega) ?_
        refine mv_aload_n C rfl rfl ?_
        refine mv_getR C rfl rfl rfl ?_
        refine mv_aload_n C rfl rfl ?_
        refine mv_getJ C rfl rfl rfl hn ?_
        refine mv_iconst C rfl ?_
        refine mv_zst C rfl rfl rfl (by omega) (by simp) ?_
        refine mv_aload_n C rfl rfl ?_
        refine mv_dup C rfl rfl ?_
        refine mv_getJ C rfl rfl rfl hn ?_
        refine mv_iconst C rfl ?_
        refine mv_iadd C rfl ?_
        refine mv_top (nI_1 _) ?_
        refine mv_putI C rfl rfl rfl rfl ?_
        refine mv_aload_n C rfl rfl ?_
        refine mv_getJ C rfl rfl rfl (show _ = nI (n + 1) from rfl) ?_
        refine mv_iconst C rfl ?_
        refine mv_isub C rfl ?_
        refine mv_top (nI_pred _) ?_
        refine mv_ireturn C rfl mv_okI ?_ ?_
        all_goals (clear C; grind)
      · try simp only [b01, b10, Classical.not_not] at c18
        try simp (disch := omega) only [lit_0, lit_1, lit_2, lit_3, lit_4, lit_5, lit_6, lit_7, lit_8, lit_9, lit_10, lit_11, lit_12, lit_23, lit_24, lit_30, lit_31, lit_32, lit_39, lit_40, lit_41, lit_46, lit_47, lit_48, lit_96, lit_99, lit_100, lit_255, lit_999, lit_1000, lit_2024, lit_32767, lit_1000000, nI_ltI, nI_leI, nI_eq, Nat.not_lt, Nat.not_le] at c18
        try simp only [unl_0, unl_1, unl_2, unl_3, unl_4, unl_5, unl_6, unl_7, unl_8, unl_9, unl_10, unl_11, unl_12, unl_23, unl_24, unl_30, unl_31, unl_32, unl_39, unl_40, unl_41, unl_46, unl_47, unl_48, unl_96, unl_99, unl_100, unl_255, unl_999, unl_1000, unl_2024, unl_32767, unl_1000000] at c18
        refine mv_iconst C rfl ?_
        refine mv_ireturn C rfl mv_okI ?_ ?_
        all_goals (clear C; grind)
-- the answers and numbers of the simple calls
def a_parish (u : hM) (c : Int32) : Int32 := if (0 ≤ c ∧ c < 6) ∧ u 0 0 < 24 then nI (u 0 0) else -1
def o_parish (u : hM) (c : Int32) : hM := if (0 ≤ c ∧ c < 6) ∧ u 0 0 < 24 then hu (hu u 1 (u 0 0) c.toNatClampNeg) 0 0 (u 0 0 + 1) else u
theorem x_parish (u : hM) (z : mv_Z) (c : Int32) (hi : hI u) (h : rX u z) : xR 72 [.int c] u z (.int (a_parish u c)) (o_parish u c) := by
  have hn := rX_s h 3 6 0 (by decide)
  have R : mv_Runs 3 72 [.ref 0, .int c] (mv_E z) (some (.int (a_parish u c))) (mv_E (if (0 ≤ c ∧ c < 6) ∧ u 0 0 < 24 then mv_u (mv_u z 4 (u 0 0) c) 3 6 (nI (u 0 0 + 1)) else z)) := by
    refine mv_start pX10_parish (some .int) [some (.ref 0), some (.int c)] rfl rfl rfl rfl (fun V C => ?_)
    refine mv_aload_n C rfl rfl ?_
    refine mv_getR C rfl rfl rfl ?_
    refine mv_iload_n C rfl rfl ?_
    refine mv_cV C rfl (r_addParish _ _ _ hn hi.1) (by decide) rfl rfl rfl (Nat.le_of_ble_eq_true rfl) (Nat.le_refl _) (Nat.le_refl _) rfl ?_
    refine mv_ireturn C rfl mv_okI ?_ ?_
    all_goals rfl
  refine ⟨_, mv_up R rfl, ?_, ?_⟩
  · unfold o_parish
    by_cases hc : (0 ≤ c ∧ c < 6) ∧ u 0 0 < 24
    · rw [if_pos hc, if_pos hc]
      have e := nI_nn hc.1.1
      rw [e, nI_clamp (by have := nI_rngc hc.1.1 (show c < nI 6 from hc.1.2) (by decide); omega)]
      generalize c.toNatClampNeg = k
      refine rX_sc ?_ 3 6 0 (u 0 0 + 1) (by decide)
      obtain ⟨h1, h2, h3, h4, h5, h6, h7, h8⟩ := h
      refine ⟨rT_arr rOkX h1 (by decide) _ _, h2, h3, h4, h5, fun a ha => ?_, fun q hq => ?_, h8⟩
      · rw [mv_u_ne (by omega), mv_u_ne (by omega), mv_u_ne (by omega), mv_u_ne (by omega)]
        exact h6 a ha
      · have := hi.2.2.2.2.2.2.2.2.2.2.2.2.2.2.2.2.2.2.2.1 q hq
        have hq2 : ¬ u 28 q = u 0 0 := by omega
        show (mv_u z 4 (u 0 0) (nI k)).1 31 q = nI (hu u 1 (u 0 0) k 1 (u 28 q))
        rw [mv_u_ne (by decide), hu_ix hq2]
        exact h7 q hq
    · rw [if_neg hc, if_neg hc]; exact h
  · by_cases hc : (0 ≤ c ∧ c < 6) ∧ u 0 0 < 24
    · rw [if_pos hc]; exact fX_u (fX_u fX_rf (by decide)) (by decide)
    · rw [if_neg hc]; exact fX_rf
theorem m_parish (u : hM) (z : mv_Z) (c : Int32) (hi : hI u) (h : rM u z) : mR 117 [.int c] u z (.int (a_parish u c)) (o_parish u c) := by
  have hn := rM_s h 1 0 (by decide)
  have h24 := hi.1
  have R : mv_Runs 3 117 [.ref 68, .int c] (mv_E z) (some (.int (a_parish u c))) (mv_E (if (0 ≤ c ∧ c < 6) ∧ u 0 0 < 24 then mv_u (mv_u (mv_u z 68 0 0) 69 (u 0 0) c) 68 1 (nI (u 0 0 + 1)) else mv_u z 68 0 0)) := by
    unfold a_parish
    refine mv_start pX11_parish (some .int) [some (.ref 68), some (.int c)] rfl rfl rfl rfl (fun V C => ?_)
    refine mv_aload_n C rfl rfl ?_
    refine mv_iconst C rfl ?_
    refine mv_putI C rfl rfl rfl rfl ?_
    refine mv_iload_n C rfl rfl ?_
    refine mv_i2l C rfl ?_
    refine mv_lconst C rfl ?_
    refine mv_ldc2_w C rfl ?_
    refine mv_cS C rfl (mv_up (r_inI _ _ _ _ (0 ≤ c ∧ c < 6) (by rw [i32_le, i32_lt, i32_0, i32_6, l64_0, l64_5]; omega)) rfl) (by decide) rfl (Nat.le_of_ble_eq_true rfl) (Nat.le_refl _) (Nat.le_refl _) rfl ?_
    refine mv_if_eq C rfl (fun c14 => ?_) (fun c14 => ?_)
    · try simp only [b01, b10, Classical.not_not] at c14
      try simp (disch := omega) only [lit_0, lit_1, lit_2, lit_3, lit_4, lit_5, lit_6, lit_7, lit_8, lit_9, lit_10, lit_11, lit_12, lit_23, lit_24, lit_30, lit_31, lit_32, lit_39, lit_40, lit_41, lit_46, lit_47, lit_48, lit_96, lit_99, lit_100, lit_255, lit_999, lit_1000, lit_2024, lit_32767, lit_1000000, nI_ltI, nI_leI, nI_eq, Nat.not_lt, Nat.not_le] at c14
      try simp only [unl_0, unl_1, unl_2, unl_3, unl_4, unl_5, unl_6, unl_7, unl_8, unl_9, unl_10, unl_11, unl_12, unl_23, unl_24, unl_30, unl_31, unl_32, unl_39, unl_40, unl_41, unl_46, unl_47, unl_48, unl_96, unl_99, unl_100, unl_255, unl_999, unl_1000, unl_2024, unl_32767, unl_1000000] at c14
      refine mv_iconst C rfl ?_
      refine mv_ireturn C rfl mv_okI ?_ ?_
      all_goals (clear C; grind)
    · try simp only [b01, b10, Classical.not_not] at c14
      try simp (disch := omega) only [lit_0, lit_1, lit_2, lit_3, lit_4, lit_5, lit_6, lit_7, lit_8, lit_9, lit_10, lit_11, lit_12, lit_23, lit_24, lit_30, lit_31, lit_32, lit_39, lit_40, lit_41, lit_46, lit_47, lit_48, lit_96, lit_99, lit_100, lit_255, lit_999, lit_1000, lit_2024, lit_32767, lit_1000000, nI_ltI, nI_leI, nI_eq, Nat.not_lt, Nat.not_le] at c14
      try simp only [unl_0, unl_1, unl_2, unl_3, unl_4, unl_5, unl_6, unl_7, unl_8, unl_9, unl_10, unl_11, unl_12, unl_23, unl_24, unl_30, unl_31, unl_32, unl_39, unl_40, unl_41, unl_46, unl_47, unl_48, unl_96, unl_99, unl_100, unl_255, unl_999, unl_1000, unl_2024, unl_32767, unl_1000000] at c14
      refine mv_aload_n C rfl rfl ?_
      refine mv_getJ C rfl rfl rfl hn ?_
      refine mv_bipush C rfl ?_
      refine mv_icmp_ne C rfl (fun c23 => ?_) (fun c23 => ?_)
      · try simp only [b01, b10, Classical.not_not] at c23
        try simp (disch := omega) only [lit_0, lit_1, lit_2, lit_3, lit_4, lit_5, lit_6, lit_7, lit_8, lit_9, lit_10, lit_11, lit_12, lit_23, lit_24, lit_30, lit_31, lit_32, lit_39, lit_40, lit_41, lit_46, lit_47, lit_48, lit_96, lit_99, lit_100, lit_255, lit_999, lit_1000, lit_2024, lit_32767, lit_1000000, nI_ltI, nI_leI, nI_eq, Nat.not_lt, Nat.not_le] at c23
        try simp only [unl_0, unl_1, unl_2, unl_3, unl_4, unl_5, unl_6, unl_7, unl_8, unl_9, unl_10, unl_11, unl_12, unl_23, unl_24, unl_30, unl_31, unl_32, unl_39, unl_40, unl_41, unl_46, unl_47, unl_48, unl_96, unl_99, unl_100, unl_255, unl_999, unl_1000, unl_2024, unl_32767, unl_1000000] at c23
        refine mv_aload_n C rfl rfl ?_
        refine mv_getR C rfl rfl rfl ?_
        refine mv_aload_n C rfl rfl ?_
        refine mv_getJ C rfl rfl rfl hn ?_
        refine mv_iload_n C rfl rfl ?_
        refine mv_ast C rfl rfl rfl (by omega) ?_
        refine mv_aload_n C rfl rfl ?_
        refine mv_dup C rfl rfl ?_
        refine mv_getJ C rfl rfl rfl hn ?_
        refine mv_iconst C rfl ?_
        refine mv_iadd C rfl ?_
        refine mv_top (nI_1 _) ?_
        refine mv_putI C rfl rfl rfl rfl ?_
        refine mv_aload_n C rfl rfl ?_
        refine mv_getJ C rfl rfl rfl (show _ = nI (u 0 0 + 1) from rfl) ?_
        refine mv_iconst C rfl ?_
        refine mv_isub C rfl ?_
        refine mv_top (nI_pred _) ?_
        refine mv_ireturn C rfl mv_okI ?_ ?_
        all_goals (clear C; grind)
      · try simp only [b01, b10, Classical.not_not] at c23
        try simp (disch := omega) only [lit_0, lit_1, lit_2, lit_3, lit_4, lit_5, lit_6, lit_7, lit_8, lit_9, lit_10, lit_11, lit_12, lit_23, lit_24, lit_30, lit_31, lit_32, lit_39, lit_40, lit_41, lit_46, lit_47, lit_48, lit_96, lit_99, lit_100, lit_255, lit_999, lit_1000, lit_2024, lit_32767, lit_1000000, nI_ltI, nI_leI, nI_eq, Nat.not_lt, Nat.not_le] at c23
        try simp only [unl_0, unl_1, unl_2, unl_3, unl_4, unl_5, unl_6, unl_7, unl_8, unl_9, unl_10, unl_11, unl_12, unl_23, unl_24, unl_30, unl_31, unl_32, unl_39, unl_40, unl_41, unl_46, unl_47, unl_48, unl_96, unl_99, unl_100, unl_255, unl_999, unl_1000, unl_2024, unl_32767, unl_1000000] at c23
        refine mv_iconst C rfl ?_
        refine mv_ireturn C rfl mv_okI ?_ ?_
        all_goals (clear C; grind)
  refine ⟨_, mv_up R rfl, ?_, ?_⟩
  · unfold o_parish
    have h0 := rM_free h 68 0 0 (Or.inr ⟨rfl, by decide⟩)
    by_cases hc : (0 ≤ c ∧ c < 6) ∧ u 0 0 < 24
    · rw [if_pos hc, if_pos hc]
      have e := nI_nn hc.1.1
      rw [e, nI_clamp (by have := nI_rngc hc.1.1 (show c < nI 6 from hc.1.2) (by decide); omega)]
      exact rM_sc (rM_arr h0 69 1 _ _ (by decide)) 1 0 _ (by decide)
    · rw [if_neg hc, if_neg hc]; exact h0
  · by_cases hc : (0 ≤ c ∧ c < 6) ∧ u 0 0 < 24
    · rw [if_pos hc]; exact fM_u (fM_u (fM_u fM_rf (by decide)) (by decide)) (by decide)
    · rw [if_neg hc]; exact fM_u fM_rf (by decide)
end

