section
def dig (A B k : Nat) : Nat := (if k < 3 then A else B) / 2 ^ (10 - 5 * (k % 3)) % 32
theorem dig_sum {A B : Nat} (hA : A < 32768) (hB : B < 32768) : dig A B 0 * 33554432 + dig A B 1 * 1048576 + dig A B 2 * 32768 + dig A B 3 * 1024 + dig A B 4 * 32 + dig A B 5 = 32768 * A + B := by
  simp only [dig]
  simp only [Nat.reduceLT, if_true, if_false, Nat.reduceMod, Nat.reduceMul, Nat.reduceSub, Nat.reducePow]
  omega
def h18 (u : hM) (n A B : Nat) : hM := fun k i => if k = 18 then (if 6 * n ≤ i ∧ i < 6 * n + 6 then dig A B (i - 6 * n) else u 18 i) else u k i
theorem h18_key {u : hM} {n A B k : Nat} (h : k ≠ 18) : h18 u n A B k = u k := by funext i; simp [h18, h]
theorem rX_look {u : hM} {z : mv_Z} (h : rX u z) (n A B : Nat) (hA : A < 32768) (hB : B < 32768) : rX (h18 u n A B) (mv_u z 26 n (nI (32768 * A + B))) := by
  obtain ⟨h1, h2, h3, h4, h5, h6, h7, h8⟩ := h
  unfold rX
  rw [h18_key (k := 7) (by decide), h18_key (k := 8) (by decide), h18_key (k := 14) (by decide), h18_key (k := 21) (by decide), h18_key (k := 22) (by decide), h18_key (k := 23) (by decide), h18_key (k := 24) (by decide), h18_key (k := 25) (by decide), h18_key (k := 26) (by decide), h18_key (k := 27) (by decide), h18_key (k := 28) (by decide), h18_key (k := 30) (by decide), h18_key (k := 31) (by decide), h18_key (k := 1) (by decide)]
  rw [mv_u_ne (q := 3) (by decide), mv_u_ne (q := 23) (by decide), mv_u_ne (q := 31) (by decide), mv_u_ne (q := 67) (by decide)]
  refine ⟨rT_keys (rT_out h1 26 n _ (by decide) (fun q hq hh => (show ∀ q ∈ sX, q.1 ≠ 26 by decide) q hq hh.1)) ?_ ?_, h2, h3, h4, fun p hp => ?_, fun a ha => ?_, h7, h8⟩
  · exact fun q hq => h18_key ((tX_keys q hq).2.2.2.1)
  · have : ∀ q ∈ sX, q.2.2 ≠ 18 := by decide
    exact fun q hq => by rw [h18_key (this q hq)]
  · by_cases e : p = n
    · subst e
      rw [mv_u_eq]
      have g : ∀ k, k < 6 → h18 u p A B 18 (6 * p + k) = dig A B k := by
        intro k hk
        simp only [h18, if_true]
        rw [if_pos (by omega)]
        congr 1; omega
      rw [show 6 * p = 6 * p + 0 by omega, g 0 (by omega), g 1 (by omega), g 2 (by omega), g 3 (by omega), g 4 (by omega), g 5 (by omega), dig_sum hA hB]
    · rw [mv_u_at e]
      have g : ∀ k, k < 6 → h18 u n A B 18 (6 * p + k) = u 18 (6 * p + k) := by
        intro k hk
        simp only [h18, if_true]
        rw [if_neg (by omega)]
      have := h5 p hp
      rw [show 6 * p = 6 * p + 0 by omega] at this ⊢
      rw [g 0 (by omega), g 1 (by omega), g 2 (by omega), g 3 (by omega), g 4 (by omega), g 5 (by omega)]
      exact this
  · rw [mv_u_ne (q := 34 + 4 * a) (by omega), mv_u_ne (q := 35 + 4 * a) (by omega), mv_u_ne (q := 36 + 4 * a) (by omega), mv_u_ne (q := 37 + 4 * a) (by omega)]
    exact h6 a ha
def a_person (u : hM) (p a b : Int32) : Int32 := if (0 ≤ p ∧ p < nI (u 0 0)) ∧ (0 ≤ a ∧ a ≤ 32767) ∧ (0 ≤ b ∧ b ≤ 32767) ∧ u 16 0 < 30 then nI (u 16 0) else -1
def o_person (u : hM) (p a b : Int32) : hM := if (0 ≤ p ∧ p < nI (u 0 0)) ∧ (0 ≤ a ∧ a ≤ 32767) ∧ (0 ≤ b ∧ b ≤ 32767) ∧ u 16 0 < 30 then hu (h18 (hu u 17 (u 16 0) p.toNatClampNeg) (u 16 0) a.toNatClampNeg b.toNatClampNeg) 16 0 (u 16 0 + 1) else u
theorem le32767 {a : Int32} (h : 0 ≤ a) (h1 : a ≤ 32767) : a.toNatClampNeg < 32768 := cl_le h (show a < nI 32768 by rw [i32_lt, nI_toInt (by decide)]; rw [i32_le, i32_32767] at h1; omega) (by decide)
theorem r_crowdAdd (z : mv_Z) (p a b : Int32) (n : Nat) (hn : z.1 21 3 = nI n) (h30 : n ≤ 30) : mv_Runs 2 36 [.ref 21, .int p, .int a, .int b] (mv_E z) (some (.int (if (0 ≤ a ∧ a ≤ 32767) ∧ (0 ≤ b ∧ b ≤ 32767) ∧ n < 30 then nI n else -1))) (mv_E (if (0 ≤ a ∧ a ≤ 32767) ∧ (0 ≤ b ∧ b ≤ 32767) ∧ n < 30 then mv_u (mv_u (mv_u z 25 n p) 26 n (nI (32768 * a.toNatClampNeg + b.toNatClampNeg))) 21 3 (nI (n + 1)) else z)) := by
  refine mv_start pX3_add (some .int) [some (.ref 21), some (.int p), some (.int a), some (.int b), none] rfl rfl rfl rfl (fun V C => ?_)
  have fin : ∀ x : Int32, x = (if (0 ≤ a ∧ a ≤ 32767) ∧ (0 ≤ b ∧ b ≤ 32767) then 1 else 0) → V 27 [some (.ref 21), some (.int p), some (.int a), some (.int b), none] [.int x] (mv_E z) := by
    intro x hx
    subst hx
    refine mv_is4 C rfl rfl ?_
    refine mv_iload C rfl rfl ?_
    refine mv_if_eq C rfl (fun c31 => ?_) (fun c31 => ?_)
    · try simp only [b01, b10, Classical.not_not] at c31
      try simp (disch := omega) only [lit_0, lit_1, lit_2, lit_3, lit_4, lit_5, lit_6, lit_7, lit_8, lit_9, lit_10, lit_11, lit_12, lit_23, lit_24, lit_30, lit_31, lit_32, lit_39, lit_40, lit_41, lit_46, lit_47, lit_48, lit_96, lit_99, lit_100, lit_255, lit_999, lit_1000, lit_2024, lit_32767, lit_1000000, nI_ltI, nI_leI, nI_eq, Nat.not_lt, Nat.not_le] at c31
      try simp only [unl_0, unl_1, unl_2, unl_3, unl_4, unl_5, unl_6, unl_7, unl_8, unl_9, unl_10, unl_11, unl_12, unl_23, unl_24, unl_30, unl_31, unl_32, unl_39, unl_40, unl_41, unl_46, unl_47, unl_48, unl_96, unl_99, unl_100, unl_255, unl_999, unl_1000, unl_2024, unl_32767, unl_1000000] at c31
      refine mv_iconst C rfl ?_
      refine mv_ireturn C rfl mv_okI ?_ ?_
      all_goals (clear C; grind)
    · try simp only [b01, b10, Classical.not_not] at c31
      try simp (disch := omega) only [lit_0, lit_1, lit_2, lit_3, lit_4, lit_5, lit_6, lit_7, lit_8, lit_9, lit_10, lit_11, lit_12, lit_23, lit_24, lit_30, lit_31, lit_32, lit_39, lit_40, lit_41, lit_46, lit_47, lit_48, lit_96, lit_99, lit_100, lit_255, lit_999, lit_1000, lit_2024, lit_32767, lit_1000000, nI_ltI, nI_leI, nI_eq, Nat.not_lt, Nat.not_le] at c31
      try simp only [unl_0, unl_1, unl_2, unl_3, unl_4, unl_5, unl_6, unl_7, unl_8, unl_9, unl_10, unl_11, unl_12, unl_23, unl_24, unl_30, unl_31, unl_32, unl_39, unl_40, unl_41, unl_46, unl_47, unl_48, unl_96, unl_99, unl_100, unl_255, unl_999, unl_1000, unl_2024, unl_32767, unl_1000000] at c31
      refine mv_aload_n C rfl rfl ?_
      refine mv_getJ C rfl rfl rfl hn ?_
      refine mv_bipush C rfl ?_
      refine mv_icmp_lt C rfl (fun c40 => ?_) (fun c40 => ?_)
      · try simp only [b01, b10, Classical.not_not] at c40
        try simp (disch := omega) only [lit_0, lit_1, lit_2, lit_3, lit_4, lit_5, lit_6, lit_7, lit_8, lit_9, lit_10, lit_11, lit_12, lit_23, lit_24, lit_30, lit_31, lit_32, lit_39, lit_40, lit_41, lit_46, lit_47, lit_48, lit_96, lit_99, lit_100, lit_255, lit_999, lit_1000, lit_2024, lit_32767, lit_1000000, nI_ltI, nI_leI, nI_eq, Nat.not_lt, Nat.not_le] at c40
        try simp only [unl_0, unl_1, unl_2, unl_3, unl_4, unl_5, unl_6, unl_7, unl_8, unl_9, unl_10, unl_11, unl_12, unl_23, unl_24, unl_30, unl_31, unl_32, unl_39, unl_40, unl_41, unl_46, unl_47, unl_48, unl_96, unl_99, unl_100, unl_255, unl_999, unl_1000, unl_2024, unl_32767, unl_1000000] at c40
        refine mv_aload_n C rfl rfl ?_
        refine mv_getR C rfl rfl rfl ?_
        refine mv_aload_n C rfl rfl ?_
        refine mv_getJ C rfl rfl rfl hn ?_
        refine mv_iload_n C rfl rfl ?_
        refine mv_ast C rfl rfl rfl (by omega) ?_
        refine mv_aload_n C rfl rfl ?_
        refine mv_getR C rfl rfl rfl ?_
        refine mv_aload_n C rfl rfl ?_
        refine mv_getJ C rfl rfl rfl hn ?_
        refine mv_iload_n C rfl rfl ?_
        refine mv_bipush C rfl ?_
        refine mv_ishl C rfl ?_
        refine mv_iload_n C rfl rfl ?_
        refine mv_ior C rfl ?_
        refine mv_top (show _ = nI (32768 * a.toNatClampNeg + b.toNatClampNeg) from ?_) ?_
        · (have ea := nI_nn c31.1.1; have eb := nI_nn c31.2.1; have la := le32767 c31.1.1 c31.1.2; have lb := le32767 c31.2.1 c31.2.2; generalize a.toNatClampNeg = A at *; generalize b.toNatClampNeg = B at *; subst ea; subst eb; rw [nI_shl15 la]; exact fa_or_sum (k := 15) A lb)
        refine mv_ast C rfl rfl rfl (by omega) ?_
        refine mv_aload_n C rfl rfl ?_
        refine mv_dup C rfl rfl ?_
        refine mv_getJ C rfl rfl rfl hn ?_
        refine mv_iconst C rfl ?_
        refine mv_iadd C rfl ?_
        refine mv_top (nI_1 _) ?_
        refine mv_putI C rfl rfl rfl rfl ?_
        refine mv_aload_n C rfl rfl ?_
        refine mv_getJ C rfl rfl rfl (show _ = nI (n + 1) from rfl) ?_
        refine mv_iconst C rfl ?_
        refine mv_isub C rfl ?_
        refine mv_top (nI_pred _) ?_
        refine mv_ireturn C rfl mv_okI ?_ ?_
        all_goals (clear C; grind)
      · try simp only [b01, b10, Classical.not_not] at c40
        try simp (disch := omega) only [lit_0, lit_1, lit_2, lit_3, lit_4, lit_5, lit_6, lit_7, lit_8, lit_9, lit_10, lit_11, lit_12, lit_23, lit_24, lit_30, lit_31, lit_32, lit_39, lit_40, lit_41, lit_46, lit_47, lit_48, lit_96, lit_99, lit_100, lit_255, lit_999, lit_1000, lit_2024, lit_32767, lit_1000000, nI_ltI, nI_leI, nI_eq, Nat.not_lt, Nat.not_le] at c40
        try simp only [unl_0, unl_1, unl_2, unl_3, unl_4, unl_5, unl_6, unl_7, unl_8, unl_9, unl_10, unl_11, unl_12, unl_23, unl_24, unl_30, unl_31, unl_32, unl_39, unl_40, unl_41, unl_46, unl_47, unl_48, unl_96, unl_99, unl_100, unl_255, unl_999, unl_1000, unl_2024, unl_32767, unl_1000000] at c40
        refine mv_iconst C rfl ?_
        refine mv_ireturn C rfl mv_okI ?_ ?_
        all_goals (clear C; grind)
  refine mv_iload_n C rfl rfl ?_
  refine mv_if_lt C rfl (fun c1 => ?_) (fun c1 => ?_)
  · refine mv_iconst C rfl ?_
    refine fin _ ?_
    clear fin
    first | rfl | (rw [if_pos (by clear C; simp only [i32_lt, i32_le, i32_eq, nI_toInt, i32_0, i32_1, i32_2, i32_3, i32_4, i32_5, i32_6, i32_7, i32_8, i32_10, i32_12, i32_23, i32_24, i32_30, i32_31, i32_32, i32_39, i32_40, i32_41, i32_46, i32_47, i32_48, i32_96, i32_99, i32_100, i32_255, i32_999, i32_2024, i32_32767, i32_1000000, i32_m1, i32_m2, i32_m3] at *; omega)]) | (rw [if_neg (by clear C; simp only [i32_lt, i32_le, i32_eq, nI_toInt, i32_0, i32_1, i32_2, i32_3, i32_4, i32_5, i32_6, i32_7, i32_8, i32_10, i32_12, i32_23, i32_24, i32_30, i32_31, i32_32, i32_39, i32_40, i32_41, i32_46, i32_47, i32_48, i32_96, i32_99, i32_100, i32_255, i32_999, i32_2024, i32_32767, i32_1000000, i32_m1, i32_m2, i32_m3] at *; omega)])
  · refine mv_iload_n C rfl rfl ?_
    refine mv_sipush C rfl ?_
    refine mv_icmp_gt C rfl (fun c8 => ?_) (fun c8 => ?_)
    · refine mv_iconst C rfl ?_
      refine fin _ ?_
      clear fin
      first | rfl | (rw [if_pos (by clear C; simp only [i32_lt, i32_le, i32_eq, nI_toInt, i32_0, i32_1, i32_2, i32_3, i32_4, i32_5, i32_6, i32_7, i32_8, i32_10, i32_12, i32_23, i32_24, i32_30, i32_31, i32_32, i32_39, i32_40, i32_41, i32_46, i32_47, i32_48, i32_96, i32_99, i32_100, i32_255, i32_999, i32_2024, i32_32767, i32_1000000, i32_m1, i32_m2, i32_m3] at *; omega)]) | (rw [if_neg (by clear C; simp only [i32_lt, i32_le, i32_eq, nI_toInt, i32_0, i32_1, i32_2, i32_3, i32_4, i32_5, i32_6, i32_7, i32_8, i32_10, i32_12, i32_23, i32_24, i32_30, i32_31, i32_32, i32_39, i32_40, i32_41, i32_46, i32_47, i32_48, i32_96, i32_99, i32_100, i32_255, i32_999, i32_2024, i32_32767, i32_1000000, i32_m1, i32_m2, i32_m3] at *; omega)])
    · refine mv_iload_n C rfl rfl ?_
      refine mv_if_lt C rfl (fun c12 => ?_) (fun c12 => ?_)
      · refine mv_iconst C rfl ?_
        refine fin _ ?_
        clear fin
        first | rfl | (rw [if_pos (by clear C; simp only [i32_lt, i32_le, i32_eq, nI_toInt, i32_0, i32_1, i32_2, i32_3, i32_4, i32_5, i32_6, i32_7, i32_8, i32_10, i32_12, i32_23, i32_24, i32_30, i32_31, i32_32, i32_39, i32_40, i32_41, i32_46, i32_47, i32_48, i32_96, i32_99, i32_100, i32_255, i32_999, i32_2024, i32_32767, i32_1000000, i32_m1, i32_m2, i32_m3] at *; omega)]) | (rw [if_neg (by clear C; simp only [i32_lt, i32_le, i32_eq, nI_toInt, i32_0, i32_1, i32_2, i32_3, i32_4, i32_5, i32_6, i32_7, i32_8, i32_10, i32_12, i32_23, i32_24, i32_30, i32_31, i32_32, i32_39, i32_40, i32_41, i32_46, i32_47, i32_48, i32_96, i32_99, i32_100, i32_255, i32_999, i32_2024, i32_32767, i32_1000000, i32_m1, i32_m2, i32_m3] at *; omega)])
      · refine mv_iload_n C rfl rfl ?_
        refine mv_sipush C rfl ?_
        refine mv_icmp_gt C rfl (fun c19 => ?_) (fun c19 => ?_)
        · refine mv_iconst C rfl ?_
          refine fin _ ?_
          clear fin
          first | rfl | (rw [if_pos (by clear C; simp only [i32_lt, i32_le, i32_eq, nI_toInt, i32_0, i32_1, i32_2, i32_3, i32_4, i32_5, i32_6, i32_7, i32_8, i32_10, i32_12, i32_23, i32_24, i32_30, i32_31, i32_32, i32_39, i32_40, i32_41, i32_46, i32_47, i32_48, i32_96, i32_99, i32_100, i32_255, i32_999, i32_2024, i32_32767, i32_1000000, i32_m1, i32_m2, i32_m3] at *; omega)]) | (rw [if_neg (by clear C; simp only [i32_lt, i32_le, i32_eq, nI_toInt, i32_0, i32_1, i32_2, i32_3, i32_4, i32_5, i32_6, i32_7, i32_8, i32_10, i32_12, i32_23, i32_24, i32_30, i32_31, i32_32, i32_39, i32_40, i32_41, i32_46, i32_47, i32_48, i32_96, i32_99, i32_100, i32_255, i32_999, i32_2024, i32_32767, i32_1000000, i32_m1, i32_m2, i32_m3] at *; omega)])
        · refine mv_iconst C rfl ?_
          refine mv_goto C rfl ?_
          refine fin _ ?_
          clear fin
          first | rfl | (rw [if_pos (by clear C; simp only [i32_lt, i32_le, i32_eq, nI_toInt, i32_0, i32_1, i32_2, i32_3, i32_4, i32_5, i32_6, i32_7, i32_8, i32_10, i32_12, i32_23, i32_24, i32_30, i32_31, i32_32, i32_39, i32_40, i32_41, i32_46, i32_47, i32_48, i32_96, i32_99, i32_100, i32_255, i32_999, i32_2024, i32_32767, i32_1000000, i32_m1, i32_m2, i32_m3] at *; omega)]) | (rw [if_neg (by clear C; simp only [i32_lt, i32_le, i32_eq, nI_toInt, i32_0, i32_1, i32_2, i32_3, i32_4, i32_5, i32_6, i32_7, i32_8, i32_10, i32_12, i32_23, i32_24, i32_30, i32_31, i32_32, i32_39, i32_40, i32_41, i32_46, i32_47, i32_48, i32_96, i32_99, i32_100, i32_255, i32_999, i32_2024, i32_32767, i32_1000000, i32_m1, i32_m2, i32_m3] at *; omega)])
theorem x_person (u : hM) (z : mv_Z) (p a b : Int32) (hi : hI u) (hz : rX u z) : xR 92 [.int p, .int a, .int b] u z (.int (a_person u p a b)) (o_person u p a b) := by
  have hn := rX_s hz 3 6 0 (by decide)
  have hf := rX_s hz 21 3 16 (by decide)
  have h30 : u 16 0 ≤ 30 := hi.2.2.2.2.2.2.2.2.2.2.2.1
  have R0 := r_hasParish z p
  rw [hn] at R0
  have R1 := r_crowdAdd z p a b _ hf h30
  unfold a_person o_person
  by_cases hc : 0 ≤ p ∧ p < nI (u 0 0)
  · rw [if_pos hc] at R0
    refine ⟨_, mv_up (d := 3) (S1 := mv_E (if (0 ≤ a ∧ a ≤ 32767) ∧ (0 ≤ b ∧ b ≤ 32767) ∧ u 16 0 < 30 then mv_u (mv_u (mv_u z 25 (u 16 0) p) 26 (u 16 0) (nI (32768 * a.toNatClampNeg + b.toNatClampNeg))) 21 3 (nI (u 16 0 + 1)) else z)) ?_ rfl, ?_, ?_⟩
    · have e1 : (if (0 ≤ p ∧ p < nI (u 0 0)) ∧ (0 ≤ a ∧ a ≤ 32767) ∧ (0 ≤ b ∧ b ≤ 32767) ∧ u 16 0 < 30 then nI (u 16 0) else -1) = (if (0 ≤ a ∧ a ≤ 32767) ∧ (0 ≤ b ∧ b ≤ 32767) ∧ u 16 0 < 30 then nI (u 16 0) else -1) := by simp only [hc, and_self, true_and]
      rw [e1]
      refine mv_start pX10_person (some .int) [some (.ref 0), some (.int p), some (.int a), some (.int b)] rfl rfl rfl rfl (fun V C => ?_)
      refine mv_aload_n C rfl rfl ?_
      refine mv_getR C rfl rfl rfl ?_
      refine mv_iload_n C rfl rfl ?_
      refine mv_cV C rfl (mv_up R0 rfl) (by decide) rfl rfl rfl (Nat.le_of_ble_eq_true rfl) (Nat.le_refl _) (Nat.le_refl _) rfl ?_
      refine mv_if_eq C rfl (fun c8 => ?_) (fun c8 => ?_)
      · exact absurd c8 (by decide)
      · refine mv_aload_n C rfl rfl ?_
        refine mv_getR C rfl rfl rfl ?_
        refine mv_iload_n C rfl rfl ?_
        refine mv_iload_n C rfl rfl ?_
        refine mv_iload_n C rfl rfl ?_
        refine mv_cV C rfl R1 (by decide) rfl rfl rfl (Nat.le_of_ble_eq_true rfl) (Nat.le_refl _) (Nat.le_refl _) rfl ?_
        refine mv_goto C rfl ?_
        refine mv_ireturn C rfl mv_okI ?_ ?_
        all_goals rfl
    · by_cases h2 : (0 ≤ a ∧ a ≤ 32767) ∧ (0 ≤ b ∧ b ≤ 32767) ∧ u 16 0 < 30
      · rw [if_pos h2, if_pos (show (0 ≤ p ∧ p < nI (u 0 0)) ∧ (0 ≤ a ∧ a ≤ 32767) ∧ (0 ≤ b ∧ b ≤ 32767) ∧ u 16 0 < 30 from ⟨hc, h2⟩)]
        have ep := nI_nn hc.1
        have la := le32767 h2.1.1 h2.1.2
        have lb := le32767 h2.2.1.1 h2.2.1.2
        generalize p.toNatClampNeg = kp at *
        subst ep
        exact rX_sc (rX_look (rX_arr hz 25 17 _ _ (by decide) (by decide)) _ _ _ la lb) 21 3 16 _ (by decide)
      · rw [if_neg h2, if_neg (show ¬ ((0 ≤ p ∧ p < nI (u 0 0)) ∧ (0 ≤ a ∧ a ≤ 32767) ∧ (0 ≤ b ∧ b ≤ 32767) ∧ u 16 0 < 30) from fun q => h2 q.2)]; exact hz
    · split
      · exact fX_u (fX_u (fX_u fX_rf (by decide)) (by decide)) (by decide)
      · exact fX_rf
  · rw [if_neg hc] at R0
    rw [if_neg (fun q => hc q.1), if_neg (fun q => hc q.1)]
    refine ⟨_, mv_up (d := 3) (S1 := mv_E z) ?_ rfl, hz, fX_rf⟩
    refine mv_start pX10_person (some .int) [some (.ref 0), some (.int p), some (.int a), some (.int b)] rfl rfl rfl rfl (fun V C => ?_)
    refine mv_aload_n C rfl rfl ?_
    refine mv_getR C rfl rfl rfl ?_
    refine mv_iload_n C rfl rfl ?_
    refine mv_cV C rfl (mv_up R0 rfl) (by decide) rfl rfl rfl (Nat.le_of_ble_eq_true rfl) (Nat.le_refl _) (Nat.le_refl _) rfl ?_
    refine mv_if_eq C rfl (fun c8 => ?_) (fun c8 => ?_)
    · refine mv_iconst C rfl ?_
      refine mv_ireturn C rfl mv_okI ?_ ?_
      all_goals rfl
    · exact absurd rfl c8
end

