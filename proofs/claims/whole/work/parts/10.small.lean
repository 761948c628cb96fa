section
theorem r_isHour (z : mv_Z) (h : Int32) : mv_Runs 1 106 [.int h] (mv_E z) (some (.int (if 0 ≤ h ∧ h < 48 then 1 else 0))) (mv_E z) := by
  refine mv_start pX10_isHour (some .boolean) [some (.int h)] rfl rfl rfl rfl (fun V C => ?_)
  refine mv_iload_n C rfl rfl ?_
  refine mv_if_lt C rfl (fun c1 => ?_) (fun c1 => ?_)
  · refine mv_iconst C rfl ?_
    refine mv_ireturn C rfl (by first | exact mv_okZ1 | exact mv_okZ0) ?_ ?_
    all_goals first | rfl | (simp only [Option.some.injEq, Value.int.injEq]; first | rfl | (try simp (disch := omega) only [i32_lt, i32_le, i32_eq, nI_toInt, i32_0, i32_1, i32_2, i32_3, i32_4, i32_5, i32_6, i32_7, i32_8, i32_10, i32_12, i32_23, i32_24, i32_30, i32_31, i32_32, i32_39, i32_40, i32_41, i32_46, i32_47, i32_48, i32_96, i32_99, i32_100, i32_255, i32_999, i32_2024, i32_32767, i32_1000000, i32_m1, i32_m2, i32_m3] at *; (repeat' split) <;> first | rfl | (exfalso; omega) | omega))
  · refine mv_iload_n C rfl rfl ?_
    refine mv_bipush C rfl ?_
    refine mv_icmp_ge C rfl (fun c7 => ?_) (fun c7 => ?_)
    · refine mv_iconst C rfl ?_
      refine mv_ireturn C rfl (by first | exact mv_okZ1 | exact mv_okZ0) ?_ ?_
      all_goals first | rfl | (simp only [Option.some.injEq, Value.int.injEq]; first | rfl | (try simp (disch := omega) only [i32_lt, i32_le, i32_eq, nI_toInt, i32_0, i32_1, i32_2, i32_3, i32_4, i32_5, i32_6, i32_7, i32_8, i32_10, i32_12, i32_23, i32_24, i32_30, i32_31, i32_32, i32_39, i32_40, i32_41, i32_46, i32_47, i32_48, i32_96, i32_99, i32_100, i32_255, i32_999, i32_2024, i32_32767, i32_1000000, i32_m1, i32_m2, i32_m3] at *; (repeat' split) <;> first | rfl | (exfalso; omega) | omega))
    · refine mv_iconst C rfl ?_
      refine mv_goto C rfl ?_
      refine mv_ireturn C rfl (by first | exact mv_okZ1 | exact mv_okZ0) ?_ ?_
      all_goals first | rfl | (simp only [Option.some.injEq, Value.int.injEq]; first | rfl | (try simp (disch := omega) only [i32_lt, i32_le, i32_eq, nI_toInt, i32_0, i32_1, i32_2, i32_3, i32_4, i32_5, i32_6, i32_7, i32_8, i32_10, i32_12, i32_23, i32_24, i32_30, i32_31, i32_32, i32_39, i32_40, i32_41, i32_46, i32_47, i32_48, i32_96, i32_99, i32_100, i32_255, i32_999, i32_2024, i32_32767, i32_1000000, i32_m1, i32_m2, i32_m3] at *; (repeat' split) <;> first | rfl | (exfalso; omega) | omega))
theorem r_isCounty (z : mv_Z) (h : Int32) : mv_Runs 1 107 [.int h] (mv_E z) (some (.int (if 0 ≤ h ∧ h < 6 then 1 else 0))) (mv_E z) := by
  refine mv_start pX10_isCounty (some .boolean) [some (.int h)] rfl rfl rfl rfl (fun V C => ?_)
  refine mv_iload_n C rfl rfl ?_
  refine mv_if_lt C rfl (fun c1 => ?_) (fun c1 => ?_)
  · refine mv_iconst C rfl ?_
    refine mv_ireturn C rfl (by first | exact mv_okZ1 | exact mv_okZ0) ?_ ?_
    all_goals first | rfl | (simp only [Option.some.injEq, Value.int.injEq]; first | rfl | (try simp (disch := omega) only [i32_lt, i32_le, i32_eq, nI_toInt, i32_0, i32_1, i32_2, i32_3, i32_4, i32_5, i32_6, i32_7, i32_8, i32_10, i32_12, i32_23, i32_24, i32_30, i32_31, i32_32, i32_39, i32_40, i32_41, i32_46, i32_47, i32_48, i32_96, i32_99, i32_100, i32_255, i32_999, i32_2024, i32_32767, i32_1000000, i32_m1, i32_m2, i32_m3] at *; (repeat' split) <;> first | rfl | (exfalso; omega) | omega))
  · refine mv_iload_n C rfl rfl ?_
    refine mv_bipush C rfl ?_
    refine mv_icmp_ge C rfl (fun c7 => ?_) (fun c7 => ?_)
    · refine mv_iconst C rfl ?_
      refine mv_ireturn C rfl (by first | exact mv_okZ1 | exact mv_okZ0) ?_ ?_
      all_goals first | rfl | (simp only [Option.some.injEq, Value.int.injEq]; first | rfl | (try simp (disch := omega) only [i32_lt, i32_le, i32_eq, nI_toInt, i32_0, i32_1, i32_2, i32_3, i32_4, i32_5, i32_6, i32_7, i32_8, i32_10, i32_12, i32_23, i32_24, i32_30, i32_31, i32_32, i32_39, i32_40, i32_41, i32_46, i32_47, i32_48, i32_96, i32_99, i32_100, i32_255, i32_999, i32_2024, i32_32767, i32_1000000, i32_m1, i32_m2, i32_m3] at *; (repeat' split) <;> first | rfl | (exfalso; omega) | omega))
    · refine mv_iconst C rfl ?_
      refine mv_goto C rfl ?_
      refine mv_ireturn C rfl (by first | exact mv_okZ1 | exact mv_okZ0) ?_ ?_
      all_goals first | rfl | (simp only [Option.some.injEq, Value.int.injEq]; first | rfl | (try simp (disch := omega) only [i32_lt, i32_le, i32_eq, nI_toInt, i32_0, i32_1, i32_2, i32_3, i32_4, i32_5, i32_6, i32_7, i32_8, i32_10, i32_12, i32_23, i32_24, i32_30, i32_31, i32_32, i32_39, i32_40, i32_41, i32_46, i32_47, i32_48, i32_96, i32_99, i32_100, i32_255, i32_999, i32_2024, i32_32767, i32_1000000, i32_m1, i32_m2, i32_m3] at *; (repeat' split) <;> first | rfl | (exfalso; omega) | omega))
theorem r_isNumber (z : mv_Z) (h : Int32) : mv_Runs 1 108 [.int h] (mv_E z) (some (.int (if 0 ≤ h ∧ h ≤ 31 then 1 else 0))) (mv_E z) := by
  refine mv_start pX10_isNumber (some .boolean) [some (.int h)] rfl rfl rfl rfl (fun V C => ?_)
  refine mv_iload_n C rfl rfl ?_
  refine mv_if_lt C rfl (fun c1 => ?_) (fun c1 => ?_)
  · refine mv_iconst C rfl ?_
    refine mv_ireturn C rfl (by first | exact mv_okZ1 | exact mv_okZ0) ?_ ?_
    all_goals first | rfl | (simp only [Option.some.injEq, Value.int.injEq]; first | rfl | (try simp (disch := omega) only [i32_lt, i32_le, i32_eq, nI_toInt, i32_0, i32_1, i32_2, i32_3, i32_4, i32_5, i32_6, i32_7, i32_8, i32_10, i32_12, i32_23, i32_24, i32_30, i32_31, i32_32, i32_39, i32_40, i32_41, i32_46, i32_47, i32_48, i32_96, i32_99, i32_100, i32_255, i32_999, i32_2024, i32_32767, i32_1000000, i32_m1, i32_m2, i32_m3] at *; (repeat' split) <;> first | rfl | (exfalso; omega) | omega))
  · refine mv_iload_n C rfl rfl ?_
    refine mv_bipush C rfl ?_
    refine mv_icmp_gt C rfl (fun c7 => ?_) (fun c7 => ?_)
    · refine mv_iconst C rfl ?_
      refine mv_ireturn C rfl (by first | exact mv_okZ1 | exact mv_okZ0) ?_ ?_
      all_goals first | rfl | (simp only [Option.some.injEq, Value.int.injEq]; first | rfl | (try simp (disch := omega) only [i32_lt, i32_le, i32_eq, nI_toInt, i32_0, i32_1, i32_2, i32_3, i32_4, i32_5, i32_6, i32_7, i32_8, i32_10, i32_12, i32_23, i32_24, i32_30, i32_31, i32_32, i32_39, i32_40, i32_41, i32_46, i32_47, i32_48, i32_96, i32_99, i32_100, i32_255, i32_999, i32_2024, i32_32767, i32_1000000, i32_m1, i32_m2, i32_m3] at *; (repeat' split) <;> first | rfl | (exfalso; omega) | omega))
    · refine mv_iconst C rfl ?_
      refine mv_goto C rfl ?_
      refine mv_ireturn C rfl (by first | exact mv_okZ1 | exact mv_okZ0) ?_ ?_
      all_goals first | rfl | (simp only [Option.some.injEq, Value.int.injEq]; first | rfl | (try simp (disch := omega) only [i32_lt, i32_le, i32_eq, nI_toInt, i32_0, i32_1, i32_2, i32_3, i32_4, i32_5, i32_6, i32_7, i32_8, i32_10, i32_12, i32_23, i32_24, i32_30, i32_31, i32_32, i32_39, i32_40, i32_41, i32_46, i32_47, i32_48, i32_96, i32_99, i32_100, i32_255, i32_999, i32_2024, i32_32767, i32_1000000, i32_m1, i32_m2, i32_m3] at *; (repeat' split) <;> first | rfl | (exfalso; omega) | omega))
theorem r_bit (z : mv_Z) (h : Int32) : mv_Runs 1 109 [.int h] (mv_E z) (some (.int (1 <<< (h &&& 31)))) (mv_E z) := by
  refine mv_start pX10_bit (some .int) [some (.int h)] rfl rfl rfl rfl (fun V C => ?_)
  refine mv_iconst C rfl ?_
  refine mv_iload_n C rfl rfl ?_
  refine mv_ishl C rfl ?_
  refine mv_ireturn C rfl mv_okI ?_ ?_
  all_goals first | rfl | (simp only [Option.some.injEq, Value.int.injEq]; first | rfl | (try simp (disch := omega) only [i32_lt, i32_le, i32_eq, nI_toInt, i32_0, i32_1, i32_2, i32_3, i32_4, i32_5, i32_6, i32_7, i32_8, i32_10, i32_12, i32_23, i32_24, i32_30, i32_31, i32_32, i32_39, i32_40, i32_41, i32_46, i32_47, i32_48, i32_96, i32_99, i32_100, i32_255, i32_999, i32_2024, i32_32767, i32_1000000, i32_m1, i32_m2, i32_m3] at *; (repeat' split) <;> first | rfl | (exfalso; omega) | omega))
theorem r_has (z : mv_Z) (x h : Int32) : mv_Runs 1 110 [.int x, .int h] (mv_E z) (some (.int (if (x >>> (h &&& 31)) &&& 1 = 0 then 0 else 1))) (mv_E z) := by
  refine mv_start pX10_has (some .boolean) [some (.int x), some (.int h)] rfl rfl rfl rfl (fun V C => ?_)
  refine mv_iload_n C rfl rfl ?_
  refine mv_iload_n C rfl rfl ?_
  refine mv_ishr C rfl ?_
  refine mv_iconst C rfl ?_
  refine mv_iand C rfl ?_
  refine mv_if_eq C rfl (fun c5 => ?_) (fun c5 => ?_)
  · refine mv_iconst C rfl ?_
    refine mv_ireturn C rfl (by first | exact mv_okZ1 | exact mv_okZ0) ?_ ?_
    all_goals simp_all
  · refine mv_iconst C rfl ?_
    refine mv_goto C rfl ?_
    refine mv_ireturn C rfl (by first | exact mv_okZ1 | exact mv_okZ0) ?_ ?_
    all_goals simp_all
theorem r_hasParish (z : mv_Z) (h : Int32) : mv_Runs 1 47 [.ref 3, .int h] (mv_E z) (some (.int (if 0 ≤ h ∧ h < z.1 3 6 then 1 else 0))) (mv_E z) := by
  refine mv_start pX6_hasParish (some .boolean) [some (.ref 3), some (.int h)] rfl rfl rfl rfl (fun V C => ?_)
  refine mv_iload_n C rfl rfl ?_
  refine mv_if_lt C rfl (fun c1 => ?_) (fun c1 => ?_)
  · refine mv_iconst C rfl ?_
    refine mv_ireturn C rfl (by first | exact mv_okZ1 | exact mv_okZ0) ?_ ?_
    all_goals first | rfl | (simp only [Option.some.injEq, Value.int.injEq]; first | rfl | (try simp (disch := omega) only [i32_lt, i32_le, i32_eq, nI_toInt, i32_0, i32_1, i32_2, i32_3, i32_4, i32_5, i32_6, i32_7, i32_8, i32_10, i32_12, i32_23, i32_24, i32_30, i32_31, i32_32, i32_39, i32_40, i32_41, i32_46, i32_47, i32_48, i32_96, i32_99, i32_100, i32_255, i32_999, i32_2024, i32_32767, i32_1000000, i32_m1, i32_m2, i32_m3] at *; (repeat' split) <;> first | rfl | (exfalso; omega) | omega))
  · refine mv_iload_n C rfl rfl ?_
    refine mv_aload_n C rfl rfl ?_
    refine mv_getI C rfl rfl rfl ?_
    refine mv_icmp_ge C rfl (fun c9 => ?_) (fun c9 => ?_)
    · refine mv_iconst C rfl ?_
      refine mv_ireturn C rfl (by first | exact mv_okZ1 | exact mv_okZ0) ?_ ?_
      all_goals first | rfl | (simp only [Option.some.injEq, Value.int.injEq]; first | rfl | (try simp (disch := omega) only [i32_lt, i32_le, i32_eq, nI_toInt, i32_0, i32_1, i32_2, i32_3, i32_4, i32_5, i32_6, i32_7, i32_8, i32_10, i32_12, i32_23, i32_24, i32_30, i32_31, i32_32, i32_39, i32_40, i32_41, i32_46, i32_47, i32_48, i32_96, i32_99, i32_100, i32_255, i32_999, i32_2024, i32_32767, i32_1000000, i32_m1, i32_m2, i32_m3] at *; (repeat' split) <;> first | rfl | (exfalso; omega) | omega))
    · refine mv_iconst C rfl ?_
      refine mv_goto C rfl ?_
      refine mv_ireturn C rfl (by first | exact mv_okZ1 | exact mv_okZ0) ?_ ?_
      all_goals first | rfl | (simp only [Option.some.injEq, Value.int.injEq]; first | rfl | (try simp (disch := omega) only [i32_lt, i32_le, i32_eq, nI_toInt, i32_0, i32_1, i32_2, i32_3, i32_4, i32_5, i32_6, i32_7, i32_8, i32_10, i32_12, i32_23, i32_24, i32_30, i32_31, i32_32, i32_39, i32_40, i32_41, i32_46, i32_47, i32_48, i32_96, i32_99, i32_100, i32_255, i32_999, i32_2024, i32_32767, i32_1000000, i32_m1, i32_m2, i32_m3] at *; (repeat' split) <;> first | rfl | (exfalso; omega) | omega))
theorem r_hasRoad (z : mv_Z) (h : Int32) : mv_Runs 1 48 [.ref 3, .int h] (mv_E z) (some (.int (if 0 ≤ h ∧ h < z.1 3 7 then 1 else 0))) (mv_E z) := by
  refine mv_start pX6_hasRoad (some .boolean) [some (.ref 3), some (.int h)] rfl rfl rfl rfl (fun V C => ?_)
  refine mv_iload_n C rfl rfl ?_
  refine mv_if_lt C rfl (fun c1 => ?_) (fun c1 => ?_)
  · refine mv_iconst C rfl ?_
    refine mv_ireturn C rfl (by first | exact mv_okZ1 | exact mv_okZ0) ?_ ?_
    all_goals first | rfl | (simp only [Option.some.injEq, Value.int.injEq]; first | rfl | (try simp (disch := omega) only [i32_lt, i32_le, i32_eq, nI_toInt, i32_0, i32_1, i32_2, i32_3, i32_4, i32_5, i32_6, i32_7, i32_8, i32_10, i32_12, i32_23, i32_24, i32_30, i32_31, i32_32, i32_39, i32_40, i32_41, i32_46, i32_47, i32_48, i32_96, i32_99, i32_100, i32_255, i32_999, i32_2024, i32_32767, i32_1000000, i32_m1, i32_m2, i32_m3] at *; (repeat' split) <;> first | rfl | (exfalso; omega) | omega))
  · refine mv_iload_n C rfl rfl ?_
    refine mv_aload_n C rfl rfl ?_
    refine mv_getI C rfl rfl rfl ?_
    refine mv_icmp_ge C rfl (fun c9 => ?_) (fun c9 => ?_)
    · refine mv_iconst C rfl ?_
      refine mv_ireturn C rfl (by first | exact mv_okZ1 | exact mv_okZ0) ?_ ?_
      all_goals first | rfl | (simp only [Option.some.injEq, Value.int.injEq]; first | rfl | (try simp (disch := omega) only [i32_lt, i32_le, i32_eq, nI_toInt, i32_0, i32_1, i32_2, i32_3, i32_4, i32_5, i32_6, i32_7, i32_8, i32_10, i32_12, i32_23, i32_24, i32_30, i32_31, i32_32, i32_39, i32_40, i32_41, i32_46, i32_47, i32_48, i32_96, i32_99, i32_100, i32_255, i32_999, i32_2024, i32_32767, i32_1000000, i32_m1, i32_m2, i32_m3] at *; (repeat' split) <;> first | rfl | (exfalso; omega) | omega))
    · refine mv_iconst C rfl ?_
      refine mv_goto C rfl ?_
      refine mv_ireturn C rfl (by first | exact mv_okZ1 | exact mv_okZ0) ?_ ?_
      all_goals first | rfl | (simp only [Option.some.injEq, Value.int.injEq]; first | rfl | (try simp (disch := omega) only [i32_lt, i32_le, i32_eq, nI_toInt, i32_0, i32_1, i32_2, i32_3, i32_4, i32_5, i32_6, i32_7, i32_8, i32_10, i32_12, i32_23, i32_24, i32_30, i32_31, i32_32, i32_39, i32_40, i32_41, i32_46, i32_47, i32_48, i32_96, i32_99, i32_100, i32_255, i32_999, i32_2024, i32_32767, i32_1000000, i32_m1, i32_m2, i32_m3] at *; (repeat' split) <;> first | rfl | (exfalso; omega) | omega))
theorem r_startBit (z : mv_Z) : mv_Runs 2 52 [.ref 3] (mv_E z) (some (.int (if z.1 3 9 = -1 then 0 else 1 <<< (z.1 3 9 &&& 31)))) (mv_E z) := by
  refine mv_start pX6_startBit (some .int) [some (.ref 3)] rfl rfl rfl rfl (fun V C => ?_)
  refine mv_aload_n C rfl rfl ?_
  refine mv_getI C rfl rfl rfl ?_
  refine mv_iconst C rfl ?_
  refine mv_icmp_ne C rfl (fun c5 => ?_) (fun c5 => ?_)
  · refine mv_aload_n C rfl rfl ?_
    refine mv_getI C rfl rfl rfl ?_
    refine mv_cS C rfl (r_bit _ _) (by decide) rfl (Nat.le_of_ble_eq_true rfl) (Nat.le_refl _) (Nat.le_refl _) rfl ?_
    refine mv_ireturn C rfl mv_okI ?_ ?_
    all_goals first | rfl | simp_all
  · refine mv_iconst C rfl ?_
    refine mv_goto C rfl ?_
    refine mv_ireturn C rfl mv_okI ?_ ?_
    all_goals first | rfl | simp_all
theorem r_otherEnd (z : mv_Z) (r : Nat) (hr : r < 40) (p : Int32) : mv_Runs 1 54 [.ref 3, .int (nI r), .int p] (mv_E z) (some (.int (if z.1 6 r = p then z.1 7 r else z.1 6 r))) (mv_E z) := by
  refine mv_start pX6_otherEnd (some .int) [some (.ref 3), some (.int (nI r)), some (.int p)] rfl rfl rfl rfl (fun V C => ?_)
  refine mv_aload_n C rfl rfl ?_
  refine mv_getR C rfl rfl rfl ?_
  refine mv_iload_n C rfl rfl ?_
  refine mv_ald C rfl rfl rfl (by omega) ?_
  refine mv_iload_n C rfl rfl ?_
  refine mv_icmp_ne C rfl (fun c7 => ?_) (fun c7 => ?_)
  · refine mv_aload_n C rfl rfl ?_
    refine mv_getR C rfl rfl rfl ?_
    refine mv_iload_n C rfl rfl ?_
    refine mv_ald C rfl rfl rfl (by omega) ?_
    refine mv_ireturn C rfl mv_okI ?_ ?_
    all_goals first | rfl | simp_all
  · refine mv_aload_n C rfl rfl ?_
    refine mv_getR C rfl rfl rfl ?_
    refine mv_iload_n C rfl rfl ?_
    refine mv_ald C rfl rfl rfl (by omega) ?_
    refine mv_goto C rfl ?_
    refine mv_ireturn C rfl mv_okI ?_ ?_
    all_goals first | rfl | simp_all
theorem r_canAsk (z : mv_Z) (p h : Int32) : mv_Runs 2 105 [.ref 0, .int p, .int h] (mv_E z) (some (.int (if (0 ≤ p ∧ p < z.1 3 6) ∧ (0 ≤ h ∧ h < 48) ∧ ¬ z.1 3 9 = -1 then 1 else 0))) (mv_E z) := by
  refine mv_start pX10_canAsk (some .boolean) [some (.ref 0), some (.int p), some (.int h)] rfl rfl rfl rfl (fun V C => ?_)
  refine mv_aload_n C rfl rfl ?_
  refine mv_getR C rfl rfl rfl ?_
  refine mv_iload_n C rfl rfl ?_
  refine mv_cV C rfl (r_hasParish _ _) (by decide) rfl rfl rfl (Nat.le_of_ble_eq_true rfl) (Nat.le_refl _) (Nat.le_refl _) rfl ?_
  refine mv_if_eq C rfl (fun c8 => ?_) (fun c8 => ?_)
  · refine mv_iconst C rfl ?_
    refine mv_ireturn C rfl (by first | exact mv_okZ1 | exact mv_okZ0) ?_ ?_
    all_goals first | rfl | grind
  · refine mv_iload_n C rfl rfl ?_
    refine mv_cS C rfl (r_isHour _ _) (by decide) rfl (Nat.le_of_ble_eq_true rfl) (Nat.le_refl _) (Nat.le_refl _) rfl ?_
    refine mv_if_eq C rfl (fun c15 => ?_) (fun c15 => ?_)
    · refine mv_iconst C rfl ?_
      refine mv_ireturn C rfl (by first | exact mv_okZ1 | exact mv_okZ0) ?_ ?_
      all_goals first | rfl | grind
    · refine mv_aload_n C rfl rfl ?_
      refine mv_getR C rfl rfl rfl ?_
      refine mv_getI C rfl rfl rfl ?_
      refine mv_iconst C rfl ?_
      refine mv_icmp_eq C rfl (fun c26 => ?_) (fun c26 => ?_)
      · refine mv_iconst C rfl ?_
        refine mv_ireturn C rfl (by first | exact mv_okZ1 | exact mv_okZ0) ?_ ?_
        all_goals first | rfl | grind
      · refine mv_iconst C rfl ?_
        refine mv_goto C rfl ?_
        refine mv_ireturn C rfl (by first | exact mv_okZ1 | exact mv_okZ0) ?_ ?_
        all_goals first | rfl | grind
end

