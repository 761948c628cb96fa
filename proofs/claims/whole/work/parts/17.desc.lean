section
/-- a whole array anew -/
def mv_w (z : mv_Z) (c : Nat) (f : Nat → Int32) : mv_Z := (va_up z.1 c f, z.2)
theorem mv_w_self {z : mv_Z} {c : Nat} : mv_w z c (z.1 c) = z := by
  unfold mv_w; congr 1; funext k; by_cases h : k = c <;> simp [va_up, h]
theorem mv_w_get {z : mv_Z} {c : Nat} {f : Nat → Int32} : (mv_w z c f).1 c = f := by simp [mv_w, va_up]
theorem mv_w_ne {z : mv_Z} {c q : Nat} {f : Nat → Int32} (h : ¬ q = c) : (mv_w z c f).1 q = z.1 q := by simp [mv_w, va_up, h]
theorem mv_uw {z : mv_Z} {c i : Nat} {f : Nat → Int32} {x : Int32} : mv_u (mv_w z c f) c i x = mv_w z c (upd f i x) := by
  unfold mv_u mv_w
  congr 1
  funext k
  by_cases h : k = c
  · simp [va_up, h]
  · simp [va_up, h]
theorem fX_w {z z1 : mv_Z} (h : fX z z1) {k : Nat} {f : Nat → Int32} (hk : k < 68) : fX z (mv_w z1 k f) := fun q hq => by
  have : ¬ q = k := by omega
  exact ⟨by rw [mv_w_ne this]; exact (h q hq).1, (h q hq).2⟩
theorem fM_w {z z1 : mv_Z} (h : fM z z1) {k : Nat} {f : Nat → Int32} (hk : 68 ≤ k) : fM z (mv_w z1 k f) := fun q hq => by
  have : ¬ q = k := by omega
  exact ⟨by rw [mv_w_ne this]; exact (h q hq).1, (h q hq).2⟩
theorem upd_step {f : Nat → Nat} {g : Nat → Nat} {i : Nat} : upd (fun k => nI (if k < i then g k else f k)) i (nI (g i)) = fun k => nI (if k < i + 1 then g k else f k) := by
  funext k
  by_cases h : k = i
  · subst h; simp [upd]
  · simp only [upd, h, if_false]
    by_cases h1 : k < i
    · rw [if_pos h1, if_pos (by omega)]
    · rw [if_neg h1, if_neg (by omega)]
theorem rT_w {T : List (Nat × Nat)} {Sc : List (Nat × Nat × Nat)} (ok : rOk T Sc = true) {u u1 : hM} {z : mv_Z} (h : rT T Sc u z) {cell key : Nat} (hc : (cell, key) ∈ T) (hk : ∀ k, k ≠ key → u1 k = u k) : rT T Sc u1 (mv_w z cell (fun i => nI (u1 key i))) := by
  simp only [rOk, Bool.and_eq_true, List.all_eq_true] at ok
  refine ⟨fun q hq => ?_, fun q hq => ?_⟩
  · have hk2 := (ok.1 _ hc).1 q hq
    by_cases e : q.1 = cell
    · have e2 : q.2 = key := by simp [e] at hk2; exact hk2.symm
      rw [e, e2, mv_w_get]
    · have e2 : q.2 ≠ key := by
        intro e2
        have e3 : ¬ cell = q.1 := fun e4 => e e4.symm
        simp [e2, e3] at hk2
      rw [hk _ e2, mv_w_ne e]; exact h.1 q hq
  · have hk2 := (ok.1 _ hc).2 q hq
    simp only [Bool.and_eq_true, bne_iff_ne, ne_eq] at hk2
    have e : ¬ q.1 = cell := fun e => hk2.1 e.symm
    have e2 : q.2.2 ≠ key := fun e => hk2.2 e.symm
    rw [hk _ e2, mv_w_ne e]; exact h.2 q hq
theorem rX_w {u u1 : hM} {z : mv_Z} (h : rX u z) (cell key : Nat) (hc : (cell, key) ∈ tX) (hk1 : key ≠ 1) (hk : ∀ k, k ≠ key → u1 k = u k) : rX u1 (mv_w z cell (fun i => nI (u1 key i))) := by
  obtain ⟨h1, h2, h3, h4, h5, h6, h7, h8⟩ := h
  obtain ⟨c1, c2, c3, c4, c5⟩ := tX_cells _ hc
  obtain ⟨k7, k8, k14, k18, k21, k22, k23, k24, k25, k26, k27, k28, k30, k31⟩ := tX_keys _ hc
  dsimp only at c1 c2 c3 c4 c5 k7 k8 k14 k18 k21 k22 k23 k24 k25 k26 k27 k28 k30 k31
  have h10 := rT_w rOkX h1 hc hk
  unfold rX
  rw [hk 7 k7.symm, hk 8 k8.symm, hk 14 k14.symm, hk 18 k18.symm, hk 21 k21.symm, hk 22 k22.symm, hk 23 k23.symm, hk 24 k24.symm, hk 25 k25.symm, hk 26 k26.symm, hk 27 k27.symm, hk 28 k28.symm, hk 30 k30.symm, hk 31 k31.symm, hk 1 hk1.symm]
  rw [mv_w_ne (q := 3) c2.symm, mv_w_ne (q := 23) c3.symm, mv_w_ne (q := 26) c4.symm, mv_w_ne (q := 31) c5.symm, mv_w_ne (q := 67) (by omega)]
  refine ⟨h10, h2, h3, h4, h5, fun a ha => ?_, h7, h8⟩
  rw [mv_w_ne (q := 34 + 4 * a) (by omega), mv_w_ne (q := 35 + 4 * a) (by omega), mv_w_ne (q := 36 + 4 * a) (by omega), mv_w_ne (q := 37 + 4 * a) (by omega)]
  exact h6 a ha
theorem rM_w {u u1 : hM} {z : mv_Z} (h : rM u z) (cell key : Nat) (hc : (cell, key) ∈ tM) (hk : ∀ k, k ≠ key → u1 k = u k) : rM u1 (mv_w z cell (fun i => nI (u1 key i))) := by
  obtain ⟨h1, h3, h4, h6, h8⟩ := h
  obtain ⟨c1, c2, c3, c4, c5, c6, c7, c8⟩ := tM_cells _ hc
  obtain ⟨k8, k14, k21, k22, k23, k24, k25, k26, k30, k31⟩ := tM_keys _ hc
  dsimp only at c1 c2 c3 c4 c5 c6 c7 c8 k8 k14 k21 k22 k23 k24 k25 k26 k30 k31
  have h10 := rT_w rOkM h1 hc hk
  unfold rM
  rw [hk 8 k8.symm, hk 14 k14.symm, hk 21 k21.symm, hk 22 k22.symm, hk 23 k23.symm, hk 24 k24.symm, hk 25 k25.symm, hk 26 k26.symm, hk 30 k30.symm, hk 31 k31.symm]
  rw [mv_w_ne (q := 68) (by omega), mv_w_ne (q := 84) c2.symm, mv_w_ne (q := 89) c3.symm, mv_w_ne (q := 90) c4.symm, mv_w_ne (q := 91) c5.symm, mv_w_ne (q := 92) c6.symm, mv_w_ne (q := 93) c7.symm, mv_w_ne (q := 82) c8.symm]
  exact ⟨h10, h3, h4, h6, h8⟩
-- trait
theorem hst_of {v : Int32} (h : -1 ≤ v) : v = hst (v.toInt + 1).toNat := by
  rw [i32_le, i32_m1] at h
  by_cases h0 : v.toInt = -1
  · rw [h0]; exact Int32.toInt_inj.mp h0
  · obtain ⟨j, hj, rfl⟩ := nI_of (x := v) (by rw [i32_lt, i32_0]; omega)
    rw [nI_toInt hj]
    show nI j = hst ((j : Int) + 1).toNat
    rw [show ((j : Int) + 1).toNat = j + 1 by omega]
    rfl
theorem rX_val {u : hM} {z : mv_Z} (h : rX u z) (k v : Nat) : rX (hu u 14 k v) (mv_u z 23 k (hst v)) := by
  obtain ⟨h1, h2, h3, h4, h5, h6, h7, h8⟩ := h
  unfold rX
  rw [hu_key (k1 := 7) (by decide), hu_key (k1 := 8) (by decide), hu_key (k1 := 18) (by decide), hu_key (k1 := 21) (by decide), hu_key (k1 := 22) (by decide), hu_key (k1 := 23) (by decide), hu_key (k1 := 24) (by decide), hu_key (k1 := 25) (by decide), hu_key (k1 := 26) (by decide), hu_key (k1 := 27) (by decide), hu_key (k1 := 28) (by decide), hu_key (k1 := 30) (by decide), hu_key (k1 := 31) (by decide), hu_key (k1 := 1) (by decide)]
  rw [mv_u_ne (q := 3) (by decide), mv_u_ne (q := 26) (by decide), mv_u_ne (q := 31) (by decide), mv_u_ne (q := 67) (by decide)]
  refine ⟨rT_keys (rT_out h1 23 k _ (by decide) (fun q hq hh => (show ∀ q ∈ sX, q.1 ≠ 23 by decide) q hq hh.1)) ?_ ?_, h2, h3, ?_, h5, fun a ha => ?_, h7, h8⟩
  · exact fun q hq => hu_key ((tX_keys q hq).2.2.1)
  · have : ∀ q ∈ sX, q.2.2 ≠ 14 := by decide
    exact fun q hq => by rw [hu_key (this q hq)]
  · funext j
    by_cases e : j = k
    · subst e; rw [mv_u_eq, hu_self]
    · rw [mv_u_at e, hu_ix e, h4]
  · rw [mv_u_ne (q := 34 + 4 * a) (by omega), mv_u_ne (q := 35 + 4 * a) (by omega), mv_u_ne (q := 36 + 4 * a) (by omega), mv_u_ne (q := 37 + 4 * a) (by omega)]
    exact h6 a ha
theorem rM_val {u : hM} {z : mv_Z} (h : rM u z) (k v : Nat) : rM (hu u 14 k v) (mv_u z 84 k (hst v)) := by
  obtain ⟨h1, h3, h4, h6, h8⟩ := h
  unfold rM
  rw [hu_key (k1 := 8) (by decide), hu_key (k1 := 21) (by decide), hu_key (k1 := 22) (by decide), hu_key (k1 := 23) (by decide), hu_key (k1 := 24) (by decide), hu_key (k1 := 25) (by decide), hu_key (k1 := 26) (by decide), hu_key (k1 := 30) (by decide), hu_key (k1 := 31) (by decide)]
  rw [mv_u_ne (q := 68) (by decide), mv_u_ne (q := 89) (by decide), mv_u_ne (q := 90) (by decide), mv_u_ne (q := 91) (by decide), mv_u_ne (q := 92) (by decide), mv_u_ne (q := 93) (by decide), mv_u_ne (q := 82) (by decide)]
  refine ⟨rT_keys (rT_out h1 84 k _ (by decide) (fun q hq hh => (show ∀ q ∈ sM, q.1 ≠ 84 by decide) q hq hh.1)) ?_ ?_, h3, ?_, h6, h8⟩
  · exact fun q hq => hu_key ((tM_keys q hq).2.1)
  · have : ∀ q ∈ sM, q.2.2 ≠ 14 := by decide
    exact fun q hq => by rw [hu_key (this q hq)]
  · funext j
    by_cases e : j = k
    · subst e; rw [mv_u_eq, hu_self]
    · rw [mv_u_at e, hu_ix e, h4]
def c_trait (t v b : Int32) : Bool := decide (0 ≤ t ∧ t < 6) && decide (-1 ≤ v ∧ v ≤ 31) && decide (0 ≤ b ∧ b ≤ 31)
def a_trait (t v b : Int32) : Int32 := bif c_trait t v b then 1 else 0
def o_trait (u : hM) (t v b : Int32) : hM := bif c_trait t v b then hu (hu u 14 t.toNatClampNeg (v.toInt + 1).toNat) 15 t.toNatClampNeg b.toNatClampNeg else u
theorem r_set (z : mv_Z) (t v b : Int32) : mv_Runs 2 40 [.ref 22, .int t, .int v, .int b] (mv_E z) (some (.int (a_trait t v b))) (mv_E (bif c_trait t v b then mv_u (mv_u z 23 t.toNatClampNeg v) 24 t.toNatClampNeg b else z)) := by
  refine mv_start pX4_set (some .boolean) [some (.ref 22), some (.int t), some (.int v), some (.int b), none, none] rfl rfl rfl rfl (fun V C => ?_)
  have f2 : ∀ x5 : Int32, x5 = (if -1 ≤ v ∧ v ≤ 31 then 1 else 0) → V 34 [some (.ref 22), some (.int t), some (.int v), some (.int b), some (.int (if 0 ≤ t ∧ t < 6 then 1 else 0)), none] [.int x5] (mv_E z) := by
    intro x5 h5
    refine mv_is5 C rfl rfl ?_
    refine mv_iload C rfl rfl ?_
    refine mv_if_eq C rfl (fun c38 => ?_) (fun c38 => ?_)
    · have hT := b01.mp c38
      have hc : c_trait t v b = false := by simp only [c_trait, decide_eq_false hT, Bool.false_and]
      rw [hc] at C
      refine mv_iconst C rfl ?_
      refine mv_ireturn C rfl (by first | exact mv_okZ1 | exact mv_okZ0) ?_ ?_
      all_goals (first | rfl | (unfold a_trait; rw [hc]; rfl) | (rw [hc]; rfl))
    · have hT := b10.mp c38
      refine mv_iload C rfl rfl ?_
      refine mv_if_eq C rfl (fun c43 => ?_) (fun c43 => ?_)
      · rw [h5] at c43
        have hv := b01.mp c43
        have hc : c_trait t v b = false := by simp only [c_trait, decide_eq_false hv, Bool.false_and, Bool.and_false]
        rw [hc] at C
        refine mv_iconst C rfl ?_
        refine mv_ireturn C rfl (by first | exact mv_okZ1 | exact mv_okZ0) ?_ ?_
        all_goals (first | rfl | (unfold a_trait; rw [hc]; rfl) | (rw [hc]; rfl))
      · rw [h5] at c43
        have hv := b10.mp c43
        refine mv_iload_n C rfl rfl ?_
        refine mv_cS C rfl (r_isNumber _ _) (by decide) rfl (Nat.le_of_ble_eq_true rfl) (Nat.le_refl _) (Nat.le_refl _) rfl ?_
        refine mv_if_ne C rfl (fun c50 => ?_) (fun c50 => ?_)
        · have hb := b10.mp c50
          have hc : c_trait t v b = true := by simp only [c_trait, decide_eq_true hT, decide_eq_true hv, decide_eq_true hb, Bool.and_self]
          rw [hc] at C
          refine mv_aload_n C rfl rfl ?_
          refine mv_getR C rfl rfl rfl ?_
          refine mv_iload_n C rfl rfl ?_
          refine mv_iload_n C rfl rfl ?_
          refine mv_ast C rfl rfl (nI_nn hT.1) (cl_le hT.1 (show t < nI 6 from hT.2) (by decide)) ?_
          refine mv_aload_n C rfl rfl ?_
          refine mv_getR C rfl rfl rfl ?_
          refine mv_iload_n C rfl rfl ?_
          refine mv_iload_n C rfl rfl ?_
          refine mv_ast C rfl rfl (nI_nn hT.1) (cl_le hT.1 (show t < nI 6 from hT.2) (by decide)) ?_
          refine mv_iconst C rfl ?_
          refine mv_ireturn C rfl (by first | exact mv_okZ1 | exact mv_okZ0) ?_ ?_
          all_goals (first | rfl | (unfold a_trait; rw [hc]; rfl) | (rw [hc]; rfl))
        · have hb := b01.mp c50
          have hc : c_trait t v b = false := by simp only [c_trait, decide_eq_false hb, Bool.and_false]
          rw [hc] at C
          refine mv_iconst C rfl ?_
          refine mv_ireturn C rfl (by first | exact mv_okZ1 | exact mv_okZ0) ?_ ?_
          all_goals (first | rfl | (unfold a_trait; rw [hc]; rfl) | (rw [hc]; rfl))
  have f1 : ∀ x4 : Int32, x4 = (if 0 ≤ t ∧ t < 6 then 1 else 0) → V 15 [some (.ref 22), some (.int t), some (.int v), some (.int b), none, none] [.int x4] (mv_E z) := by
    intro x4 h4
    subst h4
    refine mv_is4 C rfl rfl ?_
    refine mv_iload_n C rfl rfl ?_
    refine mv_iconst C rfl ?_
    refine mv_icmp_eq C rfl (fun c19 => ?_) (fun c19 => ?_)
    · try simp only [b01, b10] at c19
      refine mv_iconst C rfl ?_
      refine mv_goto C rfl ?_
      refine f2 _ ?_
      clear f2
      first | rfl | (rw [if_pos (by clear C; simp only [i32_lt, i32_le, i32_eq, nI_toInt, i32_0, i32_1, i32_2, i32_3, i32_4, i32_5, i32_6, i32_7, i32_8, i32_10, i32_12, i32_23, i32_24, i32_30, i32_31, i32_32, i32_39, i32_40, i32_41, i32_46, i32_47, i32_48, i32_96, i32_99, i32_100, i32_255, i32_999, i32_2024, i32_32767, i32_1000000, i32_m1, i32_m2, i32_m3] at *; omega)]) | (rw [if_neg (by clear C; simp only [i32_lt, i32_le, i32_eq, nI_toInt, i32_0, i32_1, i32_2, i32_3, i32_4, i32_5, i32_6, i32_7, i32_8, i32_10, i32_12, i32_23, i32_24, i32_30, i32_31, i32_32, i32_39, i32_40, i32_41, i32_46, i32_47, i32_48, i32_96, i32_99, i32_100, i32_255, i32_999, i32_2024, i32_32767, i32_1000000, i32_m1, i32_m2, i32_m3] at *; omega)])
    · try simp only [b01, b10] at c19
      refine mv_iload_n C rfl rfl ?_
      refine mv_cS C rfl (r_isNumber _ _) (by decide) rfl (Nat.le_of_ble_eq_true rfl) (Nat.le_refl _) (Nat.le_refl _) rfl ?_
      refine mv_if_eq C rfl (fun c26 => ?_) (fun c26 => ?_)
      · try simp only [b01, b10] at c26
        refine mv_iconst C rfl ?_
        refine f2 _ ?_
        clear f2
        first | rfl | (rw [if_pos (by clear C; simp only [i32_lt, i32_le, i32_eq, nI_toInt, i32_0, i32_1, i32_2, i32_3, i32_4, i32_5, i32_6, i32_7, i32_8, i32_10, i32_12, i32_23, i32_24, i32_30, i32_31, i32_32, i32_39, i32_40, i32_41, i32_46, i32_47, i32_48, i32_96, i32_99, i32_100, i32_255, i32_999, i32_2024, i32_32767, i32_1000000, i32_m1, i32_m2, i32_m3] at *; omega)]) | (rw [if_neg (by clear C; simp only [i32_lt, i32_le, i32_eq, nI_toInt, i32_0, i32_1, i32_2, i32_3, i32_4, i32_5, i32_6, i32_7, i32_8, i32_10, i32_12, i32_23, i32_24, i32_30, i32_31, i32_32, i32_39, i32_40, i32_41, i32_46, i32_47, i32_48, i32_96, i32_99, i32_100, i32_255, i32_999, i32_2024, i32_32767, i32_1000000, i32_m1, i32_m2, i32_m3] at *; omega)])
      · try simp only [b01, b10] at c26
        refine mv_iconst C rfl ?_
        refine mv_goto C rfl ?_
        refine f2 _ ?_
        clear f2
        first | rfl | (rw [if_pos (by clear C; simp only [i32_lt, i32_le, i32_eq, nI_toInt, i32_0, i32_1, i32_2, i32_3, i32_4, i32_5, i32_6, i32_7, i32_8, i32_10, i32_12, i32_23, i32_24, i32_30, i32_31, i32_32, i32_39, i32_40, i32_41, i32_46, i32_47, i32_48, i32_96, i32_99, i32_100, i32_255, i32_999, i32_2024, i32_32767, i32_1000000, i32_m1, i32_m2, i32_m3] at *; omega)]) | (rw [if_neg (by clear C; simp only [i32_lt, i32_le, i32_eq, nI_toInt, i32_0, i32_1, i32_2, i32_3, i32_4, i32_5, i32_6, i32_7, i32_8, i32_10, i32_12, i32_23, i32_24, i32_30, i32_31, i32_32, i32_39, i32_40, i32_41, i32_46, i32_47, i32_48, i32_96, i32_99, i32_100, i32_255, i32_999, i32_2024, i32_32767, i32_1000000, i32_m1, i32_m2, i32_m3] at *; omega)])
  refine mv_iload_n C rfl rfl ?_
  refine mv_if_lt C rfl (fun c1 => ?_) (fun c1 => ?_)
  · refine mv_iconst C rfl ?_
    refine f1 _ ?_
    clear f1 f2
    first | rfl | (rw [if_pos (by clear C; simp only [i32_lt, i32_le, i32_eq, nI_toInt, i32_0, i32_1, i32_2, i32_3, i32_4, i32_5, i32_6, i32_7, i32_8, i32_10, i32_12, i32_23, i32_24, i32_30, i32_31, i32_32, i32_39, i32_40, i32_41, i32_46, i32_47, i32_48, i32_96, i32_99, i32_100, i32_255, i32_999, i32_2024, i32_32767, i32_1000000, i32_m1, i32_m2, i32_m3] at *; omega)]) | (rw [if_neg (by clear C; simp only [i32_lt, i32_le, i32_eq, nI_toInt, i32_0, i32_1, i32_2, i32_3, i32_4, i32_5, i32_6, i32_7, i32_8, i32_10, i32_12, i32_23, i32_24, i32_30, i32_31, i32_32, i32_39, i32_40, i32_41, i32_46, i32_47, i32_48, i32_96, i32_99, i32_100, i32_255, i32_999, i32_2024, i32_32767, i32_1000000, i32_m1, i32_m2, i32_m3] at *; omega)])
  · refine mv_iload_n C rfl rfl ?_
    refine mv_bipush C rfl ?_
    refine mv_icmp_ge C rfl (fun c7 => ?_) (fun c7 => ?_)
    · refine mv_iconst C rfl ?_
      refine f1 _ ?_
      clear f1 f2
      first | rfl | (rw [if_pos (by clear C; simp only [i32_lt, i32_le, i32_eq, nI_toInt, i32_0, i32_1, i32_2, i32_3, i32_4, i32_5, i32_6, i32_7, i32_8, i32_10, i32_12, i32_23, i32_24, i32_30, i32_31, i32_32, i32_39, i32_40, i32_41, i32_46, i32_47, i32_48, i32_96, i32_99, i32_100, i32_255, i32_999, i32_2024, i32_32767, i32_1000000, i32_m1, i32_m2, i32_m3] at *; omega)]) | (rw [if_neg (by clear C; simp only [i32_lt, i32_le, i32_eq, nI_toInt, i32_0, i32_1, i32_2, i32_3, i32_4, i32_5, i32_6, i32_7, i32_8, i32_10, i32_12, i32_23, i32_24, i32_30, i32_31, i32_32, i32_39, i32_40, i32_41, i32_46, i32_47, i32_48, i32_96, i32_99, i32_100, i32_255, i32_999, i32_2024, i32_32767, i32_1000000, i32_m1, i32_m2, i32_m3] at *; omega)])
    · refine mv_iconst C rfl ?_
      refine mv_goto C rfl ?_
      refine f1 _ ?_
      clear f1 f2
      first | rfl | (rw [if_pos (by clear C; simp only [i32_lt, i32_le, i32_eq, nI_toInt, i32_0, i32_1, i32_2, i32_3, i32_4, i32_5, i32_6, i32_7, i32_8, i32_10, i32_12, i32_23, i32_24, i32_30, i32_31, i32_32, i32_39, i32_40, i32_41, i32_46, i32_47, i32_48, i32_96, i32_99, i32_100, i32_255, i32_999, i32_2024, i32_32767, i32_1000000, i32_m1, i32_m2, i32_m3] at *; omega)]) | (rw [if_neg (by clear C; simp only [i32_lt, i32_le, i32_eq, nI_toInt, i32_0, i32_1, i32_2, i32_3, i32_4, i32_5, i32_6, i32_7, i32_8, i32_10, i32_12, i32_23, i32_24, i32_30, i32_31, i32_32, i32_39, i32_40, i32_41, i32_46, i32_47, i32_48, i32_96, i32_99, i32_100, i32_255, i32_999, i32_2024, i32_32767, i32_1000000, i32_m1, i32_m2, i32_m3] at *; omega)])
end

