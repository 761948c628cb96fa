section
theorem x_trait (u : hM) (z : mv_Z) (t v b : Int32) (hi : hI u) (hz : rX u z) : xR 90 [.int t, .int v, .int b] u z (.int (a_trait t v b)) (o_trait u t v b) := by
  have hA : a_trait t v b = 0 ∨ a_trait t v b = 1 := by unfold a_trait; cases c_trait t v b <;> simp
  refine ⟨_, mv_up (d := 3) (S1 := mv_E (bif c_trait t v b then mv_u (mv_u z 23 t.toNatClampNeg v) 24 t.toNatClampNeg b else z)) ?_ rfl, ?_, ?_⟩
  · refine mv_start pX10_trait (some .boolean) [some (.ref 0), some (.int t), some (.int v), some (.int b)] rfl rfl rfl rfl (fun V C => ?_)
    refine mv_aload_n C rfl rfl ?_
    refine mv_getR C rfl rfl rfl ?_
    refine mv_getR C rfl rfl rfl ?_
    refine mv_iload_n C rfl rfl ?_
    refine mv_iload_n C rfl rfl ?_
    refine mv_iload_n C rfl rfl ?_
    refine mv_cV C rfl (r_set _ _ _ _) (by decide) rfl rfl rfl (Nat.le_of_ble_eq_true rfl) (Nat.le_refl _) (Nat.le_refl _) rfl ?_
    refine mv_ireturn C rfl (mv_okZ hA) ?_ ?_
    all_goals rfl
  · unfold o_trait
    cases hc : c_trait t v b with
    | false => exact hz
    | true =>
      simp only [c_trait, Bool.and_eq_true, decide_eq_true_eq] at hc
      obtain ⟨⟨ht, hv⟩, hb⟩ := hc
      have ev := hst_of hv.1
      have eb := nI_nn hb.1
      generalize t.toNatClampNeg = k at *
      generalize (v.toInt + 1).toNat = v1 at *
      generalize b.toNatClampNeg = b1 at *
      subst ev; subst eb
      exact rX_arr (rX_val hz k v1) 24 15 k b1 (by decide) (by decide)
  · cases c_trait t v b with
    | false => exact fX_rf
    | true => exact fX_u (fX_u fX_rf (by decide)) (by decide)
theorem m_trait (u : hM) (z : mv_Z) (t v b : Int32) (hi : hI u) (hz : rM u z) : mR 148 [.int t, .int v, .int b] u z (.int (a_trait t v b)) (o_trait u t v b) := by
  have h0 := rM_free hz 68 0 0 (Or.inr ⟨rfl, by decide⟩)
  refine ⟨_, mv_up (d := 3) (S1 := mv_E (bif c_trait t v b then mv_u (mv_u (mv_u z 68 0 0) 84 t.toNatClampNeg v) 85 t.toNatClampNeg b else mv_u z 68 0 0)) ?_ rfl, ?_, ?_⟩
  · refine mv_start pX11_trait (some .boolean) [some (.ref 68), some (.int t), some (.int v), some (.int b)] rfl rfl rfl rfl (fun V C => ?_)
    refine mv_aload_n C rfl rfl ?_
    refine mv_iconst C rfl ?_
    refine mv_putI C rfl rfl rfl rfl ?_
    refine mv_iload_n C rfl rfl ?_
    refine mv_i2l C rfl ?_
    refine mv_lconst C rfl ?_
    refine mv_ldc2_w C rfl ?_
    refine mv_cS C rfl (mv_up (r_inI _ _ _ _ (0 ≤ t ∧ t < 6) (by rw [i32_le, i32_lt, i32_0, i32_6, l64_0, l64_5]; omega)) rfl) (by decide) rfl (Nat.le_of_ble_eq_true rfl) (Nat.le_refl _) (Nat.le_refl _) rfl ?_
    refine mv_if_eq C rfl (fun c14 => ?_) (fun c14 => ?_)
    · have hT := b01.mp c14
      have hc : c_trait t v b = false := by simp only [c_trait, decide_eq_false hT, Bool.false_and]
      rw [hc] at C
      refine mv_iconst C rfl ?_
      refine mv_ireturn C rfl (by first | exact mv_okZ1 | exact mv_okZ0) ?_ ?_
      all_goals (first | rfl | (unfold a_trait; rw [hc]; rfl) | (rw [hc]; rfl))
    · have hT := b10.mp c14
      refine mv_iload_n C rfl rfl ?_
      refine mv_i2l C rfl ?_
      refine mv_ldc2_w C rfl ?_
      refine mv_ldc2_w C rfl ?_
      refine mv_cS C rfl (mv_up (r_inI _ _ _ _ (-1 ≤ v ∧ v ≤ 31) (by rw [i32_le, i32_le, i32_m1, i32_31, l64_m1, l64_31])) rfl) (by decide) rfl (Nat.le_of_ble_eq_true rfl) (Nat.le_refl _) (Nat.le_refl _) rfl ?_
      refine mv_if_eq C rfl (fun c28 => ?_) (fun c28 => ?_)
      · have hv := b01.mp c28
        have hc : c_trait t v b = false := by simp only [c_trait, decide_eq_false hv, Bool.false_and, Bool.and_false]
        rw [hc] at C
        refine mv_iconst C rfl ?_
        refine mv_ireturn C rfl (by first | exact mv_okZ1 | exact mv_okZ0) ?_ ?_
        all_goals (first | rfl | (unfold a_trait; rw [hc]; rfl) | (rw [hc]; rfl))
      · have hv := b10.mp c28
        refine mv_iload_n C rfl rfl ?_
        refine mv_i2l C rfl ?_
        refine mv_lconst C rfl ?_
        refine mv_ldc2_w C rfl ?_
        refine mv_cS C rfl (mv_up (r_inI _ _ _ _ (0 ≤ b ∧ b ≤ 31) (by rw [i32_le, i32_le, i32_0, i32_31, l64_0, l64_31])) rfl) (by decide) rfl (Nat.le_of_ble_eq_true rfl) (Nat.le_refl _) (Nat.le_refl _) rfl ?_
        refine mv_if_ne C rfl (fun c40 => ?_) (fun c40 => ?_)
        · have hb := b10.mp c40
          have hc : c_trait t v b = true := by simp only [c_trait, decide_eq_true hT, decide_eq_true hv, decide_eq_true hb, Bool.and_self]
          rw [hc] at C
          refine mv_aload_n C rfl rfl ?_
          refine mv_getR C rfl rfl rfl ?_
          refine mv_iload_n C rfl rfl ?_
          refine mv_iload_n C rfl rfl ?_
          refine mv_ast C rfl rfl (nI_nn hT.1) (cl_le hT.1 (show t < nI 6 from hT.2) (by decide)) ?_
          refine mv_aload_n C rfl rfl ?_
          refine mv_getR C rfl rfl rfl ?_
          refine mv_iload_n C rfl rfl ?_
          refine mv_iload_n C rfl rfl ?_
          refine mv_ast C rfl rfl (nI_nn hT.1) (cl_le hT.1 (show t < nI 6 from hT.2) (by decide)) ?_
          refine mv_iconst C rfl ?_
          refine mv_ireturn C rfl (by first | exact mv_okZ1 | exact mv_okZ0) ?_ ?_
          all_goals (first | rfl | (unfold a_trait; rw [hc]; rfl) | (rw [hc]; rfl))
        · have hb := b01.mp c40
          have hc : c_trait t v b = false := by simp only [c_trait, decide_eq_false hb, Bool.and_false]
          rw [hc] at C
          refine mv_iconst C rfl ?_
          refine mv_ireturn C rfl (by first | exact mv_okZ1 | exact mv_okZ0) ?_ ?_
          all_goals (first | rfl | (unfold a_trait; rw [hc]; rfl) | (rw [hc]; rfl))
  · unfold o_trait
    cases hc : c_trait t v b with
    | false => exact h0
    | true =>
      simp only [c_trait, Bool.and_eq_true, decide_eq_true_eq] at hc
      obtain ⟨⟨ht, hv⟩, hb⟩ := hc
      have ev := hst_of hv.1
      have eb := nI_nn hb.1
      generalize t.toNatClampNeg = k at *
      generalize (v.toInt + 1).toNat = v1 at *
      generalize b.toNatClampNeg = b1 at *
      subst ev; subst eb
      exact rM_arr (rM_val h0 k v1) 85 15 k b1 (by decide)
  · cases c_trait t v b with
    | false => exact fM_u fM_rf (by decide)
    | true => exact fM_u (fM_u (fM_u fM_rf (by decide)) (by decide)) (by decide)
-- telling
def hnb (u : hM) (n k : Nat) : Nat := if u 14 k = 0 then u 15 k else if 31 < u 15 k + n then 31 else u 15 k + n
def htell (u : hM) (n : Nat) : hM := fun k i => if k = 15 then (if i < 6 then hnb u n i else u 15 i) else u k i
def hts (u : hM) (n : Nat) : Nat := hsum (fun k => if u 14 k = 0 then 0 else hnb u n k) 6
def a_telling (u : hM) (n : Int32) : Int32 := if 0 ≤ n ∧ n ≤ 31 then nI (hts u n.toNatClampNeg) else -1
def o_telling (u : hM) (n : Int32) : hM := if 0 ≤ n ∧ n ≤ 31 then htell u n.toNatClampNeg else u
theorem min31a {x : Nat} (h : x < 2 ^ 31) : (if (31 : Int32) < nI x then (31 : Int32) else nI x) = nI (if 31 < x then 31 else x) := by
  rw [lit_31]
  by_cases q : 31 < x
  · rw [if_pos q, if_pos ((nI_ltI (by decide) h).mpr q)]
  · rw [if_neg q, if_neg (fun w => q ((nI_ltI (by decide) h).mp w))]
theorem min31b {x : Nat} (h : x < 2 ^ 31) : (if nI x < (31 : Int32) then nI x else (31 : Int32)) = nI (if 31 < x then 31 else x) := by
  rw [lit_31]
  by_cases q : x < 31
  · rw [if_pos ((nI_ltI h (by decide)).mpr q), if_neg (show ¬ 31 < x by omega)]
  · rw [if_neg (fun w => q ((nI_ltI h (by decide)).mp w))]
    by_cases q2 : 31 < x
    · rw [if_pos q2]
    · rw [if_neg q2, show x = 31 by omega]
theorem hst_ge {s : Nat} (hs : s < 2 ^ 31) : hst s < 0 ↔ s = 0 := by
  cases s with
  | zero => exact ⟨fun _ => rfl, fun _ => by decide⟩
  | succ n => simp only [hst]; exact ⟨fun h => absurd h (nI_pos (by omega)), fun h => by omega⟩
theorem r_tellOn (z : mv_Z) (u : hM) (n : Nat) (hn : n ≤ 31) (hv : z.1 23 = fun k => hst (u 14 k)) (hb : z.1 24 = fun k => nI (u 15 k)) (h1 : ∀ k, u 14 k ≤ 32 ∧ u 15 k ≤ 31) : mv_Runs 1 41 [.ref 22, .int (nI n)] (mv_E z) (some (.int (nI (hts u n)))) (mv_E (mv_w z 24 (fun k => nI (if k < 6 then hnb u n k else u 15 k)))) := by
  refine mv_start pX4_tellOn (some .int) [some (.ref 22), some (.int (nI n)), none, none] rfl rfl rfl rfl (fun V C => ?_)
  have loop : ∀ (k i : Nat), i + k = 6 → V 4 [some (.ref 22), some (.int (nI n)), some (.int (nI (hsum (fun k => if u 14 k = 0 then 0 else hnb u n k) i))), some (.int (nI i))] [] (mv_E (mv_w z 24 (fun k => nI (if k < i then hnb u n k else u 15 k)))) := by
    intro k
    induction k with
    | zero =>
      intro i hi
      obtain rfl : i = 6 := by omega
      refine mv_iload_n C rfl rfl ?_
      refine mv_bipush C rfl ?_
      refine mv_icmp_ge C rfl (fun c7 => ?_) (fun c7 => ?_)
      · refine mv_iload_n C rfl rfl ?_
        refine mv_ireturn C rfl mv_okI ?_ ?_
        all_goals rfl
      · exact absurd (by decide) c7
    | succ k ih =>
      intro i hi
      have e := ih (i + 1) (by omega)
      rw [← upd_step] at e
      simp only [hsum] at e
      have hi1 := h1 i
      have hv1 : (mv_w z 24 (fun k => nI (if k < i then hnb u n k else u 15 k))).1 23 i = hst (u 14 i) := by rw [mv_w_ne (by decide), hv]
      have hb1 : (mv_w z 24 (fun k => nI (if k < i then hnb u n k else u 15 k))).1 24 i = nI (u 15 i) := by rw [mv_w_get]; simp
      refine mv_iload_n C rfl rfl ?_
      refine mv_bipush C rfl ?_
      refine mv_icmp_ge C rfl (fun c7 => ?_) (fun c7 => ?_)
      · exact absurd c7 (nI_ge (b := 6) (by omega) (by decide))
      · refine mv_aload_n C rfl rfl ?_
        refine mv_getR C rfl rfl rfl ?_
        refine mv_iload_n C rfl rfl ?_
        refine mv_aldJ C rfl rfl rfl (by omega) hv1 ?_
        refine mv_iconst C rfl ?_
        refine mv_icmp_eq C rfl (fun c17 => ?_) (fun c17 => ?_)
        · have h2 := (hst_m1 (by omega)).mp c17
          rw [if_pos h2, show hnb u n i = u 15 i by (unfold hnb; rw [if_pos h2])] at e
          rw [show upd (fun k => nI (if k < i then hnb u n k else u 15 k)) i (nI (u 15 i)) = (fun k => nI (if k < i then hnb u n k else u 15 k)) by (funext q; simp only [upd]; split; (rename_i hq; subst hq; simp); rfl)] at e
          refine mv_inc3 C rfl rfl ?_
          refine mv_goto C rfl ?_
          simp only [nI_1]
          exact e
        · have h2 : ¬ u 14 i = 0 := fun q => c17 ((hst_m1 (by omega)).mpr q)
          rw [if_neg h2] at e
          refine mv_aload_n C rfl rfl ?_
          refine mv_getR C rfl rfl rfl ?_
          refine mv_iload_n C rfl rfl ?_
          refine mv_aload_n C rfl rfl ?_
          refine mv_getR C rfl rfl rfl ?_
          refine mv_iload_n C rfl rfl ?_
          refine mv_aldJ C rfl rfl rfl (by omega) hb1 ?_
          refine mv_iload_n C rfl rfl ?_
          refine mv_iadd C rfl ?_
          refine mv_top (nI_add _ _) ?_
          refine mv_bipush C rfl ?_
          refine mv_mmin C rfl rfl (Nat.le_of_ble_eq_true rfl) ?_
          refine mv_top (show _ = nI (hnb u n i) from ?_) ?_
          · (rw [min31a (by omega)]; unfold hnb; rw [if_neg h2])
          refine mv_ast C rfl rfl rfl (by omega) ?_
          refine mv_sto mv_uw ?_
          refine mv_iload_n C rfl rfl ?_
          refine mv_aload_n C rfl rfl ?_
          refine mv_getR C rfl rfl rfl ?_
          refine mv_iload_n C rfl rfl ?_
          refine mv_aldJ C rfl rfl rfl (by omega) (show _ = nI (hnb u n i) by (rw [mv_w_get]; simp [upd])) ?_
          refine mv_iadd C rfl ?_
          refine mv_top (nI_add _ _) ?_
          refine mv_is_n2 C rfl rfl ?_
          refine mv_inc3 C rfl rfl ?_
          refine mv_goto C rfl ?_
          simp only [nI_1]
          exact e
  refine mv_iconst C rfl ?_
  refine mv_is_n2 C rfl rfl ?_
  refine mv_iconst C rfl ?_
  refine mv_is_n3 C rfl rfl ?_
  refine mv_sto (z1 := mv_w z 24 (fun k => nI (if k < 0 then hnb u n k else u 15 k))) ?_ (loop 6 0 (by omega))
  rw [show (fun k => nI (if k < 0 then hnb u n k else u 15 k)) = z.1 24 by (rw [hb]; funext k; simp), mv_w_self]
theorem x_telling (u : hM) (z : mv_Z) (n : Int32) (hi : hI u) (hz : rX u z) : xR 91 [.int n] u z (.int (a_telling u n)) (o_telling u n) := by
  unfold a_telling o_telling
  have R0 := r_isNumber z n
  by_cases hc : 0 ≤ n ∧ n ≤ 31
  · rw [if_pos hc] at R0 ⊢
    rw [if_pos hc]
    obtain ⟨j, hj, rfl⟩ : ∃ j, j ≤ 31 ∧ n = nI j := by
      obtain ⟨j, hj, e⟩ := nI_rng (x := n) (n := 32) hc.1 (by have := hc.2; rw [i32_le, i32_31] at this; rw [i32_lt, nI_toInt (by decide)]; omega) (by decide)
      exact ⟨j, by omega, e⟩
    rw [nI_clamp (by omega)]
    have R1 := r_tellOn z u j hj hz.2.2.2.1 (funext fun k => rX_a hz 24 15 (by decide) k) hi.2.2.2.2.2.2.2.2.2.2.1
    refine ⟨_, mv_up (d := 2) (S1 := mv_E (mv_w z 24 (fun k => nI (if k < 6 then hnb u j k else u 15 k)))) ?_ rfl, ?_, fX_w fX_rf (by decide)⟩
    · refine mv_start pX10_telling (some .int) [some (.ref 0), some (.int (nI j))] rfl rfl rfl rfl (fun V C => ?_)
      refine mv_iload_n C rfl rfl ?_
      refine mv_cS C rfl R0 (by decide) rfl (Nat.le_of_ble_eq_true rfl) (Nat.le_refl _) (Nat.le_refl _) rfl ?_
      refine mv_if_eq C rfl (fun c4 => ?_) (fun c4 => ?_)
      · exact absurd c4 (by decide)
      · refine mv_aload_n C rfl rfl ?_
        refine mv_getR C rfl rfl rfl ?_
        refine mv_getR C rfl rfl rfl ?_
        refine mv_iload_n C rfl rfl ?_
        refine mv_cV C rfl R1 (by decide) rfl rfl rfl (Nat.le_of_ble_eq_true rfl) (Nat.le_refl _) (Nat.le_refl _) rfl ?_
        refine mv_goto C rfl ?_
        refine mv_ireturn C rfl mv_okI ?_ ?_
        all_goals rfl
    · have := rX_w (u1 := htell u j) hz 24 15 (by decide) (by decide) (fun k hk => by funext i; simp [htell, hk])
      simpa [htell] using this
  · rw [if_neg hc] at R0 ⊢
    rw [if_neg hc]
    refine ⟨_, mv_up (d := 2) (S1 := mv_E z) ?_ rfl, hz, fX_rf⟩
    refine mv_start pX10_telling (some .int) [some (.ref 0), some (.int n)] rfl rfl rfl rfl (fun V C => ?_)
    refine mv_iload_n C rfl rfl ?_
    refine mv_cS C rfl R0 (by decide) rfl (Nat.le_of_ble_eq_true rfl) (Nat.le_refl _) (Nat.le_refl _) rfl ?_
    refine mv_if_eq C rfl (fun c4 => ?_) (fun c4 => ?_)
    · refine mv_iconst C rfl ?_
      refine mv_ireturn C rfl mv_okI ?_ ?_
      all_goals rfl
    · exact absurd rfl c4
theorem m_telling (u : hM) (z : mv_Z) (n : Int32) (hi : hI u) (hz : rM u z) : mR 149 [.int n] u z (.int (a_telling u n)) (o_telling u n) := by
  have h0 := rM_free hz 68 0 0 (Or.inr ⟨rfl, by decide⟩)
  unfold a_telling o_telling
  have R0 := r_inI (mv_u z 68 0 0) n 0 31 (0 ≤ n ∧ n ≤ 31) (by rw [i32_le, i32_le, i32_0, i32_31, l64_0, l64_31])
  by_cases hc : 0 ≤ n ∧ n ≤ 31
  · rw [if_pos hc] at R0 ⊢
    rw [if_pos hc]
    obtain ⟨j, hj, rfl⟩ : ∃ j, j ≤ 31 ∧ n = nI j := by
      obtain ⟨j, hj, e⟩ := nI_rng (x := n) (n := 32) hc.1 (by have := hc.2; rw [i32_le, i32_31] at this; rw [i32_lt, nI_toInt (by decide)]; omega) (by decide)
      exact ⟨j, by omega, e⟩
    rw [nI_clamp (by omega)]
    have hv := h0.2.2.1
    have hb : (mv_u z 68 0 0).1 85 = fun k => nI (u 15 k) := funext fun k => rM_a h0 85 15 (by decide) k
    have h1 := hi.2.2.2.2.2.2.2.2.2.2.1
    refine ⟨_, mv_up (d := 2) (S1 := mv_E (mv_w (mv_u z 68 0 0) 85 (fun k => nI (if k < 6 then hnb u j k else u 15 k)))) ?_ rfl, ?_, fM_w (fM_u fM_rf (by decide)) (by decide)⟩
    · refine mv_start pX11_telling (some .int) [some (.ref 68), some (.int (nI j)), none, none] rfl rfl rfl rfl (fun V C => ?_)
      have loop : ∀ (k i : Nat), i + k = 6 → V 23 [some (.ref 68), some (.int (nI j)), some (.int (nI (hsum (fun k => if u 14 k = 0 then 0 else hnb u j k) i))), some (.int (nI i))] [] (mv_E (mv_w (mv_u z 68 0 0) 85 (fun k => nI (if k < i then hnb u j k else u 15 k)))) := by
        intro k
        induction k with
        | zero =>
          intro i hi
          obtain rfl : i = 6 := by omega
          refine mv_iload_n C rfl rfl ?_
          refine mv_bipush C rfl ?_
          refine mv_icmp_ge C rfl (fun c26 => ?_) (fun c26 => ?_)
          · refine mv_iload_n C rfl rfl ?_
            refine mv_ireturn C rfl mv_okI ?_ ?_
            all_goals rfl
          · exact absurd (by decide) c26
        | succ k ih =>
          intro i hi
          have e := ih (i + 1) (by omega)
          rw [← upd_step] at e
          simp only [hsum] at e
          have hi1 := h1 i
          have hv1 : (mv_w (mv_u z 68 0 0) 85 (fun k => nI (if k < i then hnb u j k else u 15 k))).1 84 i = hst (u 14 i) := by rw [mv_w_ne (by decide), hv]
          have hb1 : (mv_w (mv_u z 68 0 0) 85 (fun k => nI (if k < i then hnb u j k else u 15 k))).1 85 i = nI (u 15 i) := by rw [mv_w_get]; simp
          refine mv_iload_n C rfl rfl ?_
          refine mv_bipush C rfl ?_
          refine mv_icmp_ge C rfl (fun c26 => ?_) (fun c26 => ?_)
          · exact absurd c26 (nI_ge (b := 6) (by omega) (by decide))
          · refine mv_aload_n C rfl rfl ?_
            refine mv_getR C rfl rfl rfl ?_
            refine mv_iload_n C rfl rfl ?_
            refine mv_aldJ C rfl rfl rfl (by omega) hv1 ?_
            refine mv_if_lt C rfl (fun c35 => ?_) (fun c35 => ?_)
            · have h2 := (hst_ge (by omega)).mp c35
              rw [if_pos h2, show hnb u j i = u 15 i by (unfold hnb; rw [if_pos h2])] at e
              rw [show upd (fun k => nI (if k < i then hnb u j k else u 15 k)) i (nI (u 15 i)) = (fun k => nI (if k < i then hnb u j k else u 15 k)) by (funext q; simp only [upd]; split; (rename_i hq; subst hq; simp); rfl)] at e
              refine mv_inc3 C rfl rfl ?_
              refine mv_goto C rfl ?_
              simp only [nI_1]
              exact e
            · have h2 : ¬ u 14 i = 0 := fun q => c35 ((hst_ge (by omega)).mpr q)
              rw [if_neg h2] at e
              refine mv_aload_n C rfl rfl ?_
              refine mv_getR C rfl rfl rfl ?_
              refine mv_iload_n C rfl rfl ?_
              refine mv_bipush C rfl ?_
              refine mv_aload_n C rfl rfl ?_
              refine mv_getR C rfl rfl rfl ?_
              refine mv_iload_n C rfl rfl ?_
              refine mv_aldJ C rfl rfl rfl (by omega) hb1 ?_
              refine mv_iload_n C rfl rfl ?_
              refine mv_iadd C rfl ?_
              refine mv_top (nI_add _ _) ?_
              refine mv_mmin C rfl rfl (Nat.le_of_ble_eq_true rfl) ?_
              refine mv_top (show _ = nI (hnb u j i) from ?_) ?_
              · (rw [min31b (by omega)]; unfold hnb; rw [if_neg h2])
              refine mv_ast C rfl rfl rfl (by omega) ?_
              refine mv_sto mv_uw ?_
              refine mv_iload_n C rfl rfl ?_
              refine mv_aload_n C rfl rfl ?_
              refine mv_getR C rfl rfl rfl ?_
              refine mv_iload_n C rfl rfl ?_
              refine mv_aldJ C rfl rfl rfl (by omega) (show _ = nI (hnb u j i) by (rw [mv_w_get]; simp [upd])) ?_
              refine mv_iadd C rfl ?_
              refine mv_top (nI_add _ _) ?_
              refine mv_is_n2 C rfl rfl ?_
              refine mv_inc3 C rfl rfl ?_
              refine mv_goto C rfl ?_
              simp only [nI_1]
              exact e
      refine mv_aload_n C rfl rfl ?_
      refine mv_iconst C rfl ?_
      refine mv_putI C rfl rfl rfl rfl ?_
      refine mv_iload_n C rfl rfl ?_
      refine mv_i2l C rfl ?_
      refine mv_lconst C rfl ?_
      refine mv_ldc2_w C rfl ?_
      refine mv_cS C rfl R0 (by decide) rfl (Nat.le_of_ble_eq_true rfl) (Nat.le_refl _) (Nat.le_refl _) rfl ?_
      refine mv_if_ne C rfl (fun c14 => ?_) (fun c14 => ?_)
      · refine mv_iconst C rfl ?_
        refine mv_is_n2 C rfl rfl ?_
        refine mv_iconst C rfl ?_
        refine mv_is_n3 C rfl rfl ?_
        refine mv_sto (z1 := mv_w (mv_u z 68 0 0) 85 (fun k => nI (if k < 0 then hnb u j k else u 15 k))) ?_ (loop 6 0 (by omega))
        rw [show (fun k => nI (if k < 0 then hnb u j k else u 15 k)) = (mv_u z 68 0 0).1 85 by (rw [hb]; funext k; simp), mv_w_self]
      · exact absurd c14 (by decide)
    · have := rM_w (u1 := htell u j) h0 85 15 (by decide) (fun k hk => by funext i; simp [htell, hk])
      simpa [htell] using this
  · rw [if_neg hc] at R0 ⊢
    rw [if_neg hc]
    refine ⟨_, mv_up (d := 2) (S1 := mv_E (mv_u z 68 0 0)) ?_ rfl, h0, fM_u fM_rf (by decide)⟩
    refine mv_start pX11_telling (some .int) [some (.ref 68), some (.int n), none, none] rfl rfl rfl rfl (fun V C => ?_)
    refine mv_aload_n C rfl rfl ?_
    refine mv_iconst C rfl ?_
    refine mv_putI C rfl rfl rfl rfl ?_
    refine mv_iload_n C rfl rfl ?_
    refine mv_i2l C rfl ?_
    refine mv_lconst C rfl ?_
    refine mv_ldc2_w C rfl ?_
    refine mv_cS C rfl R0 (by decide) rfl (Nat.le_of_ble_eq_true rfl) (Nat.le_refl _) (Nat.le_refl _) rfl ?_
    refine mv_if_ne C rfl (fun c14 => ?_) (fun c14 => ?_)
    · exact absurd rfl c14
    · refine mv_iconst C rfl ?_
      refine mv_ireturn C rfl mv_okI ?_ ?_
      all_goals rfl
end

