section
def hmask (g : Nat → Bool) : Nat → Int32
  | 0 => 0
  | n + 1 => bif g n then hmask g n ||| (1 <<< (nI n &&& 31)) else hmask g n
theorem hb_mask (g : Nat → Bool) : ∀ n, n ≤ 32 → ∀ i, i < 32 → hbit (hmask g n) i = (decide (i < n) && g i)
  | 0, _, i, _ => by simp [hmask, hb_0]
  | n + 1, hn, i, hi => by
    have ih := hb_mask g n (by omega) i hi
    simp only [hmask]
    cases hg : g n with
    | true =>
      simp only [cond_true]
      rw [hb_or, hb_bit (by omega) hi, ih]
      by_cases e : i = n
      · subst e; simp [hg]
      · by_cases h : i < n
        · simp [h, e, show i < n + 1 by omega]
        · simp [h, e, show ¬ i < n + 1 by omega]
    | false =>
      simp only [cond_false]
      rw [ih]
      by_cases e : i = n
      · subst e; simp [hg]
      · by_cases h : i < n
        · simp [h, show i < n + 1 by omega]
        · simp [h, show ¬ i < n + 1 by omega]
theorem r_parishesOf (z : mv_Z) (u : hM) (c : Int32) (hn : z.1 3 6 = nI (u 0 0)) (h24 : u 0 0 ≤ 24) (hc : ∀ p, z.1 4 p = nI (u 1 p)) : mv_Runs 2 51 [.ref 3, .int c] (mv_E z) (some (.int (hmask (fun p => decide (nI (u 1 p) = c)) (u 0 0)))) (mv_E z) := by
  refine mv_start pX6_parishesOf (some .int) [some (.ref 3), some (.int c), none, none] rfl rfl rfl rfl (fun V C => ?_)
  have loop : ∀ (k i : Nat), i + k = u 0 0 → V 4 [some (.ref 3), some (.int c), some (.int (hmask (fun p => decide (nI (u 1 p) = c)) i)), some (.int (nI i))] [] (mv_E z) := by
    intro k
    induction k with
    | zero =>
      intro i hi
      refine mv_iload_n C rfl rfl ?_
      refine mv_aload_n C rfl rfl ?_
      refine mv_getJ C rfl rfl rfl hn ?_
      refine mv_icmp_ge C rfl (fun c9 => ?_) (fun c9 => ?_)
      · refine mv_iload_n C rfl rfl ?_
        refine mv_ireturn C rfl mv_okI ?_ ?_
        all_goals (first | rfl | (rw [show i = u 0 0 by omega]))
      · exact absurd (nI_le (by omega) (by omega)) c9
    | succ k ih =>
      intro i hi
      have e := ih (i + 1) (by omega)
      simp only [hmask] at e
      refine mv_iload_n C rfl rfl ?_
      refine mv_aload_n C rfl rfl ?_
      refine mv_getJ C rfl rfl rfl hn ?_
      refine mv_icmp_ge C rfl (fun c9 => ?_) (fun c9 => ?_)
      · exact absurd c9 (nI_ge (by omega) (by omega))
      · refine mv_aload_n C rfl rfl ?_
        refine mv_getR C rfl rfl rfl ?_
        refine mv_iload_n C rfl rfl ?_
        refine mv_aldJ C rfl rfl rfl (by omega) (hc i) ?_
        refine mv_iload_n C rfl rfl ?_
        refine mv_icmp_ne C rfl (fun c19 => ?_) (fun c19 => ?_)
        · rw [decide_eq_false c19] at e
          refine mv_inc3 C rfl rfl ?_
          refine mv_goto C rfl ?_
          simp only [nI_1]
          exact e
        · rw [decide_eq_true c19] at e
          refine mv_iload_n C rfl rfl ?_
          refine mv_iload_n C rfl rfl ?_
          refine mv_cS C rfl (r_bit _ _) (by decide) rfl (Nat.le_of_ble_eq_true rfl) (Nat.le_refl _) (Nat.le_refl _) rfl ?_
          refine mv_ior C rfl ?_
          refine mv_is_n2 C rfl rfl ?_
          refine mv_inc3 C rfl rfl ?_
          refine mv_goto C rfl ?_
          simp only [nI_1]
          exact e
  refine mv_iconst C rfl ?_
  refine mv_is_n2 C rfl rfl ?_
  refine mv_iconst C rfl ?_
  refine mv_is_n3 C rfl rfl ?_
  exact loop (u 0 0) 0 (by omega)
def hfit (u : hM) (x : Int32) : Nat := hsum (fun p => bif hbit x (u 17 p) && decide (hmf u p = 0) then 1 else 0) (u 16 0)
theorem r_fittingOf (z : mv_Z) (u : hM) (x : Int32) (hz : rX u z) (hi : hI u) : mv_Runs 3 38 [.ref 21, .int x] (mv_E z) (some (.int (nI (hfit u x)))) (mv_E z) := by
  have hn := rX_s hz 21 3 16 (by decide)
  have h30 : u 16 0 ≤ 30 := hi.2.2.2.2.2.2.2.2.2.2.2.1
  have h24 := hi.1
  have hh := hi.2.2.2.2.2.2.2.2.2.2.2.2.1
  refine mv_start pX3_fittingOf (some .int) [some (.ref 21), some (.int x), none, none] rfl rfl rfl rfl (fun V C => ?_)
  have loop : ∀ (k i : Nat), i + k = u 16 0 → V 4 [some (.ref 21), some (.int x), some (.int (nI (hsum (fun p => bif hbit x (u 17 p) && decide (hmf u p = 0) then 1 else 0) i))), some (.int (nI i))] [] (mv_E z) := by
    intro k
    induction k with
    | zero =>
      intro i hi
      refine mv_iload_n C rfl rfl ?_
      refine mv_aload_n C rfl rfl ?_
      refine mv_getJ C rfl rfl rfl hn ?_
      refine mv_icmp_ge C rfl (fun c9 => ?_) (fun c9 => ?_)
      · refine mv_iload_n C rfl rfl ?_
        refine mv_ireturn C rfl mv_okI ?_ ?_
        all_goals (first | rfl | (rw [show i = u 16 0 by omega]; rfl))
      · exact absurd (nI_le (by omega) (by omega)) c9
    | succ k ih =>
      intro i hi2
      have e := ih (i + 1) (by omega)
      simp only [hsum] at e
      have R1 := r_misfit z u i (by omega) hz hi
      have hp : u 17 i < 32 := by have := hh i (by omega); omega
      have hm := hmf_le u i
      refine mv_iload_n C rfl rfl ?_
      refine mv_aload_n C rfl rfl ?_
      refine mv_getJ C rfl rfl rfl hn ?_
      refine mv_icmp_ge C rfl (fun c9 => ?_) (fun c9 => ?_)
      · exact absurd c9 (nI_ge (by omega) (by omega))
      · refine mv_iload_n C rfl rfl ?_
        refine mv_aload_n C rfl rfl ?_
        refine mv_getR C rfl rfl rfl ?_
        refine mv_iload_n C rfl rfl ?_
        refine mv_aldJ C rfl rfl rfl (by omega) (rX_a hz 25 17 (by decide) i) ?_
        refine mv_cS C rfl (mv_up (r_has _ _ _) rfl) (by decide) rfl (Nat.le_of_ble_eq_true rfl) (Nat.le_refl _) (Nat.le_refl _) rfl ?_
        refine mv_if_eq C rfl (fun c22 => ?_) (fun c22 => ?_)
        · have h2 : hbit x (u 17 i) = false := by (rw [← hb_has hp]; by_cases q : (x >>> (nI (u 17 i) &&& 31)) &&& 1 = 0; exact q; rw [if_neg q] at c22; exact absurd c22 (by decide))
          rw [h2] at e
          refine mv_inc3 C rfl rfl ?_
          refine mv_goto C rfl ?_
          simp only [nI_1]
          exact e
        · have h2 : hbit x (u 17 i) = true := by (cases q : hbit x (u 17 i) with | true => rfl | false => rw [if_pos ((hb_has hp).mpr q)] at c22; exact absurd rfl c22)
          rw [h2] at e
          refine mv_aload_n C rfl rfl ?_
          refine mv_iload_n C rfl rfl ?_
          refine mv_cV C rfl R1 (by decide) rfl rfl rfl (Nat.le_of_ble_eq_true rfl) (Nat.le_refl _) (Nat.le_refl _) rfl ?_
          refine mv_if_ne C rfl (fun c30 => ?_) (fun c30 => ?_)
          · have h3 : ¬ hmf u i = 0 := fun q => c30 (by rw [q]; rfl)
            rw [decide_eq_false h3] at e
            refine mv_inc3 C rfl rfl ?_
            refine mv_goto C rfl ?_
            simp only [nI_1]
            exact e
          · have h3 : hmf u i = 0 := (nI_eq (b := 0) (by omega) (by decide)).mp c30
            rw [decide_eq_true h3] at e
            refine mv_inc2 C rfl rfl ?_
            refine mv_inc3 C rfl rfl ?_
            refine mv_goto C rfl ?_
            simp only [nI_1]
            exact e
  refine mv_iconst C rfl ?_
  refine mv_is_n2 C rfl rfl ?_
  refine mv_iconst C rfl ?_
  refine mv_is_n3 C rfl rfl ?_
  exact loop (u 16 0) 0 (by omega)
def hmany (u : hM) (c : Int32) : Nat := hsum (fun p => bif decide (nI (u 1 (u 17 p)) = c) && decide (hmf u p = 0) then 1 else 0) (u 16 0)
def a_many (u : hM) (c : Int32) : Int32 := if c = -1 then nI (hsum (fun p => bif decide (hmf u p = 0) then 1 else 0) (u 16 0)) else if 0 ≤ c ∧ c < 6 then nI (hmany u c) else -2
theorem hfit_all (u : hM) (hi : hI u) : hfit u (-1) = hsum (fun p => bif decide (hmf u p = 0) then 1 else 0) (u 16 0) := by
  unfold hfit
  apply hsum_cong
  intro i h
  have := hi.2.2.2.2.2.2.2.2.2.2.2.2.1 i h
  have h24 := hi.1
  rw [hb_m1 _ (by omega)]; simp
theorem hfit_c (u : hM) (hi : hI u) (c : Int32) : hfit u (hmask (fun p => decide (nI (u 1 p) = c)) (u 0 0)) = hmany u c := by
  unfold hfit hmany
  apply hsum_cong
  intro i h
  have h1 := hi.2.2.2.2.2.2.2.2.2.2.2.2.1 i h
  have h24 := hi.1
  rw [hb_mask _ _ (by omega) _ (by omega)]
  simp [h1]
theorem x_many (u : hM) (z : mv_Z) (c : Int32) (hi : hI u) (hz : rX u z) : xR 94 [.int c] u z (.int (a_many u c)) u := by
  have R0 := r_isCounty z c
  have R1 := r_parishesOf z u c (rX_s hz 3 6 0 (by decide)) hi.1 (rX_a hz 4 1 (by decide))
  have R2 := r_fittingOf z u (hmask (fun p => decide (nI (u 1 p) = c)) (u 0 0)) hz hi
  rw [hfit_c u hi] at R2
  have R3 := r_fittingOf z u (-1) hz hi
  rw [hfit_all u hi] at R3
  unfold a_many
  refine ⟨_, mv_up (d := 4) (S1 := mv_E z) ?_ rfl, hz, fX_rf⟩
  by_cases h1 : c = -1
  · rw [if_pos h1]
    refine mv_start pX10_many (some .int) [some (.ref 0), some (.int c)] rfl rfl rfl rfl (fun V C => ?_)
    refine mv_iload_n C rfl rfl ?_
    refine mv_iconst C rfl ?_
    refine mv_icmp_ne C rfl (fun c2 => ?_) (fun c2 => ?_)
    · exact absurd h1 c2
    · refine mv_aload_n C rfl rfl ?_
      refine mv_getR C rfl rfl rfl ?_
      refine mv_iconst C rfl ?_
      refine mv_cV C rfl R3 (by decide) rfl rfl rfl (Nat.le_of_ble_eq_true rfl) (Nat.le_refl _) (Nat.le_refl _) rfl ?_
      refine mv_ireturn C rfl mv_okI ?_ ?_
      all_goals rfl
  · rw [if_neg h1]
    by_cases h2 : 0 ≤ c ∧ c < 6
    · rw [if_pos h2] at R0 ⊢
      refine mv_start pX10_many (some .int) [some (.ref 0), some (.int c)] rfl rfl rfl rfl (fun V C => ?_)
      refine mv_iload_n C rfl rfl ?_
      refine mv_iconst C rfl ?_
      refine mv_icmp_ne C rfl (fun c2 => ?_) (fun c2 => ?_)
      · refine mv_iload_n C rfl rfl ?_
        refine mv_cS C rfl (mv_up R0 rfl) (by decide) rfl (Nat.le_of_ble_eq_true rfl) (Nat.le_refl _) (Nat.le_refl _) rfl ?_
        refine mv_if_eq C rfl (fun c18 => ?_) (fun c18 => ?_)
        · exact absurd c18 (by decide)
        · refine mv_aload_n C rfl rfl ?_
          refine mv_getR C rfl rfl rfl ?_
          refine mv_aload_n C rfl rfl ?_
          refine mv_getR C rfl rfl rfl ?_
          refine mv_iload_n C rfl rfl ?_
          refine mv_cV C rfl (mv_up R1 rfl) (by decide) rfl rfl rfl (Nat.le_of_ble_eq_true rfl) (Nat.le_refl _) (Nat.le_refl _) rfl ?_
          refine mv_cV C rfl R2 (by decide) rfl rfl rfl (Nat.le_of_ble_eq_true rfl) (Nat.le_refl _) (Nat.le_refl _) rfl ?_
          refine mv_goto C rfl ?_
          refine mv_ireturn C rfl mv_okI ?_ ?_
          all_goals rfl
      · exact absurd c2 h1
    · rw [if_neg h2] at R0 ⊢
      refine mv_start pX10_many (some .int) [some (.ref 0), some (.int c)] rfl rfl rfl rfl (fun V C => ?_)
      refine mv_iload_n C rfl rfl ?_
      refine mv_iconst C rfl ?_
      refine mv_icmp_ne C rfl (fun c2 => ?_) (fun c2 => ?_)
      · refine mv_iload_n C rfl rfl ?_
        refine mv_cS C rfl (mv_up R0 rfl) (by decide) rfl (Nat.le_of_ble_eq_true rfl) (Nat.le_refl _) (Nat.le_refl _) rfl ?_
        refine mv_if_eq C rfl (fun c18 => ?_) (fun c18 => ?_)
        · refine mv_bipush C rfl ?_
          refine mv_ireturn C rfl mv_okI ?_ ?_
          all_goals rfl
        · exact absurd rfl c18
      · exact absurd c2 h1
theorem m_many (u : hM) (z : mv_Z) (c : Int32) (hi : hI u) (hz : rM u z) : mR 153 [.int c] u z (.int (a_many u c)) u := by
  have h0 := rM_free hz 68 0 0 (Or.inr ⟨rfl, by decide⟩)
  have hn := rM_s h0 23 16 (by decide)
  have h30 : u 16 0 ≤ 30 := hi.2.2.2.2.2.2.2.2.2.2.2.1
  have h24 := hi.1
  have hh := hi.2.2.2.2.2.2.2.2.2.2.2.2.1
  have R0 := r_inI (mv_u z 68 0 0) c (-1) 5 (-1 ≤ c ∧ c ≤ 5) (by rw [i32_le, i32_le, i32_m1, i32_5, l64_m1, l64_5])
  refine ⟨_, mv_up (d := 4) (S1 := mv_E (mv_u z 68 0 0)) ?_ rfl, h0, fM_u fM_rf (by decide)⟩
  by_cases hc : -1 ≤ c ∧ c ≤ 5
  · rw [if_pos hc] at R0
    have ea : a_many u c = nI (hsum (fun p => bif (decide (c < 0) || decide (nI (u 1 (u 17 p)) = c)) && decide (hmf u p = 0) then 1 else 0) (u 16 0)) := by
      unfold a_many hmany
      have hc1 := hc.1
      have hc2 := hc.2
      rw [i32_le, i32_m1] at hc1
      rw [i32_le, i32_5] at hc2
      by_cases h1 : c = -1
      · rw [if_pos h1]
        have h2 : c < 0 := by rw [h1]; decide
        simp [h2]
      · have h3 : ¬ c.toInt = -1 := fun q => h1 (Int32.toInt_inj.mp q)
        have h2 : ¬ c < 0 := by rw [i32_lt, i32_0]; omega
        rw [if_neg h1, if_pos ⟨by rw [i32_le, i32_0]; omega, by rw [i32_lt, i32_6]; omega⟩]
        simp [h2]
    rw [ea]
    refine mv_start pX11_many (some .int) [some (.ref 68), some (.int c), none, none] rfl rfl rfl rfl (fun V C => ?_)
    have loop : ∀ (k i : Nat), i + k = u 16 0 → V 26 [some (.ref 68), some (.int c), some (.int (nI (hsum (fun p => bif (decide (c < 0) || decide (nI (u 1 (u 17 p)) = c)) && decide (hmf u p = 0) then 1 else 0) i))), some (.int (nI i))] [] (mv_E (mv_u z 68 0 0)) := by
      intro k
      induction k with
      | zero =>
        intro i hi
        refine mv_iload_n C rfl rfl ?_
        refine mv_aload_n C rfl rfl ?_
        refine mv_getJ C rfl rfl rfl hn ?_
        refine mv_icmp_ge C rfl (fun c31 => ?_) (fun c31 => ?_)
        · refine mv_iload_n C rfl rfl ?_
          refine mv_ireturn C rfl mv_okI ?_ ?_
          all_goals (first | rfl | (rw [show i = u 16 0 by omega]))
        · exact absurd (nI_le (by omega) (by omega)) c31
      | succ k ih =>
        intro i hi2
        have e := ih (i + 1) (by omega)
        simp only [hsum] at e
        have R1 := r_unfit _ u i (by omega) h0 hi
        have hp : u 17 i < u 0 0 := hh i (by omega)
        have hm := hmf_le u i
        have st : ∀ x : Int32, x = nI (bif (decide (c < 0) || decide (nI (u 1 (u 17 i)) = c)) && decide (hmf u i = 0) then 1 else 0) → V 67 [some (.ref 68), some (.int c), some (.int (nI (hsum (fun p => bif (decide (c < 0) || decide (nI (u 1 (u 17 p)) = c)) && decide (hmf u p = 0) then 1 else 0) i))), some (.int (nI i))] [.int x, .int (nI (hsum (fun p => bif (decide (c < 0) || decide (nI (u 1 (u 17 p)) = c)) && decide (hmf u p = 0) then 1 else 0) i))] (mv_E (mv_u z 68 0 0)) := by
          intro x hx
          subst hx
          refine mv_iadd C rfl ?_
          refine mv_top (nI_add _ _) ?_
          refine mv_is_n2 C rfl rfl ?_
          refine mv_inc3 C rfl rfl ?_
          refine mv_goto C rfl ?_
          simp only [nI_1]
          exact e
        refine mv_iload_n C rfl rfl ?_
        refine mv_aload_n C rfl rfl ?_
        refine mv_getJ C rfl rfl rfl hn ?_
        refine mv_icmp_ge C rfl (fun c31 => ?_) (fun c31 => ?_)
        · exact absurd c31 (nI_ge (by omega) (by omega))
        · refine mv_iload_n C rfl rfl ?_
          refine mv_aload_n C rfl rfl ?_
          refine mv_iload_n C rfl rfl ?_
          refine mv_cV C rfl (mv_up R1 rfl) (by decide) rfl rfl rfl (Nat.le_of_ble_eq_true rfl) (Nat.le_refl _) (Nat.le_refl _) rfl ?_
          refine mv_if_ne C rfl (fun c40 => ?_) (fun c40 => ?_)
          · have h3 : ¬ hmf u i = 0 := fun q => c40 (by rw [q]; rfl)
            refine mv_iconst C rfl ?_
            refine st _ ?_
            clear st
            first | (simp [*]; done) | (simp [*]; rfl)
          · have h3 : hmf u i = 0 := (nI_eq (b := 0) (by omega) (by decide)).mp c40
            refine mv_iload_n C rfl rfl ?_
            refine mv_if_lt C rfl (fun c44 => ?_) (fun c44 => ?_)
            · refine mv_iconst C rfl ?_
              refine mv_goto C rfl ?_
              refine st _ ?_
              clear st
              first | (simp [*]; done) | (simp [*]; rfl)
            · refine mv_aload_n C rfl rfl ?_
              refine mv_getR C rfl rfl rfl ?_
              refine mv_aload_n C rfl rfl ?_
              refine mv_getR C rfl rfl rfl ?_
              refine mv_iload_n C rfl rfl ?_
              refine mv_aldJ C rfl rfl rfl (by omega) (rM_a h0 86 17 (by decide) i) ?_
              refine mv_aldJ C rfl rfl rfl (by omega) (rM_a h0 69 1 (by decide) _) ?_
              refine mv_iload_n C rfl rfl ?_
              refine mv_icmp_ne C rfl (fun c59 => ?_) (fun c59 => ?_)
              · refine mv_iconst C rfl ?_
                refine st _ ?_
                clear st
                first | (simp [*]; done) | (simp [*]; rfl)
              · refine mv_iconst C rfl ?_
                refine mv_goto C rfl ?_
                refine st _ ?_
                clear st
                first | (simp [*]; done) | (simp [*]; rfl)
    refine mv_aload_n C rfl rfl ?_
    refine mv_iconst C rfl ?_
    refine mv_putI C rfl rfl rfl rfl ?_
    refine mv_iload_n C rfl rfl ?_
    refine mv_i2l C rfl ?_
    refine mv_ldc2_w C rfl ?_
    refine mv_ldc2_w C rfl ?_
    refine mv_cS C rfl (mv_up R0 rfl) (by decide) rfl (Nat.le_of_ble_eq_true rfl) (Nat.le_refl _) (Nat.le_refl _) rfl ?_
    refine mv_if_ne C rfl (fun c16 => ?_) (fun c16 => ?_)
    · refine mv_iconst C rfl ?_
      refine mv_is_n2 C rfl rfl ?_
      refine mv_iconst C rfl ?_
      refine mv_is_n3 C rfl rfl ?_
      exact loop (u 16 0) 0 (by omega)
    · exact absurd c16 (by decide)
  · rw [if_neg hc] at R0
    have ea : a_many u c = -2 := by
      unfold a_many
      rw [if_neg (fun q => hc (by rw [q]; decide)), if_neg (fun q => hc ⟨by have := q.1; rw [i32_le, i32_0] at this; rw [i32_le, i32_m1]; omega, by have := q.2; rw [i32_lt, i32_6] at this; rw [i32_le, i32_5]; omega⟩)]
    rw [ea]
    refine mv_start pX11_many (some .int) [some (.ref 68), some (.int c), none, none] rfl rfl rfl rfl (fun V C => ?_)
    refine mv_aload_n C rfl rfl ?_
    refine mv_iconst C rfl ?_
    refine mv_putI C rfl rfl rfl rfl ?_
    refine mv_iload_n C rfl rfl ?_
    refine mv_i2l C rfl ?_
    refine mv_ldc2_w C rfl ?_
    refine mv_ldc2_w C rfl ?_
    refine mv_cS C rfl (mv_up R0 rfl) (by decide) rfl (Nat.le_of_ble_eq_true rfl) (Nat.le_refl _) (Nat.le_refl _) rfl ?_
    refine mv_if_ne C rfl (fun c16 => ?_) (fun c16 => ?_)
    · exact absurd rfl c16
    · refine mv_bipush C rfl ?_
      refine mv_ireturn C rfl mv_okI ?_ ?_
      all_goals rfl
end

