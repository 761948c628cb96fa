section
theorem b_or01 (a b : Bool) : (bif a then (1 : Int32) else 0) ||| (bif b then 1 else 0) = (bif a || b then 1 else 0) := by cases a <;> cases b <;> decide
def hfar (u : hM) (a : Nat) : Nat → Nat := hit u (u 0 0) (updN (fun _ => 0) a 1)
theorem g5_init (z : mv_Z) (i : Nat) : upd (g5 z i (fun _ => 0)) i (-1) = g5 z (i + 1) (fun _ => 0) := by
  funext p
  by_cases h : p = i
  · subst h; simp [upd, g5, hst]
  · simp only [upd, h, if_false, g5]
    by_cases h1 : p < i
    · rw [if_pos h1, if_pos (by omega)]
    · rw [if_neg h1, if_neg (by omega)]
theorem r_shortest (z : mv_Z) (u : hM) (a b : Nat) (ha : a < u 0 0) (hb : b < u 0 0) (hi : hI u) (hz : rX u z) : mv_Runs 2 55 [.ref 3, .int (nI a), .int (nI b)] (mv_E z) (some (.int (hst (hfar u a b)))) (mv_E (mv_w z 5 (g5 z (u 0 0) (hfar u a)))) := by
  have hn := rX_s hz 3 6 0 (by decide)
  have hr := rX_s hz 3 7 2 (by decide)
  have h24 := hi.1
  have h40 := hi.2.2.1
  have hrd := hi.2.2.2.1
  have hsh := hi.2.2.2.2.1
  have hnf : ∀ f, (mv_w z 5 f).1 3 6 = nI (u 0 0) := fun f => by rw [mv_w_ne (by decide)]; exact hn
  have hrf : ∀ f, (mv_w z 5 f).1 3 7 = nI (u 2 0) := fun f => by rw [mv_w_ne (by decide)]; exact hr
  have hA : ∀ f r, (mv_w z 5 f).1 6 r = nI (u 3 r) := fun f r => by rw [mv_w_ne (by decide)]; exact rX_a hz 6 3 (by decide) r
  have hB : ∀ f r, (mv_w z 5 f).1 7 r = nI (u 4 r) := fun f r => by rw [mv_w_ne (by decide)]; exact rX_a hz 7 4 (by decide) r
  have hH : ∀ f r, (mv_w z 5 f).1 8 r = nI (u 5 r) := fun f r => by rw [mv_w_ne (by decide)]; exact rX_a hz 8 5 (by decide) r
  have hS : ∀ f r, (mv_w z 5 f).1 9 r = nI (u 6 r) := fun f r => by rw [mv_w_ne (by decide)]; exact rX_a hz 9 6 (by decide) r
  refine mv_start pX6_shortest (some .int) [some (.ref 3), some (.int (nI a)), some (.int (nI b)), none, none, none] rfl rfl rfl rfl (fun V C => ?_)
  have fin : ∀ w3 w4 w5 : Option Value, V 140 [some (.ref 3), some (.int (nI a)), some (.int (nI b)), w3, w4, w5] [] (mv_E (mv_w z 5 (g5 z (u 0 0) (hfar u a)))) := by
    intro w3 w4 w5
    refine mv_aload_n C rfl rfl ?_
    refine mv_getR C rfl rfl rfl ?_
    refine mv_iload_n C rfl rfl ?_
    refine mv_aldJ C rfl rfl rfl (by omega) (show _ = hst (hfar u a b) by rw [mv_w_get, g5_at hb]) ?_
    refine mv_ireturn C rfl mv_okI ?_ ?_
    all_goals rfl
  have outer : ∀ (k t : Nat) (e : Nat → Nat) (bt : Bool) (w5 : Option Value), t + k = u 0 0 → (bt = false → hrnd u (u 2 0) 0 e = e) → hit u k e = hfar u a → (∀ p, e p ≤ 1 + 24 * (40 * t)) → V 35 [some (.ref 3), some (.int (nI a)), some (.int (nI b)), some (.int (bif bt then 1 else 0)), some (.int (nI t)), w5] [] (mv_E (mv_w z 5 (g5 z (u 0 0) e))) := by
    intro k
    induction k with
    | zero =>
      intro t e bt w5 ht hbt he hle
      simp only [hit] at he
      subst he
      refine mv_iload C rfl rfl ?_
      refine mv_aload_n C rfl rfl ?_
      refine mv_getJ C rfl rfl rfl (hnf _) ?_
      refine mv_icmp_ge C rfl (fun c41 => ?_) (fun c41 => ?_)
      · exact fin _ _ _
      · exact absurd (nI_le (by omega) (by omega)) c41
    | succ k ih =>
      intro t e bt w5 ht hbt he hle
      cases bt with
      | false =>
        have hf := hbt rfl
        rw [hit_fix u hf] at he
        subst he
        refine mv_iload C rfl rfl ?_
        refine mv_aload_n C rfl rfl ?_
        refine mv_getJ C rfl rfl rfl (hnf _) ?_
        refine mv_icmp_ge C rfl (fun c41 => ?_) (fun c41 => ?_)
        · exact absurd c41 (nI_ge (by omega) (by omega))
        · refine mv_iload_n C rfl rfl ?_
          refine mv_if_eq C rfl (fun c45 => ?_) (fun c45 => ?_)
          · exact fin _ _ _
          · exact absurd rfl c45
      | true =>
        simp only [hit] at he
        have inner : ∀ (j i : Nat) (e1 : Nat → Nat) (b1 : Bool), i + j = u 2 0 → hrnd u j i e1 = hrnd u (u 2 0) 0 e → hrndq u j i e1 b1 = hrndq u (u 2 0) 0 e false → (∀ p, e1 p ≤ 1 + 24 * (40 * t + i)) → V 53 [some (.ref 3), some (.int (nI a)), some (.int (nI b)), some (.int (bif b1 then 1 else 0)), some (.int (nI t)), some (.int (nI i))] [] (mv_E (mv_w z 5 (g5 z (u 0 0) e1))) := by
          intro j
          induction j with
          | zero =>
            intro i e1 b1 hj h1 h2 h3
            simp only [hrnd] at h1
            simp only [hrndq] at h2
            have := ih (t + 1) e1 b1 (some (.int (nI i))) (by omega) (fun q => by rw [h1]; rw [q] at h2; have h4 := hrnd_fix u (u 2 0) 0 e false h2.symm; rw [h4]; exact h4) (by rw [h1]; exact he) (fun p => by have := h3 p; omega)
            refine mv_iload C rfl rfl ?_
            refine mv_aload_n C rfl rfl ?_
            refine mv_getJ C rfl rfl rfl (hrf _) ?_
            refine mv_icmp_ge C rfl (fun c59 => ?_) (fun c59 => ?_)
            · refine mv_inc4 C rfl rfl ?_
              refine mv_goto C rfl ?_
              simp only [nI_1]
              exact this
            · exact absurd (nI_le (by omega) (by omega)) c59
          | succ j jh =>
            intro i e1 b1 hj h1 h2 h3
            have hri := hrd i (by omega)
            have hsi := hsh i
            simp only [hrnd] at h1
            simp only [hrndq] at h2
            have h3b : ∀ p, e1 p ≤ 1000000 := fun p => by have := h3 p; omega
            by_cases h6 : u 6 i = 0
            · rw [if_pos h6] at h1
              rw [if_pos h6, if_pos h6] at h2
              have nx := jh (i + 1) (hrel u e1 i) (b1 || hrelq u e1 i) (by omega) h1 h2 (fun p => by have := hrel_le (u := u) (e := e1) (r := i) h3 (by omega) p; omega)
              have R1 := r_shorten z (u 0 0) e1 (u 3 i) (u 4 i) (u 5 i) h24 (by omega) (by omega) (by omega) h3b
              have R2 := r_shorten z (u 0 0) (rel1 e1 (u 3 i) (u 4 i) (u 5 i)) (u 4 i) (u 3 i) (u 5 i) h24 (by omega) (by omega) (by omega) (fun p => by have := rel1_le (e := e1) (a := u 3 i) (b := u 4 i) (h := u 5 i) h3 (by omega) p; omega)
              refine mv_iload C rfl rfl ?_
              refine mv_aload_n C rfl rfl ?_
              refine mv_getJ C rfl rfl rfl (hrf _) ?_
              refine mv_icmp_ge C rfl (fun c59 => ?_) (fun c59 => ?_)
              · exact absurd c59 (nI_ge (by omega) (by omega))
              · refine mv_aload_n C rfl rfl ?_
                refine mv_getR C rfl rfl rfl ?_
                refine mv_iload C rfl rfl ?_
                refine mv_zldJ C rfl rfl rfl (by omega) (hS _ _) ?_
                refine mv_if_ne C rfl (fun c69 => ?_) (fun c69 => ?_)
                · exact absurd (by rw [h6]; rfl) c69
                · refine mv_iload_n C rfl rfl ?_
                  refine mv_aload_n C rfl rfl ?_
                  refine mv_aload_n C rfl rfl ?_
                  refine mv_getR C rfl rfl rfl ?_
                  refine mv_iload C rfl rfl ?_
                  refine mv_aldJ C rfl rfl rfl (by omega) (hA _ _) ?_
                  refine mv_aload_n C rfl rfl ?_
                  refine mv_getR C rfl rfl rfl ?_
                  refine mv_iload C rfl rfl ?_
                  refine mv_aldJ C rfl rfl rfl (by omega) (hB _ _) ?_
                  refine mv_aload_n C rfl rfl ?_
                  refine mv_getR C rfl rfl rfl ?_
                  refine mv_iload C rfl rfl ?_
                  refine mv_aldJ C rfl rfl rfl (by omega) (hH _ _) ?_
                  refine mv_cV C rfl R1 (by decide) rfl rfl rfl (Nat.le_of_ble_eq_true rfl) (Nat.le_refl _) (Nat.le_refl _) rfl ?_
                  refine mv_ior C rfl ?_
                  refine mv_top (b_or01 _ _) ?_
                  refine mv_is_n3 C rfl rfl ?_
                  refine mv_iload_n C rfl rfl ?_
                  refine mv_aload_n C rfl rfl ?_
                  refine mv_aload_n C rfl rfl ?_
                  refine mv_getR C rfl rfl rfl ?_
                  refine mv_iload C rfl rfl ?_
                  refine mv_aldJ C rfl rfl rfl (by omega) (hB _ _) ?_
                  refine mv_aload_n C rfl rfl ?_
                  refine mv_getR C rfl rfl rfl ?_
                  refine mv_iload C rfl rfl ?_
                  refine mv_aldJ C rfl rfl rfl (by omega) (hA _ _) ?_
                  refine mv_aload_n C rfl rfl ?_
                  refine mv_getR C rfl rfl rfl ?_
                  refine mv_iload C rfl rfl ?_
                  refine mv_aldJ C rfl rfl rfl (by omega) (hH _ _) ?_
                  refine mv_cV C rfl R2 (by decide) rfl rfl rfl (Nat.le_of_ble_eq_true rfl) (Nat.le_refl _) (Nat.le_refl _) rfl ?_
                  refine mv_ior C rfl ?_
                  refine mv_top (b_or01 _ _) ?_
                  refine mv_is_n3 C rfl rfl ?_
                  refine mv_inc5 C rfl rfl ?_
                  refine mv_goto C rfl ?_
                  simp only [nI_1]
                  rw [Bool.or_assoc]
                  exact nx
            · rw [if_neg h6] at h1
              rw [if_neg h6, if_neg h6] at h2
              have nx := jh (i + 1) e1 b1 (by omega) h1 h2 (fun p => by have := h3 p; omega)
              have h61 : u 6 i = 1 := by omega
              refine mv_iload C rfl rfl ?_
              refine mv_aload_n C rfl rfl ?_
              refine mv_getJ C rfl rfl rfl (hrf _) ?_
              refine mv_icmp_ge C rfl (fun c59 => ?_) (fun c59 => ?_)
              · exact absurd c59 (nI_ge (by omega) (by omega))
              · refine mv_aload_n C rfl rfl ?_
                refine mv_getR C rfl rfl rfl ?_
                refine mv_iload C rfl rfl ?_
                refine mv_zldJ C rfl rfl rfl (by omega) (hS _ _) ?_
                refine mv_if_ne C rfl (fun c69 => ?_) (fun c69 => ?_)
                · refine mv_inc5 C rfl rfl ?_
                  refine mv_goto C rfl ?_
                  simp only [nI_1]
                  exact nx
                · exact absurd c69 (by rw [h61]; decide)
        have i0 := inner (u 2 0) 0 e false (by omega) rfl rfl (fun p => by have := hle p; omega)
        refine mv_iload C rfl rfl ?_
        refine mv_aload_n C rfl rfl ?_
        refine mv_getJ C rfl rfl rfl (hnf _) ?_
        refine mv_icmp_ge C rfl (fun c41 => ?_) (fun c41 => ?_)
        · exact absurd c41 (nI_ge (by omega) (by omega))
        · refine mv_iload_n C rfl rfl ?_
          refine mv_if_eq C rfl (fun c45 => ?_) (fun c45 => ?_)
          · exact absurd c45 (by decide)
          · refine mv_iconst C rfl ?_
            refine mv_is_n3 C rfl rfl ?_
            refine mv_iconst C rfl ?_
            refine mv_is5 C rfl rfl ?_
            exact i0
  have o0 := outer (u 0 0) 0 (updN (fun _ => 0) a 1) true none (by omega) (fun q => by cases q) rfl (fun p => by simp only [updN]; split <;> omega)
  have mid : ∀ w3 : Option Value, V 23 [some (.ref 3), some (.int (nI a)), some (.int (nI b)), w3, none, none] [] (mv_E (mv_w z 5 (g5 z (u 0 0) (fun _ => 0)))) := by
    intro w3
    refine mv_aload_n C rfl rfl ?_
    refine mv_getR C rfl rfl rfl ?_
    refine mv_iload_n C rfl rfl ?_
    refine mv_iconst C rfl ?_
    refine mv_ast C rfl rfl rfl (by omega) ?_
    refine mv_sto (z1 := mv_w z 5 (g5 z (u 0 0) (updN (fun _ => 0) a 1))) (by rw [mv_uw, ← g5_upd _ _ _ _ _ ha]; rfl) ?_
    refine mv_iconst C rfl ?_
    refine mv_is_n3 C rfl rfl ?_
    refine mv_iconst C rfl ?_
    refine mv_is4 C rfl rfl ?_
    exact o0
  have init : ∀ (k i : Nat), i + k = u 0 0 → V 2 [some (.ref 3), some (.int (nI a)), some (.int (nI b)), some (.int (nI i)), none, none] [] (mv_E (mv_w z 5 (g5 z i (fun _ => 0)))) := by
    intro k
    induction k with
    | zero =>
      intro i hi2
      obtain rfl : i = u 0 0 := by omega
      refine mv_iload_n C rfl rfl ?_
      refine mv_aload_n C rfl rfl ?_
      refine mv_getJ C rfl rfl rfl (hnf _) ?_
      refine mv_icmp_ge C rfl (fun c7 => ?_) (fun c7 => ?_)
      · exact mid _
      · exact absurd (nI_le (by omega) (by omega)) c7
    | succ k ih =>
      intro i hi2
      have e := ih (i + 1) (by omega)
      rw [← g5_init, ← mv_uw] at e
      refine mv_iload_n C rfl rfl ?_
      refine mv_aload_n C rfl rfl ?_
      refine mv_getJ C rfl rfl rfl (hnf _) ?_
      refine mv_icmp_ge C rfl (fun c7 => ?_) (fun c7 => ?_)
      · exact absurd c7 (nI_ge (by omega) (by omega))
      · refine mv_aload_n C rfl rfl ?_
        refine mv_getR C rfl rfl rfl ?_
        refine mv_iload_n C rfl rfl ?_
        refine mv_iconst C rfl ?_
        refine mv_ast C rfl rfl rfl (by omega) ?_
        refine mv_inc3 C rfl rfl ?_
        refine mv_goto C rfl ?_
        simp only [nI_1]
        exact e
  have z0 : mv_w z 5 (g5 z 0 (fun _ => 0)) = z := by rw [show g5 z 0 (fun _ => 0) = z.1 5 by (funext p; simp [g5]), mv_w_self]
  have l0 := init (u 0 0) 0 (by omega)
  rw [z0] at l0
  refine mv_iconst C rfl ?_
  refine mv_is_n3 C rfl rfl ?_
  exact l0
def a_far (u : hM) (a b : Int32) : Int32 := if (0 ≤ a ∧ a < nI (u 0 0)) ∧ (0 ≤ b ∧ b < nI (u 0 0)) then hst (hfar u a.toNatClampNeg b.toNatClampNeg) else -1
theorem x_far (u : hM) (z : mv_Z) (a b : Int32) (hi : hI u) (hz : rX u z) : xR 78 [.int a, .int b] u z (.int (a_far u a b)) u := by
  have hn := rX_s hz 3 6 0 (by decide)
  have h24 := hi.1
  have Ra := r_hasParish z a
  have Rb := r_hasParish z b
  rw [hn] at Ra Rb
  unfold a_far
  by_cases hc : (0 ≤ a ∧ a < nI (u 0 0)) ∧ (0 ≤ b ∧ b < nI (u 0 0))
  · rw [if_pos hc]
    rw [if_pos hc.1] at Ra
    rw [if_pos hc.2] at Rb
    have ea := nI_rngc hc.1.1 hc.1.2 (by omega)
    have eb := nI_rngc hc.2.1 hc.2.2 (by omega)
    generalize a.toNatClampNeg = ka at *
    generalize b.toNatClampNeg = kb at *
    obtain ⟨la, rfl⟩ := ea
    obtain ⟨lb, rfl⟩ := eb
    have R := r_shortest z u ka kb la lb hi hz
    refine ⟨_, mv_up (d := 3) (S1 := mv_E (mv_w z 5 (g5 z (u 0 0) (hfar u ka)))) ?_ rfl, rX_freew hz 5 _ (by decide), fX_w fX_rf (by decide)⟩
    refine mv_start pX10_far (some .int) [some (.ref 0), some (.int (nI ka)), some (.int (nI kb))] rfl rfl rfl rfl (fun V C => ?_)
    refine mv_aload_n C rfl rfl ?_
    refine mv_getR C rfl rfl rfl ?_
    refine mv_iload_n C rfl rfl ?_
    refine mv_cV C rfl (mv_up Ra rfl) (by decide) rfl rfl rfl (Nat.le_of_ble_eq_true rfl) (Nat.le_refl _) (Nat.le_refl _) rfl ?_
    refine mv_if_eq C rfl (fun c8 => ?_) (fun c8 => ?_)
    · exact absurd c8 (by decide)
    · refine mv_aload_n C rfl rfl ?_
      refine mv_getR C rfl rfl rfl ?_
      refine mv_iload_n C rfl rfl ?_
      refine mv_cV C rfl (mv_up Rb rfl) (by decide) rfl rfl rfl (Nat.le_of_ble_eq_true rfl) (Nat.le_refl _) (Nat.le_refl _) rfl ?_
      refine mv_if_ne C rfl (fun c19 => ?_) (fun c19 => ?_)
      · refine mv_aload_n C rfl rfl ?_
        refine mv_getR C rfl rfl rfl ?_
        refine mv_iload_n C rfl rfl ?_
        refine mv_iload_n C rfl rfl ?_
        refine mv_cV C rfl R (by decide) rfl rfl rfl (Nat.le_of_ble_eq_true rfl) (Nat.le_refl _) (Nat.le_refl _) rfl ?_
        refine mv_ireturn C rfl mv_okI ?_ ?_
        all_goals rfl
      · exact absurd c19 (by decide)
  · rw [if_neg hc]
    refine ⟨_, mv_up (d := 3) (S1 := mv_E z) ?_ rfl, hz, fX_rf⟩
    refine mv_start pX10_far (some .int) [some (.ref 0), some (.int a), some (.int b)] rfl rfl rfl rfl (fun V C => ?_)
    refine mv_aload_n C rfl rfl ?_
    refine mv_getR C rfl rfl rfl ?_
    refine mv_iload_n C rfl rfl ?_
    refine mv_cV C rfl (mv_up Ra rfl) (by decide) rfl rfl rfl (Nat.le_of_ble_eq_true rfl) (Nat.le_refl _) (Nat.le_refl _) rfl ?_
    refine mv_if_eq C rfl (fun c8 => ?_) (fun c8 => ?_)
    · try simp only [b01, b10, Classical.not_not] at c8
      try simp (disch := omega) only [lit_0, lit_1, lit_2, lit_3, lit_4, lit_5, lit_6, lit_7, lit_8, lit_9, lit_10, lit_11, lit_12, lit_23, lit_24, lit_30, lit_31, lit_32, lit_39, lit_40, lit_41, lit_46, lit_47, lit_48, lit_96, lit_99, lit_100, lit_255, lit_999, lit_1000, lit_2024, lit_32767, lit_1000000, nI_ltI, nI_leI, nI_eq, Nat.not_lt, Nat.not_le] at c8
      try simp only [unl_0, unl_1, unl_2, unl_3, unl_4, unl_5, unl_6, unl_7, unl_8, unl_9, unl_10, unl_11, unl_12, unl_23, unl_24, unl_30, unl_31, unl_32, unl_39, unl_40, unl_41, unl_46, unl_47, unl_48, unl_96, unl_99, unl_100, unl_255, unl_999, unl_1000, unl_2024, unl_32767, unl_1000000] at c8
      refine mv_iconst C rfl ?_
      refine mv_ireturn C rfl mv_okI ?_ ?_
      all_goals rfl
    · try simp only [b01, b10, Classical.not_not] at c8
      try simp (disch := omega) only [lit_0, lit_1, lit_2, lit_3, lit_4, lit_5, lit_6, lit_7, lit_8, lit_9, lit_10, lit_11, lit_12, lit_23, lit_24, lit_30, lit_31, lit_32, lit_39, lit_40, lit_41, lit_46, lit_47, lit_48, lit_96, lit_99, lit_100, lit_255, lit_999, lit_1000, lit_2024, lit_32767, lit_1000000, nI_ltI, nI_leI, nI_eq, Nat.not_lt, Nat.not_le] at c8
      try simp only [unl_0, unl_1, unl_2, unl_3, unl_4, unl_5, unl_6, unl_7, unl_8, unl_9, unl_10, unl_11, unl_12, unl_23, unl_24, unl_30, unl_31, unl_32, unl_39, unl_40, unl_41, unl_46, unl_47, unl_48, unl_96, unl_99, unl_100, unl_255, unl_999, unl_1000, unl_2024, unl_32767, unl_1000000] at c8
      refine mv_aload_n C rfl rfl ?_
      refine mv_getR C rfl rfl rfl ?_
      refine mv_iload_n C rfl rfl ?_
      refine mv_cV C rfl (mv_up Rb rfl) (by decide) rfl rfl rfl (Nat.le_of_ble_eq_true rfl) (Nat.le_refl _) (Nat.le_refl _) rfl ?_
      refine mv_if_ne C rfl (fun c19 => ?_) (fun c19 => ?_)
      · exact absurd ⟨c8, b10.mp c19⟩ hc
      · try simp only [b01, b10, Classical.not_not] at c19
        try simp (disch := omega) only [lit_0, lit_1, lit_2, lit_3, lit_4, lit_5, lit_6, lit_7, lit_8, lit_9, lit_10, lit_11, lit_12, lit_23, lit_24, lit_30, lit_31, lit_32, lit_39, lit_40, lit_41, lit_46, lit_47, lit_48, lit_96, lit_99, lit_100, lit_255, lit_999, lit_1000, lit_2024, lit_32767, lit_1000000, nI_ltI, nI_leI, nI_eq, Nat.not_lt, Nat.not_le] at c19
        try simp only [unl_0, unl_1, unl_2, unl_3, unl_4, unl_5, unl_6, unl_7, unl_8, unl_9, unl_10, unl_11, unl_12, unl_23, unl_24, unl_30, unl_31, unl_32, unl_39, unl_40, unl_41, unl_46, unl_47, unl_48, unl_96, unl_99, unl_100, unl_255, unl_999, unl_1000, unl_2024, unl_32767, unl_1000000] at c19
        refine mv_iconst C rfl ?_
        refine mv_ireturn C rfl mv_okI ?_ ?_
        all_goals rfl
end

