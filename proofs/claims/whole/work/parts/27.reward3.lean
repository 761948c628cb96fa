section
theorem l_part {R W a : Nat} (h : R * W < 2 ^ 31) (hR : R < 2 ^ 31) (hW : W < 2 ^ 31) (h0 : 0 < a) (ha : a < 2 ^ 31) : ((nI R).toInt64 * (nI W).toInt64 / (nI a).toInt64).toInt32 = nI (R * W / a) := by
  rw [nI_l hR, nI_l hW, nI_l ha, lN_mul, pk_lDiv (by omega) h0 (by omega), lN_i]
theorem m_reward (u : hM) (z : mv_Z) (R : Int32) (hi : hI u) (hz : rM u z) : mR 167 [.int R] u z (.int (a_reward u R)) (o_reward u R) := by
  have h0 := rM_free hz 68 0 0 (Or.inr ⟨rfl, by decide⟩)
  have hh := rMh_of h0
  have hc := rM_s h0 36 27 (by decide)
  have h12 : u 27 0 ≤ 12 := hi.2.2.2.2.2.2.2.2.2.2.2.2.2.2.2.2.2.2.1
  have hal := hsum_w u hi (u 27 0) h12
  have hw9 := hwt_le u hi
  have R0 := r_inI (mv_u z 68 0 0) R 1 1000000 (1 ≤ R ∧ R ≤ 1000000) (by rw [i32_le, i32_le, i32_1, i32_1000000, l64_1, l64_mio])
  unfold a_reward o_reward
  by_cases hcc : 1 ≤ R ∧ R ≤ 1000000
  · rw [if_pos hcc] at R0 ⊢
    rw [if_pos hcc]
    obtain ⟨r, hr, rfl⟩ := nI_rng (x := R) (n := 1000001) (i32_1le hcc.1) (by have := hcc.2; rw [i32_le, i32_1000000] at this; rw [i32_lt, nI_toInt (by decide)]; omega) (by decide)
    have h1 : 1 ≤ r := (nI_leI (a := 1) (by decide) (by omega)).mp hcc.1
    rw [nI_clamp (by omega)]
    have hpl := fun k hk => hpart_le r (hwt u) (u 27 0) k hk
    generalize hz1 : mv_u (mv_u z 68 0 0) 68 18 (nI (u 27 0)) = z1
    have hh1 : ∀ f, rMh u (mv_w z1 82 f) := fun f => by rw [← hz1]; exact rMh_w hh _ f
    have hc1 : ∀ f, (mv_w z1 82 f).1 68 36 = nI (u 27 0) := fun f => by rw [← hz1, mv_w_ne (by decide), mv_u_sl (by decide)]; exact hc
    refine ⟨if hsum (hwt u) (u 27 0) = 0 then mv_w z1 82 (f67 z1 82 (fun c => hpart r (hsum (hwt u) (u 27 0)) (hwt u c)) (u 27 0)) else mv_w z1 82 (upd (f67 z1 82 (fun c => hpart r (hsum (hwt u) (u 27 0)) (hwt u c)) (u 27 0)) (hbest (hwt u) (u 27 0)) (nI (hpart r (hsum (hwt u) (u 27 0)) (hwt u (hbest (hwt u) (u 27 0))) + hrest u r))), mv_up (d := 4) ?_ rfl, ?_, ?_⟩
    · refine mv_start pX11_reward (some .int) [some (.ref 68), some (.int (nI r)), none, none, none, none] rfl rfl rfl rfl (fun V C => ?_)
      have fin : V 149 [some (.ref 68), some (.int (nI r)), some (.int (nI (hsum (hwt u) (u 27 0)))), some (.int (nI (hbest (hwt u) (u 27 0)))), some (.int (if hsum (hwt u) (u 27 0) = 0 then 0 else nI (r - hsum (fun c => hpart r (hsum (hwt u) (u 27 0)) (hwt u c)) (u 27 0)))), none] [] (mv_E (mv_w z1 82 (f67 z1 82 (fun c => hpart r (hsum (hwt u) (u 27 0)) (hwt u c)) (u 27 0)))) := by
        by_cases h0 : hsum (hwt u) (u 27 0) = 0
        · rw [if_pos h0] at C
          rw [if_pos h0] at C
          rw [if_pos h0]
          refine mv_iload_n C rfl rfl ?_
          refine mv_if_le C rfl (fun c150 => ?_) (fun c150 => ?_)
          · refine mv_iload_n C rfl rfl ?_
            refine mv_if_ne C rfl (fun c165 => ?_) (fun c165 => ?_)
            · exact absurd (by rw [h0]; rfl) c165
            · refine mv_iconst C rfl ?_
              refine mv_goto C rfl ?_
              refine mv_ireturn C rfl mv_okI ?_ ?_
              all_goals first | rfl | (rw [if_pos h0])
          · exact absurd (by rw [h0]; decide) c150
        · rw [if_neg h0] at C
          rw [if_neg h0] at C
          rw [if_neg h0]
          have hb : hbest (hwt u) (u 27 0) < u 27 0 := hbest_lt _ _ (by rcases Nat.eq_zero_or_pos (u 27 0) with q | q; (rw [q] at h0; exact absurd rfl h0); exact q)
          refine mv_iload_n C rfl rfl ?_
          refine mv_if_le C rfl (fun c150 => ?_) (fun c150 => ?_)
          · exact absurd c150 (nI_nle (by omega) (by omega))
          · refine mv_aload_n C rfl rfl ?_
            refine mv_getR C rfl rfl rfl ?_
            refine mv_iload_n C rfl rfl ?_
            refine mv_dup2 C rfl rfl rfl ?_
            refine mv_aldJ C rfl rfl rfl (by omega) (show _ = nI (hpart r (hsum (hwt u) (u 27 0)) (hwt u (hbest (hwt u) (u 27 0)))) by (rw [mv_w_get]; simp [f67, hb])) ?_
            refine mv_iload C rfl rfl ?_
            refine mv_iadd C rfl ?_
            refine mv_top (nI_add _ _) ?_
            refine mv_ast C rfl rfl rfl (by omega) ?_
            refine mv_sto mv_uw ?_
            refine mv_iload_n C rfl rfl ?_
            refine mv_if_ne C rfl (fun c165 => ?_) (fun c165 => ?_)
            · refine mv_iload_n C rfl rfl ?_
              refine mv_ireturn C rfl mv_okI ?_ ?_
              all_goals first | rfl | (rw [if_neg h0]) | (rw [if_neg h0]; rfl)
            · exact absurd ((nI_eq (b := 0) (by omega) (by decide)).mp c165) h0
      have loop2 : ∀ (k i : Nat), i + k = u 27 0 → V 93 [some (.ref 68), some (.int (nI r)), some (.int (nI (hsum (hwt u) (u 27 0)))), some (.int (nI (hbest (hwt u) (u 27 0)))), some (.int (if hsum (hwt u) (u 27 0) = 0 then 0 else nI (r - hsum (fun c => hpart r (hsum (hwt u) (u 27 0)) (hwt u c)) i))), some (.int (nI i))] [] (mv_E (mv_w z1 82 (f67 z1 82 (fun c => hpart r (hsum (hwt u) (u 27 0)) (hwt u c)) i))) := by
        intro k
        induction k with
        | zero =>
          intro i hi2
          obtain rfl : i = u 27 0 := by omega
          refine mv_iload C rfl rfl ?_
          refine mv_aload_n C rfl rfl ?_
          refine mv_getJ C rfl rfl rfl (hc1 _) ?_
          refine mv_icmp_ge C rfl (fun c99 => ?_) (fun c99 => ?_)
          · exact mv_forget C _ (mv_le_c (mv_le_c (mv_le_c (mv_le_c (mv_le_c (mv_le_n (mv_le_rf _))))))) fin
          · exact absurd (nI_le (by omega) (by omega)) c99
        | succ k ih =>
          intro i hi2
          have e := ih (i + 1) (by omega)
          rw [← f67_step, ← mv_uw] at e
          have hle := hpl (i + 1) (by omega)
          have hw := hw9 i
          simp only [hsum] at e hle
          have hRW : r * hwt u i ≤ 1000000 * 999 := Nat.mul_le_mul (by omega) hw
          have R1 := r_weightOf _ u i (by omega) hi (hh1 (f67 z1 82 (fun c => hpart r (hsum (hwt u) (u 27 0)) (hwt u c)) i))
          have st : ∀ x : Int32, x = nI (hpart r (hsum (hwt u) (u 27 0)) (hwt u i)) → V 130 [some (.ref 68), some (.int (nI r)), some (.int (nI (hsum (hwt u) (u 27 0)))), some (.int (nI (hbest (hwt u) (u 27 0)))), some (.int (if hsum (hwt u) (u 27 0) = 0 then 0 else nI (r - hsum (fun c => hpart r (hsum (hwt u) (u 27 0)) (hwt u c)) i))), some (.int (nI i))] [.int x, .int (nI i), .ref 82] (mv_E (mv_w z1 82 (f67 z1 82 (fun c => hpart r (hsum (hwt u) (u 27 0)) (hwt u c)) i))) := by
            intro x hx
            subst hx
            have es : (if hsum (hwt u) (u 27 0) = 0 then 0 else nI (r - hsum (fun c => hpart r (hsum (hwt u) (u 27 0)) (hwt u c)) i)) - nI (hpart r (hsum (hwt u) (u 27 0)) (hwt u i)) = (if hsum (hwt u) (u 27 0) = 0 then 0 else nI (r - (hsum (fun c => hpart r (hsum (hwt u) (u 27 0)) (hwt u c)) i + hpart r (hsum (hwt u) (u 27 0)) (hwt u i)))) := by
              by_cases h0 : hsum (hwt u) (u 27 0) = 0
              · rw [if_pos h0, if_pos h0]; unfold hpart; rw [if_pos h0]; rfl
              · rw [if_neg h0, if_neg h0, pk_sub (by omega)]; congr 1; omega
            refine mv_ast C rfl rfl rfl (by omega) ?_
            refine mv_iload C rfl rfl ?_
            refine mv_aload_n C rfl rfl ?_
            refine mv_getR C rfl rfl rfl ?_
            refine mv_iload C rfl rfl ?_
            refine mv_aldJ C rfl rfl rfl (by omega) mv_u_eq ?_
            refine mv_isub C rfl ?_
            refine mv_top es ?_
            refine mv_is4 C rfl rfl ?_
            refine mv_inc5 C rfl rfl ?_
            refine mv_goto C rfl ?_
            simp only [nI_1]
            exact e
          by_cases h0 : hsum (hwt u) (u 27 0) = 0
          · refine mv_iload C rfl rfl ?_
            refine mv_aload_n C rfl rfl ?_
            refine mv_getJ C rfl rfl rfl (hc1 _) ?_
            refine mv_icmp_ge C rfl (fun c99 => ?_) (fun c99 => ?_)
            · exact absurd c99 (nI_ge (by omega) (by omega))
            · refine mv_aload_n C rfl rfl ?_
              refine mv_getR C rfl rfl rfl ?_
              refine mv_iload C rfl rfl ?_
              refine mv_iload_n C rfl rfl ?_
              refine mv_if_ne C rfl (fun c109 => ?_) (fun c109 => ?_)
              · exact absurd (by rw [h0]; rfl) c109
              · refine mv_iconst C rfl ?_
                refine mv_goto C rfl ?_
                refine st _ ?_
                (unfold hpart; rw [if_pos h0]; rfl)
          · refine mv_iload C rfl rfl ?_
            refine mv_aload_n C rfl rfl ?_
            refine mv_getJ C rfl rfl rfl (hc1 _) ?_
            refine mv_icmp_ge C rfl (fun c99 => ?_) (fun c99 => ?_)
            · exact absurd c99 (nI_ge (by omega) (by omega))
            · refine mv_aload_n C rfl rfl ?_
              refine mv_getR C rfl rfl rfl ?_
              refine mv_iload C rfl rfl ?_
              refine mv_iload_n C rfl rfl ?_
              refine mv_if_ne C rfl (fun c109 => ?_) (fun c109 => ?_)
              · refine mv_iload_n C rfl rfl ?_
                refine mv_i2l C rfl ?_
                refine mv_aload_n C rfl rfl ?_
                refine mv_iload C rfl rfl ?_
                refine mv_cV C rfl (mv_up R1 rfl) (by decide) rfl rfl rfl (Nat.le_of_ble_eq_true rfl) (Nat.le_refl _) (Nat.le_refl _) rfl ?_
                refine mv_i2l C rfl ?_
                refine mv_lmul C rfl ?_
                refine mv_iload_n C rfl rfl ?_
                refine mv_i2l C rfl ?_
                refine mv_ldiv C rfl (by (rw [nI_l (by omega)]; exact fun q => h0 ((lN_eq (b := 0) (by omega) (by decide)).mp q))) ?_
                refine mv_l2i C rfl ?_
                refine st _ ?_
                (unfold hpart; rw [if_neg h0]; exact l_part (by omega) (by omega) (by omega) (by omega) (by omega))
              · exact absurd ((nI_eq (b := 0) (by omega) (by decide)).mp c109) h0
      have fin1 : V 71 [some (.ref 68), some (.int (nI r)), some (.int (nI (hsum (hwt u) (u 27 0)))), some (.int (nI (hbest (hwt u) (u 27 0)))), none, none] [] (mv_E (mv_u z 68 0 0)) := by
        have l2 := loop2 (u 27 0) 0 (by omega)
        rw [f67_0, mv_w_self] at l2
        have go : ∀ x : Int32, x = (if hsum (hwt u) (u 27 0) = 0 then 0 else nI r) → V 80 [some (.ref 68), some (.int (nI r)), some (.int (nI (hsum (hwt u) (u 27 0)))), some (.int (nI (hbest (hwt u) (u 27 0)))), none, none] [.int x] (mv_E (mv_u z 68 0 0)) := by
          intro x hx
          subst hx
          refine mv_is4 C rfl rfl ?_
          refine mv_aload_n C rfl rfl ?_
          refine mv_aload_n C rfl rfl ?_
          refine mv_getJ C rfl rfl rfl hc ?_
          refine mv_putI C rfl rfl rfl rfl ?_
          refine mv_sto hz1 ?_
          refine mv_iconst C rfl ?_
          refine mv_is5 C rfl rfl ?_
          exact l2
        by_cases h0 : hsum (hwt u) (u 27 0) = 0
        · refine mv_iload_n C rfl rfl ?_
          refine mv_if_ne C rfl (fun c72 => ?_) (fun c72 => ?_)
          · exact absurd (by rw [h0]; rfl) c72
          · refine mv_iconst C rfl ?_
            refine mv_goto C rfl ?_
            exact go _ (by rw [if_pos h0])
        · refine mv_iload_n C rfl rfl ?_
          refine mv_if_ne C rfl (fun c72 => ?_) (fun c72 => ?_)
          · refine mv_iload_n C rfl rfl ?_
            exact go _ (by rw [if_neg h0])
          · exact absurd ((nI_eq (b := 0) (by omega) (by decide)).mp c72) h0
      have loop1 : ∀ (k i : Nat), i + k = u 27 0 → V 26 [some (.ref 68), some (.int (nI r)), some (.int (nI (hsum (hwt u) i))), some (.int (nI (hbest (hwt u) i))), some (.int (nI i)), none] [] (mv_E (mv_u z 68 0 0)) := by
        intro k
        induction k with
        | zero =>
          intro i hi2
          obtain rfl : i = u 27 0 := by omega
          refine mv_iload C rfl rfl ?_
          refine mv_aload_n C rfl rfl ?_
          refine mv_getJ C rfl rfl rfl hc ?_
          refine mv_icmp_ge C rfl (fun c32 => ?_) (fun c32 => ?_)
          · exact mv_forget C _ (mv_le_c (mv_le_c (mv_le_c (mv_le_c (mv_le_n (mv_le_c (mv_le_rf _))))))) fin1
          · exact absurd (nI_le (by omega) (by omega)) c32
        | succ k ih =>
          intro i hi2
          have e := ih (i + 1) (by omega)
          simp only [hsum, hbest] at e
          have R1 := r_weightOf _ u i (by omega) hi hh
          have hbl : hbest (hwt u) i < u 27 0 := by have := hbest_le (hwt u) i; omega
          have R2 := r_weightOf _ u (hbest (hwt u) i) hbl hi hh
          have hw := hw9 i
          have hwb := hw9 (hbest (hwt u) i)
          have hs1 := hsum_w u hi i (by omega)
          have st : ∀ x : Int32, x = nI (if hwt u (hbest (hwt u) i) < hwt u i then i else hbest (hwt u) i) → V 64 [some (.ref 68), some (.int (nI r)), some (.int (nI (hsum (hwt u) i + hwt u i))), some (.int (nI (hbest (hwt u) i))), some (.int (nI i)), none] [.int x] (mv_E (mv_u z 68 0 0)) := by
            intro x hx
            subst hx
            refine mv_is_n3 C rfl rfl ?_
            refine mv_inc4 C rfl rfl ?_
            refine mv_goto C rfl ?_
            simp only [nI_1]
            exact e
          refine mv_iload C rfl rfl ?_
          refine mv_aload_n C rfl rfl ?_
          refine mv_getJ C rfl rfl rfl hc ?_
          refine mv_icmp_ge C rfl (fun c32 => ?_) (fun c32 => ?_)
          · exact absurd c32 (nI_ge (by omega) (by omega))
          · refine mv_iload_n C rfl rfl ?_
            refine mv_aload_n C rfl rfl ?_
            refine mv_iload C rfl rfl ?_
            refine mv_cV C rfl (mv_up R1 rfl) (by decide) rfl rfl rfl (Nat.le_of_ble_eq_true rfl) (Nat.le_refl _) (Nat.le_refl _) rfl ?_
            refine mv_iadd C rfl ?_
            refine mv_top (nI_add _ _) ?_
            refine mv_is_n2 C rfl rfl ?_
            refine mv_aload_n C rfl rfl ?_
            refine mv_iload C rfl rfl ?_
            refine mv_cV C rfl (mv_up R1 rfl) (by decide) rfl rfl rfl (Nat.le_of_ble_eq_true rfl) (Nat.le_refl _) (Nat.le_refl _) rfl ?_
            refine mv_aload_n C rfl rfl ?_
            refine mv_iload_n C rfl rfl ?_
            refine mv_cV C rfl (mv_up R2 rfl) (by decide) rfl rfl rfl (Nat.le_of_ble_eq_true rfl) (Nat.le_refl _) (Nat.le_refl _) rfl ?_
            refine mv_icmp_le C rfl (fun c55 => ?_) (fun c55 => ?_)
            · rw [nI_leI (by omega) (by omega)] at c55
              refine mv_iload_n C rfl rfl ?_
              refine st _ ?_
              first | (rw [if_neg (by omega)]) | (rw [if_pos (by omega)])
            · rw [nI_leI (by omega) (by omega)] at c55
              refine mv_iload C rfl rfl ?_
              refine mv_goto C rfl ?_
              refine st _ ?_
              first | (rw [if_neg (by omega)]) | (rw [if_pos (by omega)])
      refine mv_aload_n C rfl rfl ?_
      refine mv_iconst C rfl ?_
      refine mv_putI C rfl rfl rfl rfl ?_
      refine mv_iload_n C rfl rfl ?_
      refine mv_i2l C rfl ?_
      refine mv_lconst C rfl ?_
      refine mv_ldc2_w C rfl ?_
      refine mv_cS C rfl (mv_up R0 rfl) (by decide) rfl (Nat.le_of_ble_eq_true rfl) (Nat.le_refl _) (Nat.le_refl _) rfl ?_
      refine mv_if_ne C rfl (fun c14 => ?_) (fun c14 => ?_)
      · refine mv_iconst C rfl ?_
        refine mv_is_n2 C rfl rfl ?_
        refine mv_iconst C rfl ?_
        refine mv_is_n3 C rfl rfl ?_
        refine mv_iconst C rfl ?_
        refine mv_is4 C rfl rfl ?_
        exact loop1 (u 27 0) 0 (by omega)
      · exact absurd c14 (by decide)
    · by_cases h00 : hsum (hwt u) (u 27 0) = 0
      · rw [if_pos h00, ← hz1, mv_wu (by decide)]
        refine rM_row h0 _ _ _ (fun i hi2 => ?_)
        simp only [f67, hi2, if_true, hrow, hpart, h00, ne_eq, not_true, and_false, if_false]
      · rw [if_neg h00, ← hz1, mv_wu (by decide)]
        refine rM_row h0 _ _ _ (fun i hi2 => ?_)
        unfold hrow
        rw [if_pos ⟨hi2, h00⟩]
        by_cases q : i = hbest (hwt u) (u 27 0)
        · rw [if_pos q, q]; simp [upd]
        · rw [if_neg q]; simp [upd, q, f67, hi2]
    · rw [← hz1]; split <;> exact fM_w (fM_u (fM_u fM_rf (by decide)) (by decide)) (by decide)
  · rw [if_neg hcc] at R0 ⊢
    rw [if_neg hcc]
    refine ⟨_, mv_up (d := 4) (S1 := mv_E (mv_u z 68 0 0)) ?_ rfl, h0, fM_u fM_rf (by decide)⟩
    refine mv_start pX11_reward (some .int) [some (.ref 68), some (.int R), none, none, none, none] rfl rfl rfl rfl (fun V C => ?_)
    refine mv_aload_n C rfl rfl ?_
    refine mv_iconst C rfl ?_
    refine mv_putI C rfl rfl rfl rfl ?_
    refine mv_iload_n C rfl rfl ?_
    refine mv_i2l C rfl ?_
    refine mv_lconst C rfl ?_
    refine mv_ldc2_w C rfl ?_
    refine mv_cS C rfl (mv_up R0 rfl) (by decide) rfl (Nat.le_of_ble_eq_true rfl) (Nat.le_refl _) (Nat.le_refl _) rfl ?_
    refine mv_if_ne C rfl (fun c14 => ?_) (fun c14 => ?_)
    · exact absurd rfl c14
    · refine mv_iconst C rfl ?_
      refine mv_ireturn C rfl mv_okI ?_ ?_
      all_goals rfl
end

