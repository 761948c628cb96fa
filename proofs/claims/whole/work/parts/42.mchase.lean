section
theorem kB_R {u : hM} {A : Nat → Bool} (hi : hI u) : kR (kB A u 48) u (kbw (fun _ => false) 48 0) = kR A u kW := by
  funext t p
  rw [show kbw (fun _ => false) 48 0 = kW from by funext a b; simp [kbw, kW]]
  apply kR_A (t + 1) t p (by omega)
  intro f hf _
  have := (hi.2.2.2.2.2.2.2.2.1 f hf).2.1
  simp only [kB]; rw [decide_eq_true (by omega), Bool.and_true]
theorem r_walks0 (z : mv_Z) (u : hM) (A : Nat → Bool) (m g : Nat → Int32) (hi : hI u) (hz : mH u A z) : mv_Runs 4 134 [.ref 68, .int 48, .int 0, .int 0] (mv_E (ky z m g)) none (mv_E (ky z (kmt m (u 0 0) (kR A u kW) 48 0) g)) := by
  have R := r_walks z u A (fun _ => false) m g 48 0 (by decide) (by decide) hi hz
  rw [kB_R hi, ← kb_0] at R
  exact R
theorem kR_lt {u : hM} {A : Nat → Bool} {W : Nat → Nat → Bool} (hi : hI u) : ∀ (n t p : Nat), t < n → kR A u W t p = true → p < u 0 0
  | 0, _, _, h, _ => absurd h (by omega)
  | n + 1, t, p, h, hk => by
    rw [kR_eq] at hk
    unfold kst at hk
    simp only [Bool.and_eq_true] at hk
    have hk1 := hk.1.1
    have h8 : u 8 0 ≤ u 0 0 := hi.2.2.2.2.2.2.1
    by_cases h0 : t = 0
    · rw [if_pos h0] at hk1
      have := of_decide_eq_true hk1
      omega
    · rw [if_neg h0, Bool.or_eq_true] at hk1
      rcases hk1 with q | q
      · exact kR_lt hi n (t - 1) p (by omega) q
      · obtain ⟨r, hr, q⟩ := kany_t.mp q
        obtain ⟨g1, g2, -⟩ := hi.2.2.2.1 r hr
        simp only [kcm, Bool.and_eq_true, Bool.or_eq_true, decide_eq_true_eq] at q
        rcases q.1.2 with q | q
        · omega
        · omega
theorem r_isAsked (z : mv_Z) (u : hM) (p t : Int32) (hi : hI u) (h1 : z.1 68 1 = nI (u 0 0)) (h9 : z.1 68 9 = hst (u 8 0)) : mv_Runs 3 137 [.ref 68, .int p, .int t] (mv_E z) (some (.int (if kask u p t then 1 else 0))) (mv_E z) := by
  have h24 := hi.1
  have h8 : u 8 0 ≤ u 0 0 := hi.2.2.2.2.2.2.1
  have R1 := r_mIsParish z p _ h1 h24
  have R2 := r_mIsHour z t
  have h90 : hst (u 8 0) < 0 ↔ u 8 0 = 0 := by
    rcases hs : u 8 0 with _ | s
    · simp only [hst]; decide
    · simp only [hst]; exact ⟨fun q => absurd q (nI_pos (by omega)), fun q => by omega⟩
  by_cases c1 : 0 ≤ p ∧ p < nI (u 0 0)
  · rw [if_pos c1] at R1
    by_cases c2 : 0 ≤ t ∧ t < 48
    · rw [if_pos c2] at R2
      by_cases c3 : u 8 0 = 0
      · rw [if_neg (fun q => q.2.2 c3)]
        refine mv_start pX11_isAsked (some .boolean) [some (.ref 68), some (.int p), some (.int t)] rfl rfl rfl rfl (fun V C => ?_)
        refine mv_aload_n C rfl rfl ?_
        refine mv_iload_n C rfl rfl ?_
        refine mv_cV C rfl R1 (by decide) rfl rfl rfl (Nat.le_of_ble_eq_true rfl) (Nat.le_refl _) (Nat.le_refl _) rfl ?_
        refine mv_if_eq C rfl (fun c5 => ?_) (fun c5 => ?_)
        · exact absurd c5 (by decide)
        · refine mv_iload_n C rfl rfl ?_
          refine mv_cS C rfl R2 (by decide) rfl (Nat.le_of_ble_eq_true rfl) (Nat.le_refl _) (Nat.le_refl _) rfl ?_
          refine mv_if_eq C rfl (fun c12 => ?_) (fun c12 => ?_)
          · exact absurd c12 (by decide)
          · refine mv_aload_n C rfl rfl ?_
            refine mv_getJ C rfl rfl rfl h9 ?_
            refine mv_if_lt C rfl (fun c19 => ?_) (fun c19 => ?_)
            · refine mv_iconst C rfl ?_
              refine mv_ireturn C rfl mv_okZ0 ?_ ?_
              all_goals rfl
            · exact absurd (h90.mpr c3) c19
      · rw [if_pos ⟨c1, c2, c3⟩]
        refine mv_start pX11_isAsked (some .boolean) [some (.ref 68), some (.int p), some (.int t)] rfl rfl rfl rfl (fun V C => ?_)
        refine mv_aload_n C rfl rfl ?_
        refine mv_iload_n C rfl rfl ?_
        refine mv_cV C rfl R1 (by decide) rfl rfl rfl (Nat.le_of_ble_eq_true rfl) (Nat.le_refl _) (Nat.le_refl _) rfl ?_
        refine mv_if_eq C rfl (fun c5 => ?_) (fun c5 => ?_)
        · exact absurd c5 (by decide)
        · refine mv_iload_n C rfl rfl ?_
          refine mv_cS C rfl R2 (by decide) rfl (Nat.le_of_ble_eq_true rfl) (Nat.le_refl _) (Nat.le_refl _) rfl ?_
          refine mv_if_eq C rfl (fun c12 => ?_) (fun c12 => ?_)
          · exact absurd c12 (by decide)
          · refine mv_aload_n C rfl rfl ?_
            refine mv_getJ C rfl rfl rfl h9 ?_
            refine mv_if_lt C rfl (fun c19 => ?_) (fun c19 => ?_)
            · exact absurd (h90.mp c19) c3
            · refine mv_iconst C rfl ?_
              refine mv_goto C rfl ?_
              refine mv_ireturn C rfl mv_okZ1 ?_ ?_
              all_goals rfl
    · rw [if_neg c2] at R2
      rw [if_neg (fun q => c2 q.2.1)]
      refine mv_start pX11_isAsked (some .boolean) [some (.ref 68), some (.int p), some (.int t)] rfl rfl rfl rfl (fun V C => ?_)
      refine mv_aload_n C rfl rfl ?_
      refine mv_iload_n C rfl rfl ?_
      refine mv_cV C rfl R1 (by decide) rfl rfl rfl (Nat.le_of_ble_eq_true rfl) (Nat.le_refl _) (Nat.le_refl _) rfl ?_
      refine mv_if_eq C rfl (fun c5 => ?_) (fun c5 => ?_)
      · exact absurd c5 (by decide)
      · refine mv_iload_n C rfl rfl ?_
        refine mv_cS C rfl R2 (by decide) rfl (Nat.le_of_ble_eq_true rfl) (Nat.le_refl _) (Nat.le_refl _) rfl ?_
        refine mv_if_eq C rfl (fun c12 => ?_) (fun c12 => ?_)
        · refine mv_iconst C rfl ?_
          refine mv_ireturn C rfl mv_okZ0 ?_ ?_
          all_goals rfl
        · exact absurd rfl c12
  · rw [if_neg c1] at R1
    rw [if_neg (fun q => c1 q.1)]
    refine mv_start pX11_isAsked (some .boolean) [some (.ref 68), some (.int p), some (.int t)] rfl rfl rfl rfl (fun V C => ?_)
    refine mv_aload_n C rfl rfl ?_
    refine mv_iload_n C rfl rfl ?_
    refine mv_cV C rfl R1 (by decide) rfl rfl rfl (Nat.le_of_ble_eq_true rfl) (Nat.le_refl _) (Nat.le_refl _) rfl ?_
    refine mv_if_eq C rfl (fun c5 => ?_) (fun c5 => ?_)
    · refine mv_iconst C rfl ?_
      refine mv_ireturn C rfl mv_okZ0 ?_ ?_
      all_goals rfl
    · exact absurd rfl c5
theorem m_may (u : hM) (z : mv_Z) (p t : Int32) (hi : hI u) (hz : rM u z) : mR 138 [.int p, .int t] u z (.int (a_may u p t)) u := by
  have h24 := hi.1
  have h0 := rM_free hz 68 0 0 (Or.inr ⟨rfl, by decide⟩)
  have f0 : fM z (mv_u z 68 0 0) := fM_u fM_rf (by decide)
  have hm0 := mH_of hi h0
  have R0 := r_isAsked (mv_u z 68 0 0) u p t hi hm0.1 hm0.2.2.2.1
  unfold a_may
  by_cases hc : kask u p t
  · rw [if_pos hc] at R0 ⊢
    obtain ⟨ep, et⟩ := kask_n hi hc
    generalize p.toNatClampNeg = kp at *
    generalize t.toNatClampNeg = kt at *
    obtain ⟨lp, rfl⟩ := ep
    obtain ⟨lt, rfl⟩ := et
    have hR := r_walks0 (mv_u z 68 0 0) u (kAll u) ((mv_u z 68 0 0).1 80) ((mv_u z 68 0 0).1 81) hi hm0
    rw [ky_self] at hR
    generalize hm : kmt ((mv_u z 68 0 0).1 80) (u 0 0) (kR (kAll u) u kW) 48 0 = m at *
    have R2 := r_cell (ky (mv_u z 68 0 0) m ((mv_u z 68 0 0).1 81)) kt kp
    have y1 : (ky (mv_u z 68 0 0) m ((mv_u z 68 0 0).1 81)).1 80 (kt * 24 + kp) = b1 (kMay u kt kp) := by rw [← hm]; exact kmt_i h24 lp (Or.inl lt)
    refine ⟨_, mv_up (d := 5) (S1 := mv_E (ky (mv_u z 68 0 0) m ((mv_u z 68 0 0).1 81))) ?_ rfl, ky_rM h0 _ _, ky_fM f0 _ _⟩
    cases hk : kMay u kt kp with
    | true =>
      rw [hk] at y1
      refine mv_start pX11_may (some .int) [some (.ref 68), some (.int (nI kp)), some (.int (nI kt))] rfl rfl rfl rfl (fun V C => ?_)
      refine mv_aload_n C rfl rfl ?_
      refine mv_iconst C rfl ?_
      refine mv_putI C rfl rfl rfl rfl ?_
      refine mv_aload_n C rfl rfl ?_
      refine mv_iload_n C rfl rfl ?_
      refine mv_iload_n C rfl rfl ?_
      refine mv_cV C rfl (mv_up R0 rfl) (by decide) rfl rfl rfl (Nat.le_of_ble_eq_true rfl) (Nat.le_refl _) (Nat.le_refl _) rfl ?_
      refine mv_if_ne C rfl (fun c11 => ?_) (fun c11 => ?_)
      · refine mv_aload_n C rfl rfl ?_
        refine mv_bipush C rfl ?_
        refine mv_iconst C rfl ?_
        refine mv_iconst C rfl ?_
        refine mv_cV C rfl hR (by decide) rfl rfl rfl (Nat.le_of_ble_eq_true rfl) (Nat.le_refl _) (Nat.le_refl _) rfl ?_
        refine mv_aload_n C rfl rfl ?_
        refine mv_getR C rfl rfl rfl ?_
        refine mv_iload_n C rfl rfl ?_
        refine mv_iload_n C rfl rfl ?_
        refine mv_cS C rfl (mv_up R2 rfl) (by decide) rfl (Nat.le_of_ble_eq_true rfl) (Nat.le_refl _) (Nat.le_refl _) rfl ?_
        refine mv_zldJ C rfl rfl rfl (by omega) y1 ?_
        refine mv_if_eq C rfl (fun c34 => ?_) (fun c34 => ?_)
        · exact absurd c34 (by decide)
        · refine mv_iconst C rfl ?_
          refine mv_goto C rfl ?_
          refine mv_ireturn C rfl mv_okI ?_ ?_
          all_goals rfl
      · exact absurd c11 (by decide)
    | false =>
      rw [hk] at y1
      refine mv_start pX11_may (some .int) [some (.ref 68), some (.int (nI kp)), some (.int (nI kt))] rfl rfl rfl rfl (fun V C => ?_)
      refine mv_aload_n C rfl rfl ?_
      refine mv_iconst C rfl ?_
      refine mv_putI C rfl rfl rfl rfl ?_
      refine mv_aload_n C rfl rfl ?_
      refine mv_iload_n C rfl rfl ?_
      refine mv_iload_n C rfl rfl ?_
      refine mv_cV C rfl (mv_up R0 rfl) (by decide) rfl rfl rfl (Nat.le_of_ble_eq_true rfl) (Nat.le_refl _) (Nat.le_refl _) rfl ?_
      refine mv_if_ne C rfl (fun c11 => ?_) (fun c11 => ?_)
      · refine mv_aload_n C rfl rfl ?_
        refine mv_bipush C rfl ?_
        refine mv_iconst C rfl ?_
        refine mv_iconst C rfl ?_
        refine mv_cV C rfl hR (by decide) rfl rfl rfl (Nat.le_of_ble_eq_true rfl) (Nat.le_refl _) (Nat.le_refl _) rfl ?_
        refine mv_aload_n C rfl rfl ?_
        refine mv_getR C rfl rfl rfl ?_
        refine mv_iload_n C rfl rfl ?_
        refine mv_iload_n C rfl rfl ?_
        refine mv_cS C rfl (mv_up R2 rfl) (by decide) rfl (Nat.le_of_ble_eq_true rfl) (Nat.le_refl _) (Nat.le_refl _) rfl ?_
        refine mv_zldJ C rfl rfl rfl (by omega) y1 ?_
        refine mv_if_eq C rfl (fun c34 => ?_) (fun c34 => ?_)
        · refine mv_iconst C rfl ?_
          refine mv_ireturn C rfl mv_okI ?_ ?_
          all_goals rfl
        · exact absurd rfl c34
      · exact absurd c11 (by decide)
  · rw [if_neg hc] at R0 ⊢
    refine ⟨_, mv_up (d := 5) (S1 := mv_E (mv_u z 68 0 0)) ?_ rfl, h0, f0⟩
    refine mv_start pX11_may (some .int) [some (.ref 68), some (.int p), some (.int t)] rfl rfl rfl rfl (fun V C => ?_)
    refine mv_aload_n C rfl rfl ?_
    refine mv_iconst C rfl ?_
    refine mv_putI C rfl rfl rfl rfl ?_
    refine mv_aload_n C rfl rfl ?_
    refine mv_iload_n C rfl rfl ?_
    refine mv_iload_n C rfl rfl ?_
    refine mv_cV C rfl (mv_up R0 rfl) (by decide) rfl rfl rfl (Nat.le_of_ble_eq_true rfl) (Nat.le_refl _) (Nat.le_refl _) rfl ?_
    refine mv_if_ne C rfl (fun c11 => ?_) (fun c11 => ?_)
    · exact absurd rfl c11
    · refine mv_iconst C rfl ?_
      refine mv_ireturn C rfl mv_okI ?_ ?_
      all_goals rfl
theorem m_was (u : hM) (z : mv_Z) (p t : Int32) (hi : hI u) (hz : rM u z) : mR 139 [.int p, .int t] u z (.int (a_was u p t)) u := by
  have h24 := hi.1
  have h0 := rM_free hz 68 0 0 (Or.inr ⟨rfl, by decide⟩)
  have f0 : fM z (mv_u z 68 0 0) := fM_u fM_rf (by decide)
  have hm0 := mH_of hi h0
  have R0 := r_isAsked (mv_u z 68 0 0) u p t hi hm0.1 hm0.2.2.2.1
  unfold a_was
  by_cases hc : kask u p t
  · rw [if_pos hc] at R0 ⊢
    obtain ⟨ep, et⟩ := kask_n hi hc
    generalize p.toNatClampNeg = kp at *
    generalize t.toNatClampNeg = kt at *
    obtain ⟨lp, rfl⟩ := ep
    obtain ⟨lt, rfl⟩ := et
    have hR := r_walks0 (mv_u z 68 0 0) u (kAll u) ((mv_u z 68 0 0).1 80) ((mv_u z 68 0 0).1 81) hi hm0
    rw [ky_self] at hR
    have hR2 := r_walksOn (mv_u z 68 0 0) u (kAll u) (kmt ((mv_u z 68 0 0).1 80) (u 0 0) (kR (kAll u) u kW) 48 0) ((mv_u z 68 0 0).1 81) hi hm0
    generalize hm : kmt ((mv_u z 68 0 0).1 80) (u 0 0) (kR (kAll u) u kW) 48 0 = m at *
    generalize hg : kmg ((mv_u z 68 0 0).1 81) (u 0 0) (kG (kAll u) u) 0 0 = g at *
    have R2 := r_cell (ky (mv_u z 68 0 0) m g) kt kp
    have y1 : (ky (mv_u z 68 0 0) m g).1 80 (kt * 24 + kp) = b1 (kMay u kt kp) := by rw [← hm]; exact kmt_i h24 lp (Or.inl lt)
    have y2 : (ky (mv_u z 68 0 0) m g).1 81 (kt * 24 + kp) = b1 (kG (kAll u) u kt kp) := by rw [← hg]; exact kmg_i h24 lp lt (by omega)
    refine ⟨_, mv_up (d := 5) (S1 := mv_E (ky (mv_u z 68 0 0) m g)) ?_ rfl, ky_rM h0 _ _, ky_fM f0 _ _⟩
    unfold kWas
    generalize kMay u kt kp = b at *
    generalize kG (kAll u) u kt kp = b2 at *
    cases b with
    | false =>
      refine mv_start pX11_was (some .int) [some (.ref 68), some (.int (nI kp)), some (.int (nI kt))] rfl rfl rfl rfl (fun V C => ?_)
      refine mv_aload_n C rfl rfl ?_
      refine mv_iconst C rfl ?_
      refine mv_putI C rfl rfl rfl rfl ?_
      refine mv_aload_n C rfl rfl ?_
      refine mv_iload_n C rfl rfl ?_
      refine mv_iload_n C rfl rfl ?_
      refine mv_cV C rfl (mv_up R0 rfl) (by decide) rfl rfl rfl (Nat.le_of_ble_eq_true rfl) (Nat.le_refl _) (Nat.le_refl _) rfl ?_
      refine mv_if_ne C rfl (fun c11 => ?_) (fun c11 => ?_)
      · refine mv_aload_n C rfl rfl ?_
        refine mv_bipush C rfl ?_
        refine mv_iconst C rfl ?_
        refine mv_iconst C rfl ?_
        refine mv_cV C rfl hR (by decide) rfl rfl rfl (Nat.le_of_ble_eq_true rfl) (Nat.le_refl _) (Nat.le_refl _) rfl ?_
        refine mv_aload_n C rfl rfl ?_
        refine mv_cV C rfl hR2 (by decide) rfl rfl rfl (Nat.le_of_ble_eq_true rfl) (Nat.le_refl _) (Nat.le_refl _) rfl ?_
        refine mv_aload_n C rfl rfl ?_
        refine mv_getR C rfl rfl rfl ?_
        refine mv_iload_n C rfl rfl ?_
        refine mv_iload_n C rfl rfl ?_
        refine mv_cS C rfl (mv_up R2 rfl) (by decide) rfl (Nat.le_of_ble_eq_true rfl) (Nat.le_refl _) (Nat.le_refl _) rfl ?_
        refine mv_zldJ C rfl rfl rfl (by omega) y1 ?_
        refine mv_if_eq C rfl (fun c38 => ?_) (fun c38 => ?_)
        · refine mv_iconst C rfl ?_
          refine mv_ireturn C rfl mv_okI ?_ ?_
          all_goals rfl
        · exact absurd rfl c38
      · exact absurd c11 (by decide)
    | true =>
      cases b2 with
      | true =>
        refine mv_start pX11_was (some .int) [some (.ref 68), some (.int (nI kp)), some (.int (nI kt))] rfl rfl rfl rfl (fun V C => ?_)
        refine mv_aload_n C rfl rfl ?_
        refine mv_iconst C rfl ?_
        refine mv_putI C rfl rfl rfl rfl ?_
        refine mv_aload_n C rfl rfl ?_
        refine mv_iload_n C rfl rfl ?_
        refine mv_iload_n C rfl rfl ?_
        refine mv_cV C rfl (mv_up R0 rfl) (by decide) rfl rfl rfl (Nat.le_of_ble_eq_true rfl) (Nat.le_refl _) (Nat.le_refl _) rfl ?_
        refine mv_if_ne C rfl (fun c11 => ?_) (fun c11 => ?_)
        · refine mv_aload_n C rfl rfl ?_
          refine mv_bipush C rfl ?_
          refine mv_iconst C rfl ?_
          refine mv_iconst C rfl ?_
          refine mv_cV C rfl hR (by decide) rfl rfl rfl (Nat.le_of_ble_eq_true rfl) (Nat.le_refl _) (Nat.le_refl _) rfl ?_
          refine mv_aload_n C rfl rfl ?_
          refine mv_cV C rfl hR2 (by decide) rfl rfl rfl (Nat.le_of_ble_eq_true rfl) (Nat.le_refl _) (Nat.le_refl _) rfl ?_
          refine mv_aload_n C rfl rfl ?_
          refine mv_getR C rfl rfl rfl ?_
          refine mv_iload_n C rfl rfl ?_
          refine mv_iload_n C rfl rfl ?_
          refine mv_cS C rfl (mv_up R2 rfl) (by decide) rfl (Nat.le_of_ble_eq_true rfl) (Nat.le_refl _) (Nat.le_refl _) rfl ?_
          refine mv_zldJ C rfl rfl rfl (by omega) y1 ?_
          refine mv_if_eq C rfl (fun c38 => ?_) (fun c38 => ?_)
          · exact absurd c38 (by decide)
          · refine mv_aload_n C rfl rfl ?_
            refine mv_getR C rfl rfl rfl ?_
            refine mv_iload_n C rfl rfl ?_
            refine mv_iload_n C rfl rfl ?_
            refine mv_cS C rfl (mv_up R2 rfl) (by decide) rfl (Nat.le_of_ble_eq_true rfl) (Nat.le_refl _) (Nat.le_refl _) rfl ?_
            refine mv_zldJ C rfl rfl rfl (by omega) y2 ?_
            refine mv_if_eq C rfl (fun c51 => ?_) (fun c51 => ?_)
            · exact absurd c51 (by decide)
            · refine mv_iconst C rfl ?_
              refine mv_goto C rfl ?_
              refine mv_ireturn C rfl mv_okI ?_ ?_
              all_goals rfl
        · exact absurd c11 (by decide)
      | false =>
        refine mv_start pX11_was (some .int) [some (.ref 68), some (.int (nI kp)), some (.int (nI kt))] rfl rfl rfl rfl (fun V C => ?_)
        refine mv_aload_n C rfl rfl ?_
        refine mv_iconst C rfl ?_
        refine mv_putI C rfl rfl rfl rfl ?_
        refine mv_aload_n C rfl rfl ?_
        refine mv_iload_n C rfl rfl ?_
        refine mv_iload_n C rfl rfl ?_
        refine mv_cV C rfl (mv_up R0 rfl) (by decide) rfl rfl rfl (Nat.le_of_ble_eq_true rfl) (Nat.le_refl _) (Nat.le_refl _) rfl ?_
        refine mv_if_ne C rfl (fun c11 => ?_) (fun c11 => ?_)
        · refine mv_aload_n C rfl rfl ?_
          refine mv_bipush C rfl ?_
          refine mv_iconst C rfl ?_
          refine mv_iconst C rfl ?_
          refine mv_cV C rfl hR (by decide) rfl rfl rfl (Nat.le_of_ble_eq_true rfl) (Nat.le_refl _) (Nat.le_refl _) rfl ?_
          refine mv_aload_n C rfl rfl ?_
          refine mv_cV C rfl hR2 (by decide) rfl rfl rfl (Nat.le_of_ble_eq_true rfl) (Nat.le_refl _) (Nat.le_refl _) rfl ?_
          refine mv_aload_n C rfl rfl ?_
          refine mv_getR C rfl rfl rfl ?_
          refine mv_iload_n C rfl rfl ?_
          refine mv_iload_n C rfl rfl ?_
          refine mv_cS C rfl (mv_up R2 rfl) (by decide) rfl (Nat.le_of_ble_eq_true rfl) (Nat.le_refl _) (Nat.le_refl _) rfl ?_
          refine mv_zldJ C rfl rfl rfl (by omega) y1 ?_
          refine mv_if_eq C rfl (fun c38 => ?_) (fun c38 => ?_)
          · exact absurd c38 (by decide)
          · refine mv_aload_n C rfl rfl ?_
            refine mv_getR C rfl rfl rfl ?_
            refine mv_iload_n C rfl rfl ?_
            refine mv_iload_n C rfl rfl ?_
            refine mv_cS C rfl (mv_up R2 rfl) (by decide) rfl (Nat.le_of_ble_eq_true rfl) (Nat.le_refl _) (Nat.le_refl _) rfl ?_
            refine mv_zldJ C rfl rfl rfl (by omega) y2 ?_
            refine mv_if_eq C rfl (fun c51 => ?_) (fun c51 => ?_)
            · refine mv_iconst C rfl ?_
              refine mv_ireturn C rfl mv_okI ?_ ?_
              all_goals rfl
            · exact absurd rfl c51
        · exact absurd c11 (by decide)
  · rw [if_neg hc] at R0 ⊢
    refine ⟨_, mv_up (d := 5) (S1 := mv_E (mv_u z 68 0 0)) ?_ rfl, h0, f0⟩
    refine mv_start pX11_was (some .int) [some (.ref 68), some (.int p), some (.int t)] rfl rfl rfl rfl (fun V C => ?_)
    refine mv_aload_n C rfl rfl ?_
    refine mv_iconst C rfl ?_
    refine mv_putI C rfl rfl rfl rfl ?_
    refine mv_aload_n C rfl rfl ?_
    refine mv_iload_n C rfl rfl ?_
    refine mv_iload_n C rfl rfl ?_
    refine mv_cV C rfl (mv_up R0 rfl) (by decide) rfl rfl rfl (Nat.le_of_ble_eq_true rfl) (Nat.le_refl _) (Nat.le_refl _) rfl ?_
    refine mv_if_ne C rfl (fun c11 => ?_) (fun c11 => ?_)
    · exact absurd rfl c11
    · refine mv_iconst C rfl ?_
      refine mv_ireturn C rfl mv_okI ?_ ?_
      all_goals rfl
theorem m_first (u : hM) (z : mv_Z) (p : Int32) (hi : hI u) (hz : rM u z) : mR 141 [.int p] u z (.int (a_first u p)) u := by
  have h24 := hi.1
  have h0 := rM_free hz 68 0 0 (Or.inr ⟨rfl, by decide⟩)
  have f0 : fM z (mv_u z 68 0 0) := fM_u fM_rf (by decide)
  have hm0 := mH_of hi h0
  have R0 := r_isAsked (mv_u z 68 0 0) u p 0 hi hm0.1 hm0.2.2.2.1
  unfold a_first
  have ek : kask u p 0 ↔ kask u p 47 := by
    unfold kask
    rw [show ((0 : Int32) ≤ 0 ∧ (0 : Int32) < 48) = True from eq_true (by decide), show ((0 : Int32) ≤ 47 ∧ (47 : Int32) < 48) = True from eq_true (by decide)]
  rw [show (if kask u p 0 then (1 : Int32) else 0) = (if kask u p 47 then 1 else 0) by simp only [ek]] at R0
  by_cases hc : kask u p 47
  · rw [if_pos hc] at R0 ⊢
    obtain ⟨ep, et⟩ := kask_n hi hc
    generalize p.toNatClampNeg = kp at *
    obtain ⟨lp, rfl⟩ := ep
    have hR := r_walks0 (mv_u z 68 0 0) u (kAll u) ((mv_u z 68 0 0).1 80) ((mv_u z 68 0 0).1 81) hi hm0
    rw [ky_self] at hR
    generalize hm : kmt ((mv_u z 68 0 0).1 80) (u 0 0) (kR (kAll u) u kW) 48 0 = m at *
    have y1 : ∀ t, t < 48 → (ky (mv_u z 68 0 0) m ((mv_u z 68 0 0).1 81)).1 80 (t * 24 + kp) = b1 (kMay u t kp) := fun t lt => by rw [← hm]; exact kmt_i h24 lp (Or.inl lt)
    refine ⟨_, mv_up (d := 5) (S1 := mv_E (ky (mv_u z 68 0 0) m ((mv_u z 68 0 0).1 81))) ?_ rfl, ky_rM h0 _ _, ky_fM f0 _ _⟩
    generalize hv : kfst (fun t => kMay u t kp) 48 0 = v
    refine mv_start pX11_first (some .int) [some (.ref 68), some (.int (nI kp)), none] rfl rfl rfl rfl (fun V C => ?_)
    have loop : ∀ (k i : Nat), i + k = 48 → kfst (fun t => kMay u t kp) k i = v → V 26 [some (.ref 68), some (.int (nI kp)), some (.int (nI i))] [] (mv_E (ky (mv_u z 68 0 0) m ((mv_u z 68 0 0).1 81))) := by
      intro k
      induction k with
      | zero =>
        intro i hi2 hv
        simp only [kfst] at hv
        refine mv_iload_n C rfl rfl ?_
        refine mv_bipush C rfl ?_
        refine mv_icmp_ge C rfl (fun c29 => ?_) (fun c29 => ?_)
        · refine mv_iconst C rfl ?_
          refine mv_ireturn C rfl mv_okI ?_ ?_
          all_goals first | rfl | (rw [← hv])
        · exact absurd (nI_le (a := 48) (by omega) (by omega)) c29
      | succ k ih =>
        intro i hi2 hv
        simp only [kfst] at hv
        have R2 := r_cell (ky (mv_u z 68 0 0) m ((mv_u z 68 0 0).1 81)) i kp
        have y2 := y1 i (by omega)
        cases hk : kMay u i kp with
        | true =>
          rw [hk] at y2 hv
          simp only [cond_true] at hv
          refine mv_iload_n C rfl rfl ?_
          refine mv_bipush C rfl ?_
          refine mv_icmp_ge C rfl (fun c29 => ?_) (fun c29 => ?_)
          · exact absurd c29 (nI_ge (b := 48) (by omega) (by decide))
          · refine mv_aload_n C rfl rfl ?_
            refine mv_getR C rfl rfl rfl ?_
            refine mv_iload_n C rfl rfl ?_
            refine mv_iload_n C rfl rfl ?_
            refine mv_cS C rfl (mv_up R2 rfl) (by decide) rfl (Nat.le_of_ble_eq_true rfl) (Nat.le_refl _) (Nat.le_refl _) rfl ?_
            refine mv_zldJ C rfl rfl rfl (by omega) y2 ?_
            refine mv_if_eq C rfl (fun c42 => ?_) (fun c42 => ?_)
            · exact absurd c42 (by decide)
            · refine mv_iload_n C rfl rfl ?_
              refine mv_ireturn C rfl mv_okI ?_ ?_
              all_goals first | rfl | (rw [← hv])
        | false =>
          rw [hk] at y2 hv
          simp only [cond_false] at hv
          have e := ih (i + 1) (by omega) hv
          refine mv_iload_n C rfl rfl ?_
          refine mv_bipush C rfl ?_
          refine mv_icmp_ge C rfl (fun c29 => ?_) (fun c29 => ?_)
          · exact absurd c29 (nI_ge (b := 48) (by omega) (by decide))
          · refine mv_aload_n C rfl rfl ?_
            refine mv_getR C rfl rfl rfl ?_
            refine mv_iload_n C rfl rfl ?_
            refine mv_iload_n C rfl rfl ?_
            refine mv_cS C rfl (mv_up R2 rfl) (by decide) rfl (Nat.le_of_ble_eq_true rfl) (Nat.le_refl _) (Nat.le_refl _) rfl ?_
            refine mv_zldJ C rfl rfl rfl (by omega) y2 ?_
            refine mv_if_eq C rfl (fun c42 => ?_) (fun c42 => ?_)
            · refine mv_inc2 C rfl rfl ?_
              refine mv_goto C rfl ?_
              simp only [nI_1]
              exact e
            · exact absurd rfl c42
    refine mv_aload_n C rfl rfl ?_
    refine mv_iconst C rfl ?_
    refine mv_putI C rfl rfl rfl rfl ?_
    refine mv_aload_n C rfl rfl ?_
    refine mv_iload_n C rfl rfl ?_
    refine mv_iconst C rfl ?_
    refine mv_cV C rfl (mv_up R0 rfl) (by decide) rfl rfl rfl (Nat.le_of_ble_eq_true rfl) (Nat.le_refl _) (Nat.le_refl _) rfl ?_
    refine mv_if_ne C rfl (fun c11 => ?_) (fun c11 => ?_)
    · refine mv_aload_n C rfl rfl ?_
      refine mv_bipush C rfl ?_
      refine mv_iconst C rfl ?_
      refine mv_iconst C rfl ?_
      refine mv_cV C rfl hR (by decide) rfl rfl rfl (Nat.le_of_ble_eq_true rfl) (Nat.le_refl _) (Nat.le_refl _) rfl ?_
      refine mv_iconst C rfl ?_
      refine mv_is_n2 C rfl rfl ?_
      exact loop 48 0 (by omega) hv
    · exact absurd c11 (by decide)
  · rw [if_neg hc] at R0 ⊢
    refine ⟨_, mv_up (d := 5) (S1 := mv_E (mv_u z 68 0 0)) ?_ rfl, h0, f0⟩
    refine mv_start pX11_first (some .int) [some (.ref 68), some (.int p), none] rfl rfl rfl rfl (fun V C => ?_)
    refine mv_aload_n C rfl rfl ?_
    refine mv_iconst C rfl ?_
    refine mv_putI C rfl rfl rfl rfl ?_
    refine mv_aload_n C rfl rfl ?_
    refine mv_iload_n C rfl rfl ?_
    refine mv_iconst C rfl ?_
    refine mv_cV C rfl (mv_up R0 rfl) (by decide) rfl rfl rfl (Nat.le_of_ble_eq_true rfl) (Nat.le_refl _) (Nat.le_refl _) rfl ?_
    refine mv_if_ne C rfl (fun c11 => ?_) (fun c11 => ?_)
    · exact absurd rfl c11
    · refine mv_iconst C rfl ?_
      refine mv_ireturn C rfl mv_okI ?_ ?_
      all_goals rfl
theorem hst_neg {u : hM} (hi : hI u) : hst (u 8 0) < 0 ↔ u 8 0 = 0 := by
  have h24 := hi.1
  have h8 : u 8 0 ≤ u 0 0 := hi.2.2.2.2.2.2.1
  rcases hs : u 8 0 with _ | s
  · simp only [hst]; decide
  · simp only [hst]; exact ⟨fun q => absurd q (nI_pos (by omega)), fun q => by omega⟩
theorem m_places (u : hM) (z : mv_Z) (t w : Int32) (hi : hI u) (hz : rM u z) : mR 140 [.int t, .int w] u z (.int (a_places u t w)) u := by
  have h24 := hi.1
  have h0 := rM_free hz 68 0 0 (Or.inr ⟨rfl, by decide⟩)
  have f0 : fM z (mv_u z 68 0 0) := fM_u fM_rf (by decide)
  have hm0 := mH_of hi h0
  have hst : (mv_u z 68 0 0).1 68 9 = hst (u 8 0) := hm0.2.2.2.1
  have hn8 := hst_neg hi
  have R0 := r_mIsHour (mv_u z 68 0 0) t
  have R1 := r_inI (mv_u z 68 0 0) w 0 1 (0 ≤ w ∧ w ≤ 1) (by rw [i32_le, i32_le, i32_0, i32_1, l64_0, l64_1])
  unfold a_places
  by_cases hc : (0 ≤ t ∧ t < 48) ∧ ¬ u 8 0 = 0 ∧ (0 ≤ w ∧ w ≤ 1)
  · rw [if_pos hc]
    rw [if_pos hc.1] at R0
    rw [if_pos hc.2.2] at R1
    have et := nI_rngc hc.1.1 (show t < nI 48 from hc.1.2) (by decide)
    generalize t.toNatClampNeg = kt at *
    obtain ⟨lt, rfl⟩ := et
    have hR := r_walks0 (mv_u z 68 0 0) u (kAll u) ((mv_u z 68 0 0).1 80) ((mv_u z 68 0 0).1 81) hi hm0
    rw [ky_self] at hR
    have hR2 := r_walksOn (mv_u z 68 0 0) u (kAll u) (kmt ((mv_u z 68 0 0).1 80) (u 0 0) (kR (kAll u) u kW) 48 0) ((mv_u z 68 0 0).1 81) hi hm0
    generalize hm : kmt ((mv_u z 68 0 0).1 80) (u 0 0) (kR (kAll u) u kW) 48 0 = m at *
    generalize hg : kmg ((mv_u z 68 0 0).1 81) (u 0 0) (kG (kAll u) u) 0 0 = g at *
    have y1 : ∀ p, p < u 0 0 → (ky (mv_u z 68 0 0) m g).1 80 (kt * 24 + p) = b1 (kMay u kt p) := fun p lp => by rw [← hm]; exact kmt_i h24 lp (Or.inl lt)
    have y2 : ∀ p, p < u 0 0 → (ky (mv_u z 68 0 0) m g).1 81 (kt * 24 + p) = b1 (kG (kAll u) u kt p) := fun p lp => by rw [← hg]; exact kmg_i h24 lp lt (by omega)
    have hn : (ky (mv_u z 68 0 0) m g).1 68 1 = nI (u 0 0) := hm0.1
    refine ⟨_, mv_up (d := 5) (S1 := mv_E (ky (mv_u z 68 0 0) m g)) ?_ rfl, ky_rM h0 _ _, ky_fM f0 _ _⟩
    have key : ∀ (v : Nat → Bool), (∀ p, v p = (kMay u kt p && (decide (w = 0) || kG (kAll u) u kt p))) → mv_Runs 5 140 [.ref 68, .int (nI kt), .int w] (mv_E z) (some (.int (kb v))) (mv_E (ky (mv_u z 68 0 0) m g)) := by
      intro v hv
      refine mv_start pX11_places (some .int) [some (.ref 68), some (.int (nI kt)), some (.int w), none, none] rfl rfl rfl rfl (fun V C => ?_)
      have loop : ∀ (k i : Nat), i + k = u 0 0 → V 48 [some (.ref 68), some (.int (nI kt)), some (.int w), some (.int (kb (fun p => decide (p < i) && v p))), some (.int (nI i))] [] (mv_E (ky (mv_u z 68 0 0) m g)) := by
        intro k
        induction k with
        | zero =>
          intro i hi2
          obtain rfl : i = u 0 0 := by omega
          rw [show kb (fun p => decide (p < u 0 0) && v p) = kb v from kb_c (fun p _ => by
            cases hp : v p with
            | false => rw [Bool.and_false]
            | true =>
              rw [hv p, Bool.and_eq_true] at hp
              rw [decide_eq_true (kR_lt hi (kt + 1) kt p (by omega) hp.1), Bool.and_true])]
          refine mv_iload C rfl rfl ?_
          refine mv_aload_n C rfl rfl ?_
          refine mv_getJ C rfl rfl rfl hn ?_
          refine mv_icmp_ge C rfl (fun c54 => ?_) (fun c54 => ?_)
          · refine mv_iload_n C rfl rfl ?_
            refine mv_ireturn C rfl mv_okI ?_ ?_
            all_goals rfl
          · exact absurd (nI_le (by omega) (by omega)) c54
        | succ k ih =>
          intro i hi2
          have e := ih (i + 1) (by omega)
          have z1 := y1 i (by omega)
          have z2 := y2 i (by omega)
          have R2 := r_cell (ky (mv_u z 68 0 0) m g) kt i
          have fin : ∀ x : Int32, x = kb (fun p => decide (p = i) && v p) → V 98 [some (.ref 68), some (.int (nI kt)), some (.int w), some (.int (kb (fun p => decide (p < i) && v p))), some (.int (nI i))] [.int x, .int (kb (fun p => decide (p < i) && v p))] (mv_E (ky (mv_u z 68 0 0) m g)) := by
            intro x hx
            subst hx
            have e2 : kb (fun p => decide (p < i) && v p) ||| kb (fun p => decide (p = i) && v p) = kb (fun p => decide (p < i + 1) && v p) := by
              rw [kb_or]; apply kb_c; intro p _
              rw [← Bool.and_or_distrib_right]; congr 1
              rw [Bool.eq_iff_iff]; simp only [Bool.or_eq_true, decide_eq_true_eq]; omega
            refine mv_ior C rfl ?_
            refine mv_top e2 ?_
            refine mv_is_n3 C rfl rfl ?_
            refine mv_inc4 C rfl rfl ?_
            refine mv_goto C rfl ?_
            simp only [nI_1]
            exact e
          have n0 : v i = false → (0 : Int32) = kb (fun p => decide (p = i) && v p) := fun q => by
            rw [kb_0]; apply kb_c; intro p _
            by_cases h : p = i
            · rw [h, q, Bool.and_false]
            · rw [decide_eq_false h, Bool.false_and]
          have n1 : v i = true → (1 <<< (nI i &&& 31) : Int32) = kb (fun p => decide (p = i) && v p) := fun q => by
            rw [kb_bit (by omega)]; apply kb_c; intro p _
            by_cases h : p = i
            · rw [h, q, Bool.and_true]
            · rw [decide_eq_false h, Bool.false_and]
          have hvi := hv i
          cases hk : kMay u kt i with
          | false =>
            rw [hk] at z1 hvi
            refine mv_iload C rfl rfl ?_
            refine mv_aload_n C rfl rfl ?_
            refine mv_getJ C rfl rfl rfl hn ?_
            refine mv_icmp_ge C rfl (fun c54 => ?_) (fun c54 => ?_)
            · exact absurd c54 (nI_ge (by omega) (by omega))
            · refine mv_iload_n C rfl rfl ?_
              refine mv_aload_n C rfl rfl ?_
              refine mv_getR C rfl rfl rfl ?_
              refine mv_iload_n C rfl rfl ?_
              refine mv_iload C rfl rfl ?_
              refine mv_cS C rfl (mv_up R2 rfl) (by decide) rfl (Nat.le_of_ble_eq_true rfl) (Nat.le_refl _) (Nat.le_refl _) rfl ?_
              refine mv_zldJ C rfl rfl rfl (by omega) z1 ?_
              refine mv_if_eq C rfl (fun c69 => ?_) (fun c69 => ?_)
              · refine mv_iconst C rfl ?_
                exact fin _ (n0 hvi)
              · exact absurd rfl c69
          | true =>
            rw [hk] at z1 hvi
            by_cases hw : w = 0
            · refine mv_iload C rfl rfl ?_
              refine mv_aload_n C rfl rfl ?_
              refine mv_getJ C rfl rfl rfl hn ?_
              refine mv_icmp_ge C rfl (fun c54 => ?_) (fun c54 => ?_)
              · exact absurd c54 (nI_ge (by omega) (by omega))
              · refine mv_iload_n C rfl rfl ?_
                refine mv_aload_n C rfl rfl ?_
                refine mv_getR C rfl rfl rfl ?_
                refine mv_iload_n C rfl rfl ?_
                refine mv_iload C rfl rfl ?_
                refine mv_cS C rfl (mv_up R2 rfl) (by decide) rfl (Nat.le_of_ble_eq_true rfl) (Nat.le_refl _) (Nat.le_refl _) rfl ?_
                refine mv_zldJ C rfl rfl rfl (by omega) z1 ?_
                refine mv_if_eq C rfl (fun c69 => ?_) (fun c69 => ?_)
                · exact absurd c69 (by decide)
                · refine mv_iload_n C rfl rfl ?_
                  refine mv_if_eq C rfl (fun c73 => ?_) (fun c73 => ?_)
                  · refine mv_iconst C rfl ?_
                    refine mv_iload C rfl rfl ?_
                    refine mv_ishl C rfl ?_
                    refine mv_goto C rfl ?_
                    exact fin _ (n1 (by rw [hvi, hw]; rfl))
                  · exact absurd hw c73
            · rw [decide_eq_false hw, Bool.false_or, Bool.true_and] at hvi
              cases hk2 : kG (kAll u) u kt i with
              | true =>
                rw [hk2] at z2 hvi
                refine mv_iload C rfl rfl ?_
                refine mv_aload_n C rfl rfl ?_
                refine mv_getJ C rfl rfl rfl hn ?_
                refine mv_icmp_ge C rfl (fun c54 => ?_) (fun c54 => ?_)
                · exact absurd c54 (nI_ge (by omega) (by omega))
                · refine mv_iload_n C rfl rfl ?_
                  refine mv_aload_n C rfl rfl ?_
                  refine mv_getR C rfl rfl rfl ?_
                  refine mv_iload_n C rfl rfl ?_
                  refine mv_iload C rfl rfl ?_
                  refine mv_cS C rfl (mv_up R2 rfl) (by decide) rfl (Nat.le_of_ble_eq_true rfl) (Nat.le_refl _) (Nat.le_refl _) rfl ?_
                  refine mv_zldJ C rfl rfl rfl (by omega) z1 ?_
                  refine mv_if_eq C rfl (fun c69 => ?_) (fun c69 => ?_)
                  · exact absurd c69 (by decide)
                  · refine mv_iload_n C rfl rfl ?_
                    refine mv_if_eq C rfl (fun c73 => ?_) (fun c73 => ?_)
                    · exact absurd c73 hw
                    · refine mv_aload_n C rfl rfl ?_
                      refine mv_getR C rfl rfl rfl ?_
                      refine mv_iload_n C rfl rfl ?_
                      refine mv_iload C rfl rfl ?_
                      refine mv_cS C rfl (mv_up R2 rfl) (by decide) rfl (Nat.le_of_ble_eq_true rfl) (Nat.le_refl _) (Nat.le_refl _) rfl ?_
                      refine mv_zldJ C rfl rfl rfl (by omega) z2 ?_
                      refine mv_if_eq C rfl (fun c87 => ?_) (fun c87 => ?_)
                      · exact absurd c87 (by decide)
                      · refine mv_iconst C rfl ?_
                        refine mv_iload C rfl rfl ?_
                        refine mv_ishl C rfl ?_
                        refine mv_goto C rfl ?_
                        exact fin _ (n1 hvi)
              | false =>
                rw [hk2] at z2 hvi
                refine mv_iload C rfl rfl ?_
                refine mv_aload_n C rfl rfl ?_
                refine mv_getJ C rfl rfl rfl hn ?_
                refine mv_icmp_ge C rfl (fun c54 => ?_) (fun c54 => ?_)
                · exact absurd c54 (nI_ge (by omega) (by omega))
                · refine mv_iload_n C rfl rfl ?_
                  refine mv_aload_n C rfl rfl ?_
                  refine mv_getR C rfl rfl rfl ?_
                  refine mv_iload_n C rfl rfl ?_
                  refine mv_iload C rfl rfl ?_
                  refine mv_cS C rfl (mv_up R2 rfl) (by decide) rfl (Nat.le_of_ble_eq_true rfl) (Nat.le_refl _) (Nat.le_refl _) rfl ?_
                  refine mv_zldJ C rfl rfl rfl (by omega) z1 ?_
                  refine mv_if_eq C rfl (fun c69 => ?_) (fun c69 => ?_)
                  · exact absurd c69 (by decide)
                  · refine mv_iload_n C rfl rfl ?_
                    refine mv_if_eq C rfl (fun c73 => ?_) (fun c73 => ?_)
                    · exact absurd c73 hw
                    · refine mv_aload_n C rfl rfl ?_
                      refine mv_getR C rfl rfl rfl ?_
                      refine mv_iload_n C rfl rfl ?_
                      refine mv_iload C rfl rfl ?_
                      refine mv_cS C rfl (mv_up R2 rfl) (by decide) rfl (Nat.le_of_ble_eq_true rfl) (Nat.le_refl _) (Nat.le_refl _) rfl ?_
                      refine mv_zldJ C rfl rfl rfl (by omega) z2 ?_
                      refine mv_if_eq C rfl (fun c87 => ?_) (fun c87 => ?_)
                      · refine mv_iconst C rfl ?_
                        exact fin _ (n0 hvi)
                      · exact absurd rfl c87
      have e := loop (u 0 0) 0 (by omega)
      rw [show kb (fun p => decide (p < 0) && v p) = 0 from by rw [kb_0]; apply kb_c; intro p _; simp] at e
      refine mv_aload_n C rfl rfl ?_
      refine mv_iconst C rfl ?_
      refine mv_putI C rfl rfl rfl rfl ?_
      refine mv_iload_n C rfl rfl ?_
      refine mv_cS C rfl (mv_up R0 rfl) (by decide) rfl (Nat.le_of_ble_eq_true rfl) (Nat.le_refl _) (Nat.le_refl _) rfl ?_
      refine mv_if_eq C rfl (fun c9 => ?_) (fun c9 => ?_)
      · exact absurd c9 (by decide)
      · refine mv_aload_n C rfl rfl ?_
        refine mv_getJ C rfl rfl rfl hst ?_
        refine mv_if_lt C rfl (fun c16 => ?_) (fun c16 => ?_)
        · exact absurd (hn8.mp c16) hc.2.1
        · refine mv_iload_n C rfl rfl ?_
          refine mv_i2l C rfl ?_
          refine mv_lconst C rfl ?_
          refine mv_lconst C rfl ?_
          refine mv_cS C rfl (mv_up R1 rfl) (by decide) rfl (Nat.le_of_ble_eq_true rfl) (Nat.le_refl _) (Nat.le_refl _) rfl ?_
          refine mv_if_ne C rfl (fun c26 => ?_) (fun c26 => ?_)
          · refine mv_aload_n C rfl rfl ?_
            refine mv_bipush C rfl ?_
            refine mv_iconst C rfl ?_
            refine mv_iconst C rfl ?_
            refine mv_cV C rfl hR (by decide) rfl rfl rfl (Nat.le_of_ble_eq_true rfl) (Nat.le_refl _) (Nat.le_refl _) rfl ?_
            refine mv_aload_n C rfl rfl ?_
            refine mv_cV C rfl hR2 (by decide) rfl rfl rfl (Nat.le_of_ble_eq_true rfl) (Nat.le_refl _) (Nat.le_refl _) rfl ?_
            refine mv_iconst C rfl ?_
            refine mv_is_n3 C rfl rfl ?_
            refine mv_iconst C rfl ?_
            refine mv_is4 C rfl rfl ?_
            exact e
          · exact absurd c26 (by decide)
    by_cases hw : w = 0
    · rw [if_pos hw]
      exact key _ (fun p => by rw [decide_eq_true hw, Bool.true_or, Bool.and_true])
    · rw [if_neg hw]
      exact key _ (fun p => by rw [decide_eq_false hw, Bool.false_or]; rfl)
  · rw [if_neg hc]
    refine ⟨_, mv_up (d := 5) (S1 := mv_E (mv_u z 68 0 0)) ?_ rfl, h0, f0⟩
    refine mv_start pX11_places (some .int) [some (.ref 68), some (.int t), some (.int w), none, none] rfl rfl rfl rfl (fun V C => ?_)
    refine mv_aload_n C rfl rfl ?_
    refine mv_iconst C rfl ?_
    refine mv_putI C rfl rfl rfl rfl ?_
    refine mv_iload_n C rfl rfl ?_
    refine mv_cS C rfl (mv_up R0 rfl) (by decide) rfl (Nat.le_of_ble_eq_true rfl) (Nat.le_refl _) (Nat.le_refl _) rfl ?_
    refine mv_if_eq C rfl (fun c9 => ?_) (fun c9 => ?_)
    · refine mv_iconst C rfl ?_
      refine mv_ireturn C rfl mv_okI ?_ ?_
      all_goals rfl
    · refine mv_aload_n C rfl rfl ?_
      refine mv_getJ C rfl rfl rfl hst ?_
      refine mv_if_lt C rfl (fun c16 => ?_) (fun c16 => ?_)
      · refine mv_iconst C rfl ?_
        refine mv_ireturn C rfl mv_okI ?_ ?_
        all_goals rfl
      · refine mv_iload_n C rfl rfl ?_
        refine mv_i2l C rfl ?_
        refine mv_lconst C rfl ?_
        refine mv_lconst C rfl ?_
        refine mv_cS C rfl (mv_up R1 rfl) (by decide) rfl (Nat.le_of_ble_eq_true rfl) (Nat.le_refl _) (Nat.le_refl _) rfl ?_
        refine mv_if_ne C rfl (fun c26 => ?_) (fun c26 => ?_)
        · exact absurd ⟨b10.mp c9, fun q => c16 (hn8.mpr q), b10.mp c26⟩ hc
        · refine mv_iconst C rfl ?_
          refine mv_ireturn C rfl mv_okI ?_ ?_
          all_goals rfl
theorem m_suspects (u : hM) (z : mv_Z) (t : Int32) (hi : hI u) (hz : rM u z) : mR 154 [.int t] u z (.int (a_suspects u t)) u := by
  have h24 := hi.1
  have h30 : u 16 0 ≤ 30 := hi.2.2.2.2.2.2.2.2.2.2.2.1
  have hh := hi.2.2.2.2.2.2.2.2.2.2.2.2.1
  have h0 := rM_free hz 68 0 0 (Or.inr ⟨rfl, by decide⟩)
  have f0 : fM z (mv_u z 68 0 0) := fM_u fM_rf (by decide)
  have hm0 := mH_of hi h0
  have hst : (mv_u z 68 0 0).1 68 9 = hst (u 8 0) := hm0.2.2.2.1
  have hn8 := hst_neg hi
  have R0 := r_mIsHour (mv_u z 68 0 0) t
  unfold a_suspects
  by_cases hc : (0 ≤ t ∧ t < 48) ∧ ¬ u 8 0 = 0
  · rw [if_pos hc]
    rw [if_pos hc.1] at R0
    have et := nI_rngc hc.1.1 (show t < nI 48 from hc.1.2) (by decide)
    generalize t.toNatClampNeg = kt at *
    obtain ⟨lt, rfl⟩ := et
    have hR := r_walks0 (mv_u z 68 0 0) u (kAll u) ((mv_u z 68 0 0).1 80) ((mv_u z 68 0 0).1 81) hi hm0
    rw [ky_self] at hR
    generalize hm : kmt ((mv_u z 68 0 0).1 80) (u 0 0) (kR (kAll u) u kW) 48 0 = m at *
    have y1 : ∀ p, p < u 0 0 → (ky (mv_u z 68 0 0) m ((mv_u z 68 0 0).1 81)).1 80 (kt * 24 + p) = b1 (kMay u kt p) := fun p lp => by rw [← hm]; exact kmt_i h24 lp (Or.inl lt)
    have h01 := ky_rM h0 m ((mv_u z 68 0 0).1 81)
    have hn := rM_s h01 23 16 (by decide)
    refine ⟨_, mv_up (d := 5) (S1 := mv_E (ky (mv_u z 68 0 0) m ((mv_u z 68 0 0).1 81))) ?_ rfl, h01, ky_fM f0 _ _⟩
    unfold hsus
    refine mv_start pX11_suspects (some .int) [some (.ref 68), some (.int (nI kt)), none, none] rfl rfl rfl rfl (fun V C => ?_)
    have loop : ∀ (k i : Nat), i + k = u 16 0 → V 33 [some (.ref 68), some (.int (nI kt)), some (.int (nI (hsum (fun p => bif kMay u kt (u 17 p) && decide (hmf u p = 0) then 1 else 0) i))), some (.int (nI i))] [] (mv_E (ky (mv_u z 68 0 0) m ((mv_u z 68 0 0).1 81))) := by
      intro k
      induction k with
      | zero =>
        intro i hi
        obtain rfl : i = u 16 0 := by omega
        refine mv_iload_n C rfl rfl ?_
        refine mv_aload_n C rfl rfl ?_
        refine mv_getJ C rfl rfl rfl hn ?_
        refine mv_icmp_ge C rfl (fun c38 => ?_) (fun c38 => ?_)
        · refine mv_iload_n C rfl rfl ?_
          refine mv_ireturn C rfl mv_okI ?_ ?_
          all_goals rfl
        · exact absurd (nI_le (by omega) (by omega)) c38
      | succ k ih =>
        intro i hi2
        have e := ih (i + 1) (by omega)
        simp only [hsum] at e
        have R1 := r_unfit _ u i (by omega) h01 hi
        have hp : u 17 i < u 0 0 := hh i (by omega)
        have hm := hmf_le u i
        have y2 := y1 _ hp
        have R2 := r_cell (ky (mv_u z 68 0 0) m ((mv_u z 68 0 0).1 81)) kt (u 17 i)
        have st : ∀ x : Int32, x = nI (bif kMay u kt (u 17 i) && decide (hmf u i = 0) then 1 else 0) → V 73 [some (.ref 68), some (.int (nI kt)), some (.int (nI (hsum (fun p => bif kMay u kt (u 17 p) && decide (hmf u p = 0) then 1 else 0) i))), some (.int (nI i))] [.int x, .int (nI (hsum (fun p => bif kMay u kt (u 17 p) && decide (hmf u p = 0) then 1 else 0) i))] (mv_E (ky (mv_u z 68 0 0) m ((mv_u z 68 0 0).1 81))) := by
          intro x hx
          subst hx
          refine mv_iadd C rfl ?_
          refine mv_top (nI_add _ _) ?_
          refine mv_is_n2 C rfl rfl ?_
          refine mv_inc3 C rfl rfl ?_
          refine mv_goto C rfl ?_
          simp only [nI_1]
          exact e
        generalize kMay u kt (u 17 i) = b at *
        by_cases h3 : hmf u i = 0
        · rw [h3] at R1
          cases b with
          | true =>
            refine mv_iload_n C rfl rfl ?_
            refine mv_aload_n C rfl rfl ?_
            refine mv_getJ C rfl rfl rfl hn ?_
            refine mv_icmp_ge C rfl (fun c38 => ?_) (fun c38 => ?_)
            · exact absurd c38 (nI_ge (by omega) (by omega))
            · refine mv_iload_n C rfl rfl ?_
              refine mv_aload_n C rfl rfl ?_
              refine mv_iload_n C rfl rfl ?_
              refine mv_cV C rfl (mv_up R1 rfl) (by decide) rfl rfl rfl (Nat.le_of_ble_eq_true rfl) (Nat.le_refl _) (Nat.le_refl _) rfl ?_
              refine mv_if_ne C rfl (fun c47 => ?_) (fun c47 => ?_)
              · exact absurd rfl c47
              · refine mv_aload_n C rfl rfl ?_
                refine mv_getR C rfl rfl rfl ?_
                refine mv_iload_n C rfl rfl ?_
                refine mv_aload_n C rfl rfl ?_
                refine mv_getR C rfl rfl rfl ?_
                refine mv_iload_n C rfl rfl ?_
                refine mv_aldJ C rfl rfl rfl (by omega) (rM_a h01 86 17 (by decide) i) ?_
                refine mv_cS C rfl (mv_up R2 rfl) (by decide) rfl (Nat.le_of_ble_eq_true rfl) (Nat.le_refl _) (Nat.le_refl _) rfl ?_
                refine mv_zldJ C rfl rfl rfl (by omega) y2 ?_
                refine mv_if_eq C rfl (fun c65 => ?_) (fun c65 => ?_)
                · exact absurd c65 (by decide)
                · refine mv_iconst C rfl ?_
                  refine mv_goto C rfl ?_
                  exact st _ (by rw [h3]; rfl)
          | false =>
            refine mv_iload_n C rfl rfl ?_
            refine mv_aload_n C rfl rfl ?_
            refine mv_getJ C rfl rfl rfl hn ?_
            refine mv_icmp_ge C rfl (fun c38 => ?_) (fun c38 => ?_)
            · exact absurd c38 (nI_ge (by omega) (by omega))
            · refine mv_iload_n C rfl rfl ?_
              refine mv_aload_n C rfl rfl ?_
              refine mv_iload_n C rfl rfl ?_
              refine mv_cV C rfl (mv_up R1 rfl) (by decide) rfl rfl rfl (Nat.le_of_ble_eq_true rfl) (Nat.le_refl _) (Nat.le_refl _) rfl ?_
              refine mv_if_ne C rfl (fun c47 => ?_) (fun c47 => ?_)
              · exact absurd rfl c47
              · refine mv_aload_n C rfl rfl ?_
                refine mv_getR C rfl rfl rfl ?_
                refine mv_iload_n C rfl rfl ?_
                refine mv_aload_n C rfl rfl ?_
                refine mv_getR C rfl rfl rfl ?_
                refine mv_iload_n C rfl rfl ?_
                refine mv_aldJ C rfl rfl rfl (by omega) (rM_a h01 86 17 (by decide) i) ?_
                refine mv_cS C rfl (mv_up R2 rfl) (by decide) rfl (Nat.le_of_ble_eq_true rfl) (Nat.le_refl _) (Nat.le_refl _) rfl ?_
                refine mv_zldJ C rfl rfl rfl (by omega) y2 ?_
                refine mv_if_eq C rfl (fun c65 => ?_) (fun c65 => ?_)
                · refine mv_iconst C rfl ?_
                  exact st _ rfl
                · exact absurd rfl c65
        · refine mv_iload_n C rfl rfl ?_
          refine mv_aload_n C rfl rfl ?_
          refine mv_getJ C rfl rfl rfl hn ?_
          refine mv_icmp_ge C rfl (fun c38 => ?_) (fun c38 => ?_)
          · exact absurd c38 (nI_ge (by omega) (by omega))
          · refine mv_iload_n C rfl rfl ?_
            refine mv_aload_n C rfl rfl ?_
            refine mv_iload_n C rfl rfl ?_
            refine mv_cV C rfl (mv_up R1 rfl) (by decide) rfl rfl rfl (Nat.le_of_ble_eq_true rfl) (Nat.le_refl _) (Nat.le_refl _) rfl ?_
            refine mv_if_ne C rfl (fun c47 => ?_) (fun c47 => ?_)
            · refine mv_iconst C rfl ?_
              exact st _ (by rw [decide_eq_false h3, Bool.and_false]; rfl)
            · exact absurd ((nI_eq (b := 0) (by omega) (by decide)).mp c47) h3
    refine mv_aload_n C rfl rfl ?_
    refine mv_iconst C rfl ?_
    refine mv_putI C rfl rfl rfl rfl ?_
    refine mv_iload_n C rfl rfl ?_
    refine mv_cS C rfl (mv_up R0 rfl) (by decide) rfl (Nat.le_of_ble_eq_true rfl) (Nat.le_refl _) (Nat.le_refl _) rfl ?_
    refine mv_if_eq C rfl (fun c9 => ?_) (fun c9 => ?_)
    · exact absurd c9 (by decide)
    · refine mv_aload_n C rfl rfl ?_
      refine mv_getJ C rfl rfl rfl hst ?_
      refine mv_if_ge C rfl (fun c16 => ?_) (fun c16 => ?_)
      · refine mv_aload_n C rfl rfl ?_
        refine mv_bipush C rfl ?_
        refine mv_iconst C rfl ?_
        refine mv_iconst C rfl ?_
        refine mv_cV C rfl hR (by decide) rfl rfl rfl (Nat.le_of_ble_eq_true rfl) (Nat.le_refl _) (Nat.le_refl _) rfl ?_
        refine mv_iconst C rfl ?_
        refine mv_is_n2 C rfl rfl ?_
        refine mv_iconst C rfl ?_
        refine mv_is_n3 C rfl rfl ?_
        exact loop (u 16 0) 0 (by omega)
      · exact absurd (hn8.mp (by rw [i32_lt]; rw [i32_le] at c16; omega)) hc.2
  · rw [if_neg hc]
    refine ⟨_, mv_up (d := 5) (S1 := mv_E (mv_u z 68 0 0)) ?_ rfl, h0, f0⟩
    refine mv_start pX11_suspects (some .int) [some (.ref 68), some (.int t), none, none] rfl rfl rfl rfl (fun V C => ?_)
    refine mv_aload_n C rfl rfl ?_
    refine mv_iconst C rfl ?_
    refine mv_putI C rfl rfl rfl rfl ?_
    refine mv_iload_n C rfl rfl ?_
    refine mv_cS C rfl (mv_up R0 rfl) (by decide) rfl (Nat.le_of_ble_eq_true rfl) (Nat.le_refl _) (Nat.le_refl _) rfl ?_
    refine mv_if_eq C rfl (fun c9 => ?_) (fun c9 => ?_)
    · refine mv_iconst C rfl ?_
      refine mv_ireturn C rfl mv_okI ?_ ?_
      all_goals rfl
    · refine mv_aload_n C rfl rfl ?_
      refine mv_getJ C rfl rfl rfl hst ?_
      refine mv_if_ge C rfl (fun c16 => ?_) (fun c16 => ?_)
      · (refine absurd ⟨b10.mp c9, fun q => ?_⟩ hc; rw [i32_le] at c16; have := hn8.mpr q; rw [i32_lt] at this; omega)
      · refine mv_iconst C rfl ?_
        refine mv_ireturn C rfl mv_okI ?_ ?_
        all_goals rfl
end

