section
theorem kF_s2 {F0 : Nat → Int32} {f : Nat → Nat} {n : Nat} : upd (kF F0 f n) n (nI (f n)) = kF F0 f (n + 1) := by
  rw [kF_s]; congr 1; funext i; unfold updN
  by_cases h : i = n
  · rw [if_pos h, h]
  · rw [if_neg h]
theorem ky_u83 {z : mv_Z} {m g F : Nat → Int32} {i : Nat} {x : Int32} : mv_u (ky (mv_w z 83 F) m g) 83 i x = ky (mv_w z 83 (upd F i x)) m g := by
  unfold ky mv_u mv_w
  refine Prod.ext (funext fun q => ?_) rfl
  dsimp only [va_up]
  by_cases e : q = 83
  · subst e; rfl
  · simp [e]
theorem mw_u82 {z : mv_Z} {G : Nat → Int32} {i n : Nat} {x : Int32} : mv_u (mv_u (mv_w z 82 G) 68 18 (nI n)) 82 i x = mv_u (mv_w z 82 (upd G i x)) 68 18 (nI n) := by
  unfold mv_u mv_w
  refine Prod.ext (funext fun q => ?_) rfl
  dsimp only [va_up]
  by_cases e : q = 82
  · subst e; rfl
  · by_cases e2 : q = 68
    · subst e2; rfl
    · simp [e, e2]
theorem kMay_eq {u : hM} {t p : Nat} (h : kMay u t p = true) (ht : 1 ≤ t) (h1 : kMay u (t - 1) p = false) : ∃ r, kcb (kAll u) u (kMay u) t p = r + 1 := by
  have h2 := h
  unfold kMay at h2
  rw [kR_eq] at h2
  unfold kst at h2
  rw [if_neg (by omega)] at h2
  simp only [Bool.and_eq_true, Bool.or_eq_true] at h2
  unfold kMay at h1
  rw [h1] at h2
  obtain ⟨r, hr, q⟩ := kany_t.mp (h2.1.1.resolve_left (by decide))
  cases hk : kcb (kAll u) u (kMay u) t p with
  | succ r => exact ⟨r, rfl⟩
  | zero =>
    unfold kcb at hk
    rw [show kMay u (t - 1) p = false from h1] at hk
    have := kfd_n hk r (by omega) (by omega)
    rw [show kcm (kAll u) u (kMay u) r p t = true from q] at this
    cases this
theorem kcm_B {u : hM} {A : Nat → Bool} {R : Nat → Nat → Bool} {r p t : Nat} (hi : hI u) : kcm (kB A u 48) u R r p t = kcm A u R r p t := by
  apply kcm_A
  intro f hf _
  have := (hi.2.2.2.2.2.2.2.2.1 f hf).2.1
  simp only [kB]; rw [decide_eq_true (by omega), Bool.and_true]
theorem m_trail (u : hM) (z : mv_Z) (p t : Int32) (hi : hI u) (hz : rM u z) : mR 142 [.int p, .int t] u z (.int (a_trail u p t)) (o_trail u p t) := by
  have h24 := hi.1
  have h240 := hi.2.2.1
  have h0 := rM_free hz 68 0 0 (Or.inr ⟨rfl, by decide⟩)
  have f0 : fM z (mv_u z 68 0 0) := fM_u fM_rf (by decide)
  have hm0 := mH_of hi h0
  have R0 := r_isAsked (mv_u z 68 0 0) u p t hi hm0.1 hm0.2.2.2.1
  unfold a_trail o_trail
  by_cases hc : kask u p t
  · rw [if_pos hc] at R0 ⊢
    rw [if_pos hc]
    obtain ⟨ep, et⟩ := kask_n hi hc
    generalize p.toNatClampNeg = kp at *
    generalize t.toNatClampNeg = kt at *
    obtain ⟨lp, rfl⟩ := ep
    obtain ⟨lt, rfl⟩ := et
    have hR := r_walks0 (mv_u z 68 0 0) u (kAll u) ((mv_u z 68 0 0).1 80) ((mv_u z 68 0 0).1 81) hi hm0
    rw [ky_self] at hR
    generalize (mv_u z 68 0 0).1 81 = g at *
    generalize hm : kmt ((mv_u z 68 0 0).1 80) (u 0 0) (kR (kAll u) u kW) 48 0 = m at *
    generalize hz0 : mv_u z 68 0 0 = z0 at *
    have hmt : ∀ t p, t < 48 → p < u 0 0 → m (t * 24 + p) = b1 (kMay u t p) := fun t p lt lp => by rw [← hm]; exact kmt_i h24 lp (Or.inl lt)
    have R2 := r_cell (ky z0 m g) kt kp
    have y1 : (ky z0 m g).1 80 (kt * 24 + kp) = b1 (kMay u kt kp) := hmt _ _ lt lp
    cases hk : kMay u kt kp with
    | false =>
      rw [hk] at y1
      refine ⟨_, mv_up (d := 5) (S1 := mv_E (ky z0 m g)) ?_ rfl, ky_rM h0 _ _, ky_fM f0 _ _⟩
      refine mv_start pX11_trail (some .int) [some (.ref 68), some (.int (nI kp)), some (.int (nI kt)), none, none, none, none] rfl rfl rfl rfl (fun V C => ?_)
      refine mv_aload_n C rfl rfl ?_
      refine mv_iconst C rfl ?_
      refine mv_putI C rfl rfl rfl rfl ?_
      rw [hz0]
      refine mv_aload_n C rfl rfl ?_
      refine mv_iload_n C rfl rfl ?_
      refine mv_iload_n C rfl rfl ?_
      refine mv_cV C rfl (mv_up R0 rfl) (by decide) rfl rfl rfl (Nat.le_of_ble_eq_true rfl) (Nat.le_refl _) (Nat.le_refl _) rfl ?_
      refine mv_if_ne C rfl (fun c11 => ?_) (fun c11 => ?_)
      · refine mv_aload_n C rfl rfl ?_
        refine mv_bipush C rfl ?_
        refine mv_iconst C rfl ?_
        refine mv_iconst C rfl ?_
        refine mv_cV C rfl hR (by decide) rfl rfl rfl (Nat.le_of_ble_eq_true rfl) (Nat.le_refl _) (Nat.le_refl _) rfl ?_
        refine mv_aload_n C rfl rfl ?_
        refine mv_getR C rfl rfl rfl ?_
        refine mv_iload_n C rfl rfl ?_
        refine mv_iload_n C rfl rfl ?_
        refine mv_cS C rfl (mv_up R2 rfl) (by decide) rfl (Nat.le_of_ble_eq_true rfl) (Nat.le_refl _) (Nat.le_refl _) rfl ?_
        refine mv_zldJ C rfl rfl rfl (by omega) y1 ?_
        refine mv_if_ne C rfl (fun c34 => ?_) (fun c34 => ?_)
        · exact absurd rfl c34
        · refine mv_iconst C rfl ?_
          refine mv_ireturn C rfl mv_okI ?_ ?_
          all_goals rfl
      · exact absurd c11 (by decide)
    | true =>
      rw [hk] at y1
      simp only [cond_true]
      have hle := ktr_le hi lp lt
      generalize hr : ktr u kp kt = res at *
      obtain ⟨n1, f1⟩ := res
      dsimp only at hle
      generalize hF0 : z0.1 83 = F0
      generalize hG0 : z0.1 82 = G0
      have hrm : rM (hrw u n1 (fun i => f1 (n1 - 1 - i))) (mv_u (mv_w (ky (mv_w z0 83 (kF F0 f1 n1)) m g) 82 (kF G0 (fun i => f1 (n1 - 1 - i)) n1)) 68 18 (nI n1)) := rM_row (ky_rM (rM_freew h0 83 _ (by decide)) m g) n1 _ _ (fun i h => kF_i h)
      refine ⟨_, mv_up (d := 5) ?_ rfl, hrm, fM_u (fM_w (ky_fM (fM_w f0 (by decide)) _ _) (by decide)) (by decide)⟩
      refine mv_start pX11_trail (some .int) [some (.ref 68), some (.int (nI kp)), some (.int (nI kt)), none, none, none, none] rfl rfl rfl rfl (fun V C => ?_)
      have fill : ∀ (k i : Nat) (w4 w5 : Int32), i + k = n1 → V 151 [some (.ref 68), some (.int (nI kp)), some (.int (nI kt)), some (.int (nI n1)), some (.int w4), some (.int w5), some (.int (nI i))] [] (mv_E (mv_u (mv_w (ky (mv_w z0 83 (kF F0 f1 n1)) m g) 82 (kF G0 (fun i => f1 (n1 - 1 - i)) i)) 68 18 (nI n1))) := by
        intro k
        induction k with
        | zero =>
          intro i w4 w5 hi2
          obtain rfl : i = n1 := by omega
          refine mv_iload C rfl rfl ?_
          refine mv_iload_n C rfl rfl ?_
          refine mv_icmp_ge C rfl (fun c154 => ?_) (fun c154 => ?_)
          · refine mv_iload_n C rfl rfl ?_
            refine mv_ireturn C rfl mv_okI ?_ ?_
            all_goals rfl
          · exact absurd (nI_le (by omega) (by omega)) c154
        | succ k ih =>
          intro i w4 w5 hi2
          have e := ih (i + 1) w4 w5 (by omega)
          rw [← kF_s2] at e
          have y2 : (mv_u (mv_w (ky (mv_w z0 83 (kF F0 f1 n1)) m g) 82 (kF G0 (fun i => f1 (n1 - 1 - i)) i)) 68 18 (nI n1)).1 83 (n1 - 1 - i) = nI (f1 (n1 - 1 - i)) := by
            show kF F0 f1 n1 (n1 - 1 - i) = _
            exact kF_i (by omega)
          refine mv_iload C rfl rfl ?_
          refine mv_iload_n C rfl rfl ?_
          refine mv_icmp_ge C rfl (fun c154 => ?_) (fun c154 => ?_)
          · exact absurd c154 (nI_ge (by omega) (by omega))
          · refine mv_aload_n C rfl rfl ?_
            refine mv_getR C rfl rfl rfl ?_
            refine mv_iload C rfl rfl ?_
            refine mv_aload_n C rfl rfl ?_
            refine mv_getR C rfl rfl rfl ?_
            refine mv_iload_n C rfl rfl ?_
            refine mv_iconst C rfl ?_
            refine mv_isub C rfl ?_
            refine mv_top (pk_sub (b := 1) (by omega)) ?_
            refine mv_iload C rfl rfl ?_
            refine mv_isub C rfl ?_
            refine mv_top (pk_sub (by omega)) ?_
            refine mv_aldJ C rfl rfl rfl (by omega) y2 ?_
            refine mv_ast C rfl rfl rfl (by omega) ?_
            refine mv_sto mw_u82 ?_
            refine mv_inc6 C rfl rfl ?_
            refine mv_goto C rfl ?_
            simp only [nI_1]
            exact e
      have fin : ∀ (w4 w5 : Int32) (w6 : Option Value), V 143 [some (.ref 68), some (.int (nI kp)), some (.int (nI kt)), some (.int (nI n1)), some (.int w4), some (.int w5), w6] [] (mv_E (ky (mv_w z0 83 (kF F0 f1 n1)) m g)) := by
        intro w4 w5 w6
        have e := fill n1 0 w4 w5 (by omega)
        rw [kF_0, show mv_w (ky (mv_w z0 83 (kF F0 f1 n1)) m g) 82 G0 = ky (mv_w z0 83 (kF F0 f1 n1)) m g from by
          rw [← hG0, show z0.1 82 = (ky (mv_w z0 83 (kF F0 f1 n1)) m g).1 82 from rfl, mv_w_self]] at e
        refine mv_aload_n C rfl rfl ?_
        refine mv_iload_n C rfl rfl ?_
        refine mv_putI C rfl rfl rfl rfl ?_
        refine mv_iconst C rfl ?_
        refine mv_is6 C rfl rfl ?_
        exact e
      have loop : ∀ (k t p : Nat) (f : Nat → Nat) (n : Nat) (w6 : Option Value), t ≤ k → t ≤ kt → n + t ≤ 48 → p < u 0 0 → kMay u t p = true → kbk (kAll u) u (kMay u) k t p f n = (n1, f1) → V 55 [some (.ref 68), some (.int (nI kp)), some (.int (nI kt)), some (.int (nI n)), some (.int (nI p)), some (.int (nI t)), w6] [] (mv_E (ky (mv_w z0 83 (kF F0 f n)) m g)) := by
        intro k
        induction k with
        | zero =>
          intro t p f n w6 h2 h3 h4 h5 h6 h7
          simp only [kbk] at h7
          obtain ⟨rfl, rfl⟩ := Prod.mk.inj h7
          obtain rfl : t = 0 := by omega
          refine mv_iload C rfl rfl ?_
          refine mv_if_le C rfl (fun c57 => ?_) (fun c57 => ?_)
          · exact fin _ _ _
          · exact absurd (by decide) c57
        | succ k ih =>
          intro t p f n w6 h2 h3 h4 h5 h6 h7
          simp only [kbk] at h7
          by_cases ht0 : t = 0
          · rw [if_pos ht0] at h7
            obtain ⟨rfl, rfl⟩ := Prod.mk.inj h7
            subst ht0
            refine mv_iload C rfl rfl ?_
            refine mv_if_le C rfl (fun c57 => ?_) (fun c57 => ?_)
            · exact fin _ _ _
            · exact absurd (by decide) c57
          · rw [if_neg ht0] at h7
            have p57 : ¬ nI t ≤ 0 := fun q => by
              have := (nI_leI (b := 0) (by omega) (by decide)).mp q
              omega
            have R3 := r_cell (ky (mv_w z0 83 (kF F0 f n)) m g) (t - 1) p
            have y2 : (ky (mv_w z0 83 (kF F0 f n)) m g).1 80 ((t - 1) * 24 + p) = b1 (kMay u (t - 1) p) := hmt _ _ (by omega) h5
            cases hk2 : kMay u (t - 1) p with
            | true =>
              rw [hk2] at y2
              rw [show kcb (kAll u) u (kMay u) t p = 0 from by unfold kcb; rw [hk2]; rfl] at h7
              have e := ih (t - 1) p f n w6 (by omega) (by omega) (by omega) h5 hk2 h7
              refine mv_iload C rfl rfl ?_
              refine mv_if_le C rfl (fun c57 => ?_) (fun c57 => ?_)
              · exact absurd c57 p57
              · refine mv_aload_n C rfl rfl ?_
                refine mv_getR C rfl rfl rfl ?_
                refine mv_iload C rfl rfl ?_
                refine mv_iconst C rfl ?_
                refine mv_isub C rfl ?_
                refine mv_top (pk_sub (b := 1) (by omega)) ?_
                refine mv_iload C rfl rfl ?_
                refine mv_cS C rfl (mv_up R3 rfl) (by decide) rfl (Nat.le_of_ble_eq_true rfl) (Nat.le_refl _) (Nat.le_refl _) rfl ?_
                refine mv_zldJ C rfl rfl rfl (by omega) y2 ?_
                refine mv_if_eq C rfl (fun c74 => ?_) (fun c74 => ?_)
                · exact absurd c74 (by decide)
                · refine mv_inc5 C rfl rfl ?_
                  refine mv_goto C rfl ?_
                  rw [nI_dec (by omega)]
                  exact e
            | false =>
              rw [hk2] at y2
              obtain ⟨r, hr1⟩ := kMay_eq h6 (by omega) hk2
              rw [hr1] at h7
              obtain ⟨g1, g2, g3, g4⟩ := kcb_s hr1
              obtain ⟨q1, q2, q3, q4, q5⟩ := hi.2.2.2.1 r g2
              obtain ⟨e1, e2, e3, e4, e5⟩ := kcm_ends g3 q3
              have hl := kot_lt (p := p) hi g2
              have e := ih (t - u 5 r) (kot u r p - 1) (updN f n (kot u r p - 1)) (n + 1) (some (.int (nI r))) (by omega) (by omega) (by omega) (by omega) e5 h7
              rw [← kF_s] at e
              have hz1 : mH u (kAll u) (mv_w z0 83 (kF F0 f n)) := hm0
              have seek : ∀ (k j : Nat), j + k = r → V 86 [some (.ref 68), some (.int (nI kp)), some (.int (nI kt)), some (.int (nI n)), some (.int (nI p)), some (.int (nI t)), some (.int (nI j))] [] (mv_E (ky (mv_w z0 83 (kF F0 f n)) m g)) := by
                intro k
                induction k with
                | zero =>
                  intro j hj
                  obtain rfl : j = r := by omega
                  have R4 := r_mayCome (mv_w z0 83 (kF F0 f n)) u (kAll u) (kMay u) m g j p t 48 g2 (by omega) (by omega) (by omega) hi hz1 (fun t1 p1 a1 a2 => hmt t1 p1 (by omega) a2)
                  rw [kcm_B hi, g3] at R4
                  have y3 : (ky (mv_w z0 83 (kF F0 f n)) m g).1 73 j = nI (u 5 j) := (hm0.2.2.2.2.1 j).2.2.1
                  have R5 := r_other (ky (mv_w z0 83 (kF F0 f n)) m g) u (kAll u) j p g2 (by omega) hi hz1
                  rw [show hst (kot u j p) = nI (kot u j p - 1) from by
                    obtain ⟨x, hx⟩ : ∃ x, kot u j p = x + 1 := ⟨kot u j p - 1, by omega⟩
                    rw [hx]; rfl] at R5
                  refine mv_aload_n C rfl rfl ?_
                  refine mv_iload C rfl rfl ?_
                  refine mv_iload C rfl rfl ?_
                  refine mv_iload C rfl rfl ?_
                  refine mv_bipush C rfl ?_
                  refine mv_cV C rfl (mv_up R4 rfl) (by decide) rfl rfl rfl (Nat.le_of_ble_eq_true rfl) (Nat.le_refl _) (Nat.le_refl _) rfl ?_
                  refine mv_if_ne C rfl (fun c98 => ?_) (fun c98 => ?_)
                  · refine mv_iload C rfl rfl ?_
                    refine mv_aload_n C rfl rfl ?_
                    refine mv_getR C rfl rfl rfl ?_
                    refine mv_iload C rfl rfl ?_
                    refine mv_aldJ C rfl rfl rfl (by omega) y3 ?_
                    refine mv_isub C rfl ?_
                    refine mv_top (pk_sub e3) ?_
                    refine mv_is5 C rfl rfl ?_
                    refine mv_aload_n C rfl rfl ?_
                    refine mv_iload C rfl rfl ?_
                    refine mv_iload C rfl rfl ?_
                    refine mv_cV C rfl (mv_up R5 rfl) (by decide) rfl rfl rfl (Nat.le_of_ble_eq_true rfl) (Nat.le_refl _) (Nat.le_refl _) rfl ?_
                    refine mv_is4 C rfl rfl ?_
                    refine mv_aload_n C rfl rfl ?_
                    refine mv_getR C rfl rfl rfl ?_
                    refine mv_iload_n C rfl rfl ?_
                    refine mv_iload C rfl rfl ?_
                    refine mv_ast C rfl rfl rfl (by omega) ?_
                    refine mv_sto ky_u83 ?_
                    refine mv_inc3 C rfl rfl ?_
                    refine mv_goto C rfl ?_
                    simp only [nI_1]
                    exact e
                  · exact absurd c98 (by decide)
                | succ k ihk =>
                  intro j hj
                  have e6 := ihk (j + 1) (by omega)
                  have R4 := r_mayCome (mv_w z0 83 (kF F0 f n)) u (kAll u) (kMay u) m g j p t 48 (by omega) (by omega) (by omega) (by omega) hi hz1 (fun t1 p1 a1 a2 => hmt t1 p1 (by omega) a2)
                  rw [kcm_B hi, g4 j (by omega)] at R4
                  refine mv_aload_n C rfl rfl ?_
                  refine mv_iload C rfl rfl ?_
                  refine mv_iload C rfl rfl ?_
                  refine mv_iload C rfl rfl ?_
                  refine mv_bipush C rfl ?_
                  refine mv_cV C rfl (mv_up R4 rfl) (by decide) rfl rfl rfl (Nat.le_of_ble_eq_true rfl) (Nat.le_refl _) (Nat.le_refl _) rfl ?_
                  refine mv_if_ne C rfl (fun c98 => ?_) (fun c98 => ?_)
                  · exact absurd rfl c98
                  · refine mv_inc6 C rfl rfl ?_
                    refine mv_goto C rfl ?_
                    simp only [nI_1]
                    exact e6
              refine mv_iload C rfl rfl ?_
              refine mv_if_le C rfl (fun c57 => ?_) (fun c57 => ?_)
              · exact absurd c57 p57
              · refine mv_aload_n C rfl rfl ?_
                refine mv_getR C rfl rfl rfl ?_
                refine mv_iload C rfl rfl ?_
                refine mv_iconst C rfl ?_
                refine mv_isub C rfl ?_
                refine mv_top (pk_sub (b := 1) (by omega)) ?_
                refine mv_iload C rfl rfl ?_
                refine mv_cS C rfl (mv_up R3 rfl) (by decide) rfl (Nat.le_of_ble_eq_true rfl) (Nat.le_refl _) (Nat.le_refl _) rfl ?_
                refine mv_zldJ C rfl rfl rfl (by omega) y2 ?_
                refine mv_if_eq C rfl (fun c74 => ?_) (fun c74 => ?_)
                · refine mv_iconst C rfl ?_
                  refine mv_is6 C rfl rfl ?_
                  exact seek r 0 (by omega)
                · exact absurd rfl c74
      have e := loop 48 kt kp (updN (fun _ => 0) 0 kp) 1 none (by omega) (by omega) (by omega) lp hk hr
      rw [← kF_s, kF_0, ← ky_u83, ← hF0, mv_w_self] at e
      refine mv_aload_n C rfl rfl ?_
      refine mv_iconst C rfl ?_
      refine mv_putI C rfl rfl rfl rfl ?_
      rw [hz0]
      refine mv_aload_n C rfl rfl ?_
      refine mv_iload_n C rfl rfl ?_
      refine mv_iload_n C rfl rfl ?_
      refine mv_cV C rfl (mv_up R0 rfl) (by decide) rfl rfl rfl (Nat.le_of_ble_eq_true rfl) (Nat.le_refl _) (Nat.le_refl _) rfl ?_
      refine mv_if_ne C rfl (fun c11 => ?_) (fun c11 => ?_)
      · refine mv_aload_n C rfl rfl ?_
        refine mv_bipush C rfl ?_
        refine mv_iconst C rfl ?_
        refine mv_iconst C rfl ?_
        refine mv_cV C rfl hR (by decide) rfl rfl rfl (Nat.le_of_ble_eq_true rfl) (Nat.le_refl _) (Nat.le_refl _) rfl ?_
        refine mv_aload_n C rfl rfl ?_
        refine mv_getR C rfl rfl rfl ?_
        refine mv_iload_n C rfl rfl ?_
        refine mv_iload_n C rfl rfl ?_
        refine mv_cS C rfl (mv_up R2 rfl) (by decide) rfl (Nat.le_of_ble_eq_true rfl) (Nat.le_refl _) (Nat.le_refl _) rfl ?_
        refine mv_zldJ C rfl rfl rfl (by omega) y1 ?_
        refine mv_if_ne C rfl (fun c34 => ?_) (fun c34 => ?_)
        · refine mv_iconst C rfl ?_
          refine mv_is_n3 C rfl rfl ?_
          refine mv_iload_n C rfl rfl ?_
          refine mv_is4 C rfl rfl ?_
          refine mv_iload_n C rfl rfl ?_
          refine mv_is5 C rfl rfl ?_
          refine mv_aload_n C rfl rfl ?_
          refine mv_getR C rfl rfl rfl ?_
          refine mv_iconst C rfl ?_
          refine mv_iload C rfl rfl ?_
          refine mv_ast C rfl rfl (show (0 : Int32) = nI 0 from rfl) (by omega) ?_
          exact e
        · exact absurd c34 (by decide)
      · exact absurd c11 (by decide)
  · rw [if_neg hc] at R0 ⊢
    rw [if_neg hc]
    refine ⟨_, mv_up (d := 5) (S1 := mv_E (mv_u z 68 0 0)) ?_ rfl, h0, f0⟩
    refine mv_start pX11_trail (some .int) [some (.ref 68), some (.int p), some (.int t), none, none, none, none] rfl rfl rfl rfl (fun V C => ?_)
    refine mv_aload_n C rfl rfl ?_
    refine mv_iconst C rfl ?_
    refine mv_putI C rfl rfl rfl rfl ?_
    refine mv_aload_n C rfl rfl ?_
    refine mv_iload_n C rfl rfl ?_
    refine mv_iload_n C rfl rfl ?_
    refine mv_cV C rfl (mv_up R0 rfl) (by decide) rfl rfl rfl (Nat.le_of_ble_eq_true rfl) (Nat.le_refl _) (Nat.le_refl _) rfl ?_
    refine mv_if_ne C rfl (fun c11 => ?_) (fun c11 => ?_)
    · exact absurd rfl c11
    · refine mv_iconst C rfl ?_
      refine mv_ireturn C rfl mv_okI ?_ ?_
      all_goals rfl
end

