section
def mv_Fr (P : List (Nat × mv_I)) (rt : Option FieldType) (d : Nat) (r : Option Value) (S1 : mv_S) (pc : Nat) (ls : mv_L) (S : mv_S) : Prop := ∀ V : Nat → mv_L → List Value → mv_S → Prop, mv_Clo P rt (mv_Runs d) S1.1 S1.2.1 r S1 V → V pc ls [] S
theorem kR_W {A : Nat → Bool} {u : hM} {W W1 : Nat → Nat → Bool} : ∀ (n t p : Nat), t < n → (∀ t1 p1, t1 ≤ t → W t1 p1 = W1 t1 p1) → kR A u W t p = kR A u W1 t p
  | 0, _, _, h, _ => absurd h (by omega)
  | n + 1, t, p, h, hW => by
    rw [kR_eq, kR_eq, hW t p (Nat.le_refl _)]
    rw [kst_c (fun t1 p1 h1 => kR_W n t1 p1 (by omega) (fun t2 p2 h2 => hW t2 p2 (by omega)))]
/-- where he may be if the parishes w are watched from hour B to hour U, facts up to B -/
def kwR (u : hM) (B U : Nat) (w : Nat → Bool) : Nat → Nat → Bool := kR (kB (kAll u) u B) u (kbw w B U)
/-- he gets out -/
def kGO (u : hM) (B U : Nat) (w : Nat → Bool) : Bool := kany (fun t => decide (B ≤ t ∧ t ≤ U) && kany (fun p => decide (u 7 p = 1) && kwR u B U w t p) (u 0 0)) 48
theorem kGO_t {u : hM} {B U : Nat} {w : Nat → Bool} (hU : U < 48) : kGO u B U w = true ↔ ∃ t p, B ≤ t ∧ t ≤ U ∧ p < u 0 0 ∧ u 7 p = 1 ∧ kwR u B U w t p = true := by
  unfold kGO
  rw [kany_t]
  constructor
  · rintro ⟨t, ht, h⟩
    rw [Bool.and_eq_true, kany_t, decide_eq_true_eq] at h
    obtain ⟨⟨h1, h2⟩, p, hp, h3⟩ := h
    rw [Bool.and_eq_true, decide_eq_true_eq] at h3
    exact ⟨t, p, h1, h2, hp, h3.1, h3.2⟩
  · rintro ⟨t, p, h1, h2, hp, h3, h4⟩
    refine ⟨t, by omega, ?_⟩
    rw [Bool.and_eq_true, kany_t, decide_eq_true_eq]
    exact ⟨⟨h1, h2⟩, p, hp, by rw [h4, decide_eq_true h3]; rfl⟩
theorem kwR_lo {u : hM} {B U : Nat} {w w1 : Nat → Bool} {t p : Nat} (h : t < B) : kwR u B U w t p = kwR u B U w1 t p := by
  unfold kwR
  apply kR_W (t + 1) t p (by omega)
  intro t1 p1 h1
  unfold kbw
  rw [decide_eq_false (by omega), Bool.and_false, Bool.and_false]
theorem kwR_kW {u : hM} {B U : Nat} {w : Nat → Bool} {t p : Nat} (h : t < B) : kwR u B U w t p = kR (kB (kAll u) u B) u kW t p := by
  unfold kwR
  apply kR_W (t + 1) t p (by omega)
  intro t1 p1 h1
  unfold kbw kW
  rw [decide_eq_false (by omega), Bool.and_false]
/-- parishes of a way back, from hour B on -/
def kwb (A : Nat → Bool) (u : hM) (R : Nat → Nat → Bool) (B : Nat) : Nat → Nat → Nat → Nat → Bool
  | 0, _, _ => fun _ => false
  | k + 1, t, p => if t ≤ B then fun _ => false else match kcb A u R t p with
    | 0 => kwb A u R B k (t - 1) p
    | r + 1 => fun i => (decide (B ≤ t - u 5 r) && decide (i = kot u r p - 1)) || kwb A u R B k (t - u 5 r) (kot u r p - 1) i
theorem kway0 {u : hM} {B U : Nat} {w0 w : Nat → Bool} {t p : Nat} (ht : t ≤ B) (h : kwR u B U w0 t p = true) (hw : B ≤ t → w p = false) : kwR u B U w t p = true := by
  rcases Nat.lt_or_ge t B with q | q
  · rw [kwR_lo (w1 := w0) q]; exact h
  · have e : t = B := by omega
    subst e
    unfold kwR at h ⊢
    rw [kR_eq] at h ⊢
    rw [Bool.and_eq_true] at h ⊢
    refine ⟨?_, by unfold kbw; rw [hw q]; rfl⟩
    rw [kst_c (R := kR (kB (kAll u) u t) u (kbw w t U)) (R1 := kR (kB (kAll u) u t) u (kbw w0 t U)) (fun t1 p1 h1 => kwR_lo (w := w) (w1 := w0) (U := U) h1)]
    exact h.1
theorem kway {u : hM} {B U : Nat} {w0 w : Nat → Bool} (hi : hI u) : ∀ (k t p : Nat), t ≤ B + k → kwR u B U w0 t p = true → (B ≤ t → w p = false) → (∀ i, kwb (kB (kAll u) u B) u (kwR u B U w0) B k t p i = true → w i = false) → kwR u B U w t p = true
  | 0, t, p, hk, h, hw, _ => kway0 (by omega) h hw
  | k + 1, t, p, hk, h, hw, hd => by
    by_cases hB : t ≤ B
    · exact kway0 hB h hw
    · simp only [kwb] at hd
      rw [if_neg hB] at hd
      have h0 := h
      unfold kwR at h
      rw [kR_eq] at h
      unfold kst at h
      rw [if_neg (by omega)] at h
      simp only [Bool.and_eq_true, Bool.or_eq_true, kany_t] at h
      obtain ⟨⟨h1, h2⟩, -⟩ := h
      have goal : (kwR u B U w (t - 1) p = true ∨ ∃ r, r < u 2 0 ∧ kcm (kB (kAll u) u B) u (kwR u B U w) r p t = true) → kwR u B U w t p = true := fun q => by
        unfold kwR at q ⊢
        rw [kR_eq]
        unfold kst
        rw [if_neg (by omega)]
        simp only [Bool.and_eq_true, Bool.or_eq_true, kany_t]
        exact ⟨⟨q, h2⟩, by unfold kbw; rw [hw (by omega)]; rfl⟩
      cases hk2 : kcb (kB (kAll u) u B) u (kwR u B U w0) t p with
      | zero =>
        rw [hk2] at hd
        have hR : kwR u B U w0 (t - 1) p = true := by
          rcases h1 with q | ⟨r, hr, q⟩
          · exact q
          · cases hR : kwR u B U w0 (t - 1) p with
            | true => rfl
            | false =>
              unfold kcb at hk2
              rw [hR] at hk2
              have := kfd_n hk2 r (by omega) (by omega)
              rw [show kcm (kB (kAll u) u B) u (kwR u B U w0) r p t = true from q] at this
              cases this
        exact goal (Or.inl (kway hi k (t - 1) p (by omega) hR (fun _ => hw (by omega)) hd))
      | succ r =>
        rw [hk2] at hd
        dsimp only at hd
        obtain ⟨g1, g2, g3, g4⟩ := kcb_s hk2
        obtain ⟨q1, q2, q3, q4, q5⟩ := hi.2.2.2.1 r g2
        obtain ⟨e1, e2, e3, e4, e5⟩ := kcm_ends g3 q3
        have hrec := kway hi k (t - u 5 r) (kot u r p - 1) (by omega) e5 (fun q => hd _ (by rw [decide_eq_true q]; simp)) (fun i q => hd i (by rw [q, Bool.or_true]))
        refine goal (Or.inr ⟨r, g2, ?_⟩)
        rw [kcm_o q3] at g3 ⊢
        rw [hrec]
        simp only [Bool.and_eq_true] at g3 ⊢
        exact ⟨⟨g3.1.1, g3.1.2.1, trivial⟩, g3.2⟩
theorem r_wayBits (z : mv_Z) (u : hM) (A : Nat → Bool) (R : Nat → Nat → Bool) (a : Nat → Int32) (b : Nat → Int64) (c d : Nat → Int32) (p0 t0 B : Nat) (hi : hI u) (hz : rX u z) (hp : p0 < u 0 0) (ht : t0 < 48) (hB : B < 48) (ok : kOK A u a b) (hc : ∀ t1, t1 ≤ t0 → c t1 = kb (R t1)) : mv_Runs 4 29 [.ref 2, .int (nI p0), .int (nI t0), .int (nI B)] (mv_E (kz z a b c d)) (some (.int (kb (fun i => decide (i = p0) || kwb A u R B 48 t0 p0 i)))) (mv_E (kz z a b c d)) := by
  have h24 := hi.1
  have hr40 := hi.2.2.1
  generalize hv : kb (fun i => decide (i = p0) || kwb A u R B 48 t0 p0 i) = v
  refine mv_start pX1_wayBits (some .int) [some (.ref 2), some (.int (nI p0)), some (.int (nI t0)), some (.int (nI B)), none, none, none, none, none] rfl rfl rfl rfl (fun V C => ?_)
  have loop : ∀ (k i t p : Nat) (acc : Nat → Bool) (w8 : Option Value), i + k = 48 → t ≤ k → t ≤ t0 → p < u 0 0 → kb (fun i => acc i || kwb A u R B k t p i) = v → V 15 [some (.ref 2), some (.int (nI p0)), some (.int (nI t0)), some (.int (nI B)), some (.int (kb acc)), some (.int (nI p)), some (.int (nI t)), some (.int (nI i)), w8] [] (mv_E (kz z a b c d)) := by
    intro k
    induction k with
    | zero =>
      intro i t p acc w8 h1 h2 h3 h4 h5
      simp only [kwb, Bool.or_false] at h5
      refine mv_iload C rfl rfl ?_
      refine mv_bipush C rfl ?_
      refine mv_icmp_ge C rfl (fun c19 => ?_) (fun c19 => ?_)
      · refine mv_iload C rfl rfl ?_
        refine mv_ireturn C rfl mv_okI ?_ ?_
        all_goals first | rfl | (rw [← h5])
      · exact absurd (nI_le (a := 48) (by omega) (by omega)) c19
    | succ k ih =>
      intro i t p acc w8 h1 h2 h3 h4 h5
      simp only [kwb] at h5
      by_cases hB2 : t ≤ B
      · rw [if_pos hB2] at h5
        simp only [Bool.or_false] at h5
        refine mv_iload C rfl rfl ?_
        refine mv_bipush C rfl ?_
        refine mv_icmp_ge C rfl (fun c19 => ?_) (fun c19 => ?_)
        · exact absurd c19 (nI_ge (b := 48) (by omega) (by decide))
        · refine mv_iload C rfl rfl ?_
          refine mv_iload_n C rfl rfl ?_
          refine mv_icmp_le C rfl (fun c25 => ?_) (fun c25 => ?_)
          · refine mv_iload C rfl rfl ?_
            refine mv_ireturn C rfl mv_okI ?_ ?_
            all_goals first | rfl | (rw [← h5])
          · exact absurd ((nI_leI (by omega) (by omega)).mpr hB2) c25
      · rw [if_neg hB2] at h5
        have p25 : ¬ nI t ≤ nI B := fun q => hB2 ((nI_leI (by omega) (by omega)).mp q)
        have R1 := r_cameBy z u A R a b c d p t hi hz (by omega) (by omega) (by omega) ok (fun t1 q => hc t1 (by omega))
        cases hk : kcb A u R t p with
        | zero =>
          rw [hk] at R1 h5
          have e := ih (i + 1) (t - 1) p acc (some (.int (-1))) (by omega) (by omega) (by omega) h4 h5
          refine mv_iload C rfl rfl ?_
          refine mv_bipush C rfl ?_
          refine mv_icmp_ge C rfl (fun c19 => ?_) (fun c19 => ?_)
          · exact absurd c19 (nI_ge (b := 48) (by omega) (by decide))
          · refine mv_iload C rfl rfl ?_
            refine mv_iload_n C rfl rfl ?_
            refine mv_icmp_le C rfl (fun c25 => ?_) (fun c25 => ?_)
            · exact absurd c25 p25
            · refine mv_aload_n C rfl rfl ?_
              refine mv_iload C rfl rfl ?_
              refine mv_iload C rfl rfl ?_
              refine mv_cV C rfl R1 (by decide) rfl rfl rfl (Nat.le_of_ble_eq_true rfl) (Nat.le_refl _) (Nat.le_refl _) rfl ?_
              refine mv_is8 C rfl rfl ?_
              refine mv_iload C rfl rfl ?_
              refine mv_iconst C rfl ?_
              refine mv_icmp_ne C rfl (fun c41 => ?_) (fun c41 => ?_)
              · exact absurd rfl c41
              · refine mv_inc6 C rfl rfl ?_
                refine mv_goto C rfl ?_
                refine mv_inc7 C rfl rfl ?_
                refine mv_goto C rfl ?_
                simp only [nI_1]
                rw [nI_dec (by omega)]
                exact e
        | succ r =>
          rw [hk] at R1 h5
          dsimp only at h5
          obtain ⟨g1, g2, g3, g4⟩ := kcb_s hk
          obtain ⟨q1, q2, q3, q4, q5⟩ := hi.2.2.2.1 r g2
          obtain ⟨e1, e2, e3, e4, e5⟩ := kcm_ends g3 q3
          have hl := kot_lt (p := p) hi g2
          have y1 : (kz z a b c d).1 8 r = nI (u 5 r) := rX_a hz 8 5 (by decide) r
          have R2 := r_otherEndU (kz z a b c d) u r p hi (kz_rX hz _ _ _ _) g2 e1
          have R3 := r_bit (kz z a b c d) (nI (kot u r p - 1))
          rw [kb_bit (by omega)] at R3
          by_cases hle : B ≤ t - u 5 r
          · have e := ih (i + 1) (t - u 5 r) (kot u r p - 1) (fun i => acc i || decide (i = kot u r p - 1)) (some (.int (nI r))) (by omega) (by omega) (by omega) (by omega) (by rw [← h5]; apply kb_c; intro j _; rw [decide_eq_true hle, Bool.true_and, Bool.or_assoc])
            refine mv_iload C rfl rfl ?_
            refine mv_bipush C rfl ?_
            refine mv_icmp_ge C rfl (fun c19 => ?_) (fun c19 => ?_)
            · exact absurd c19 (nI_ge (b := 48) (by omega) (by decide))
            · refine mv_iload C rfl rfl ?_
              refine mv_iload_n C rfl rfl ?_
              refine mv_icmp_le C rfl (fun c25 => ?_) (fun c25 => ?_)
              · exact absurd c25 p25
              · refine mv_aload_n C rfl rfl ?_
                refine mv_iload C rfl rfl ?_
                refine mv_iload C rfl rfl ?_
                refine mv_cV C rfl R1 (by decide) rfl rfl rfl (Nat.le_of_ble_eq_true rfl) (Nat.le_refl _) (Nat.le_refl _) rfl ?_
                refine mv_is8 C rfl rfl ?_
                refine mv_iload C rfl rfl ?_
                refine mv_iconst C rfl ?_
                refine mv_icmp_ne C rfl (fun c41 => ?_) (fun c41 => ?_)
                · refine mv_iload C rfl rfl ?_
                  refine mv_aload_n C rfl rfl ?_
                  refine mv_getR C rfl rfl rfl ?_
                  refine mv_getR C rfl rfl rfl ?_
                  refine mv_iload C rfl rfl ?_
                  refine mv_aldJ C rfl rfl rfl (by omega) y1 ?_
                  refine mv_isub C rfl ?_
                  refine mv_top (pk_sub e3) ?_
                  refine mv_is6 C rfl rfl ?_
                  refine mv_aload_n C rfl rfl ?_
                  refine mv_getR C rfl rfl rfl ?_
                  refine mv_iload C rfl rfl ?_
                  refine mv_iload C rfl rfl ?_
                  refine mv_cV C rfl (mv_up R2 rfl) (by decide) rfl rfl rfl (Nat.le_of_ble_eq_true rfl) (Nat.le_refl _) (Nat.le_refl _) rfl ?_
                  refine mv_is5 C rfl rfl ?_
                  refine mv_iload C rfl rfl ?_
                  refine mv_iload C rfl rfl ?_
                  refine mv_iload_n C rfl rfl ?_
                  refine mv_icmp_lt C rfl (fun c83 => ?_) (fun c83 => ?_)
                  · exact absurd ((nI_ltI (by omega) (by omega)).mp c83) (by omega)
                  · refine mv_iload C rfl rfl ?_
                    refine mv_cS C rfl (mv_up R3 rfl) (by decide) rfl (Nat.le_of_ble_eq_true rfl) (Nat.le_refl _) (Nat.le_refl _) rfl ?_
                    refine mv_goto C rfl ?_
                    refine mv_ior C rfl ?_
                    refine mv_top (kb_or _ _) ?_
                    refine mv_is4 C rfl rfl ?_
                    refine mv_inc7 C rfl rfl ?_
                    refine mv_goto C rfl ?_
                    simp only [nI_1]
                    exact e
                · exact absurd c41 (nI_nm1 (by omega))
          · have e := ih (i + 1) (t - u 5 r) (kot u r p - 1) acc (some (.int (nI r))) (by omega) (by omega) (by omega) (by omega) (by rw [← h5]; apply kb_c; intro j _; rw [decide_eq_false hle, Bool.false_and, Bool.false_or])
            have e0 : kb acc ||| 0 = kb acc := by rw [kb_0, kb_or]; apply kb_c; intro j _; simp
            refine mv_iload C rfl rfl ?_
            refine mv_bipush C rfl ?_
            refine mv_icmp_ge C rfl (fun c19 => ?_) (fun c19 => ?_)
            · exact absurd c19 (nI_ge (b := 48) (by omega) (by decide))
            · refine mv_iload C rfl rfl ?_
              refine mv_iload_n C rfl rfl ?_
              refine mv_icmp_le C rfl (fun c25 => ?_) (fun c25 => ?_)
              · exact absurd c25 p25
              · refine mv_aload_n C rfl rfl ?_
                refine mv_iload C rfl rfl ?_
                refine mv_iload C rfl rfl ?_
                refine mv_cV C rfl R1 (by decide) rfl rfl rfl (Nat.le_of_ble_eq_true rfl) (Nat.le_refl _) (Nat.le_refl _) rfl ?_
                refine mv_is8 C rfl rfl ?_
                refine mv_iload C rfl rfl ?_
                refine mv_iconst C rfl ?_
                refine mv_icmp_ne C rfl (fun c41 => ?_) (fun c41 => ?_)
                · refine mv_iload C rfl rfl ?_
                  refine mv_aload_n C rfl rfl ?_
                  refine mv_getR C rfl rfl rfl ?_
                  refine mv_getR C rfl rfl rfl ?_
                  refine mv_iload C rfl rfl ?_
                  refine mv_aldJ C rfl rfl rfl (by omega) y1 ?_
                  refine mv_isub C rfl ?_
                  refine mv_top (pk_sub e3) ?_
                  refine mv_is6 C rfl rfl ?_
                  refine mv_aload_n C rfl rfl ?_
                  refine mv_getR C rfl rfl rfl ?_
                  refine mv_iload C rfl rfl ?_
                  refine mv_iload C rfl rfl ?_
                  refine mv_cV C rfl (mv_up R2 rfl) (by decide) rfl rfl rfl (Nat.le_of_ble_eq_true rfl) (Nat.le_refl _) (Nat.le_refl _) rfl ?_
                  refine mv_is5 C rfl rfl ?_
                  refine mv_iload C rfl rfl ?_
                  refine mv_iload C rfl rfl ?_
                  refine mv_iload_n C rfl rfl ?_
                  refine mv_icmp_lt C rfl (fun c83 => ?_) (fun c83 => ?_)
                  · refine mv_iconst C rfl ?_
                    refine mv_ior C rfl ?_
                    refine mv_top e0 ?_
                    refine mv_is4 C rfl rfl ?_
                    refine mv_inc7 C rfl rfl ?_
                    refine mv_goto C rfl ?_
                    simp only [nI_1]
                    exact e
                  · exact absurd (nI_lt (by omega) (by omega)) c83
                · exact absurd c41 (nI_nm1 (by omega))
  have R0 := r_bit (kz z a b c d) (nI p0)
  rw [kb_bit (by omega)] at R0
  have e := loop 48 0 t0 p0 (fun i => decide (i = p0)) none (by omega) (by omega) (by omega) hp hv
  refine mv_iload_n C rfl rfl ?_
  refine mv_cS C rfl (mv_up R0 rfl) (by decide) rfl (Nat.le_of_ble_eq_true rfl) (Nat.le_refl _) (Nat.le_refl _) rfl ?_
  refine mv_is4 C rfl rfl ?_
  refine mv_iload_n C rfl rfl ?_
  refine mv_is5 C rfl rfl ?_
  refine mv_iload_n C rfl rfl ?_
  refine mv_is6 C rfl rfl ?_
  refine mv_iconst C rfl ?_
  refine mv_is7 C rfl rfl ?_
  exact e
end

