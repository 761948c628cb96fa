section
abbrev kask (u : hM) (p t : Int32) : Prop := (0 ≤ p ∧ p < nI (u 0 0)) ∧ (0 ≤ t ∧ t < 48) ∧ ¬ u 8 0 = 0
theorem kst0 {u : hM} (hi : hI u) : ¬ hst (u 8 0) = -1 ↔ ¬ u 8 0 = 0 := by
  have h24 := hi.1
  have h8 : u 8 0 ≤ u 0 0 := hi.2.2.2.2.2.2.1
  rw [hst_m1 (by omega)]
theorem r_canAskU (z : mv_Z) (u : hM) (p t : Int32) (hi : hI u) (hz : rX u z) : mv_Runs 2 105 [.ref 0, .int p, .int t] (mv_E z) (some (.int (if kask u p t then 1 else 0))) (mv_E z) := by
  have R := r_canAsk z p t
  rw [rX_s hz 3 6 0 (by decide), show z.1 3 9 = hst (u 8 0) from hz.2.2.1] at R
  have e : (if (0 ≤ p ∧ p < nI (u 0 0)) ∧ (0 ≤ t ∧ t < 48) ∧ ¬ hst (u 8 0) = -1 then (1 : Int32) else 0) = (if kask u p t then 1 else 0) := by
    unfold kask
    simp only [kst0 hi]
  rw [e] at R; exact R
theorem kask_n {u : hM} {p t : Int32} (hi : hI u) (h : kask u p t) : (p.toNatClampNeg < u 0 0 ∧ p = nI p.toNatClampNeg) ∧ (t.toNatClampNeg < 48 ∧ t = nI t.toNatClampNeg) := ⟨nI_rngc h.1.1 h.1.2 (by have := hi.1; omega), nI_rngc h.2.1.1 (show t < nI 48 from h.2.1.2) (by decide)⟩
theorem k_has01 {g : Nat → Bool} {p : Nat} (hp : p < 32) : (if (kb g >>> (nI p &&& 31)) &&& 1 = 0 then (0 : Int32) else 1) = (bif g p then 1 else 0) := by
  cases h : g p with
  | true => rw [if_neg (by rw [kb_has hp, h]; decide)]; rfl
  | false => rw [if_pos ((kb_has hp).mpr h)]; rfl
def a_may (u : hM) (p t : Int32) : Int32 := if kask u p t then (bif kMay u t.toNatClampNeg p.toNatClampNeg then 1 else 0) else -1
def a_was (u : hM) (p t : Int32) : Int32 := if kask u p t then (bif kWas u t.toNatClampNeg p.toNatClampNeg then 1 else 0) else -1
theorem x_may (u : hM) (z : mv_Z) (p t : Int32) (hi : hI u) (hz : rX u z) : xR 83 [.int p, .int t] u z (.int (a_may u p t)) u := by
  have h24 := hi.1
  have R0 := r_canAskU z u p t hi hz
  unfold a_may
  by_cases hc : kask u p t
  · rw [if_pos hc] at R0 ⊢
    obtain ⟨ep, et⟩ := kask_n hi hc
    generalize p.toNatClampNeg = kp at *
    generalize t.toNatClampNeg = kt at *
    obtain ⟨lp, rfl⟩ := ep
    obtain ⟨lt, rfl⟩ := et
    obtain ⟨a, b, c, R, -, -⟩ := r_mayBe z u kt hi hz lt
    have R2 := r_has (kz z a b c (z.1 18)) (kb (kMay u kt)) (nI kp)
    rw [k_has01 (by omega)] at R2
    refine ⟨_, mv_up (d := 6) (S1 := mv_E (kz z a b c (z.1 18))) ?_ rfl, kz_rX hz _ _ _ _, kz_fX fX_rf _ _ _ _⟩
    cases hm : kMay u kt kp with
    | true =>
      rw [hm] at R2
      refine mv_start pX10_may (some .int) [some (.ref 0), some (.int (nI kp)), some (.int (nI kt))] rfl rfl rfl rfl (fun V C => ?_)
      refine mv_aload_n C rfl rfl ?_
      refine mv_iload_n C rfl rfl ?_
      refine mv_iload_n C rfl rfl ?_
      refine mv_cV C rfl (mv_up R0 rfl) (by decide) rfl rfl rfl (Nat.le_of_ble_eq_true rfl) (Nat.le_refl _) (Nat.le_refl _) rfl ?_
      refine mv_if_ne C rfl (fun c6 => ?_) (fun c6 => ?_)
      · refine mv_aload_n C rfl rfl ?_
        refine mv_getR C rfl rfl rfl ?_
        refine mv_iload_n C rfl rfl ?_
        refine mv_cV C rfl R (by decide) rfl rfl rfl (Nat.le_of_ble_eq_true rfl) (Nat.le_refl _) (Nat.le_refl _) rfl ?_
        refine mv_iload_n C rfl rfl ?_
        refine mv_cS C rfl (mv_up R2 rfl) (by decide) rfl (Nat.le_of_ble_eq_true rfl) (Nat.le_refl _) (Nat.le_refl _) rfl ?_
        refine mv_if_eq C rfl (fun c23 => ?_) (fun c23 => ?_)
        · exact absurd c23 (by decide)
        · refine mv_iconst C rfl ?_
          refine mv_goto C rfl ?_
          refine mv_ireturn C rfl mv_okI ?_ ?_
          all_goals rfl
      · exact absurd c6 (by decide)
    | false =>
      rw [hm] at R2
      refine mv_start pX10_may (some .int) [some (.ref 0), some (.int (nI kp)), some (.int (nI kt))] rfl rfl rfl rfl (fun V C => ?_)
      refine mv_aload_n C rfl rfl ?_
      refine mv_iload_n C rfl rfl ?_
      refine mv_iload_n C rfl rfl ?_
      refine mv_cV C rfl (mv_up R0 rfl) (by decide) rfl rfl rfl (Nat.le_of_ble_eq_true rfl) (Nat.le_refl _) (Nat.le_refl _) rfl ?_
      refine mv_if_ne C rfl (fun c6 => ?_) (fun c6 => ?_)
      · refine mv_aload_n C rfl rfl ?_
        refine mv_getR C rfl rfl rfl ?_
        refine mv_iload_n C rfl rfl ?_
        refine mv_cV C rfl R (by decide) rfl rfl rfl (Nat.le_of_ble_eq_true rfl) (Nat.le_refl _) (Nat.le_refl _) rfl ?_
        refine mv_iload_n C rfl rfl ?_
        refine mv_cS C rfl (mv_up R2 rfl) (by decide) rfl (Nat.le_of_ble_eq_true rfl) (Nat.le_refl _) (Nat.le_refl _) rfl ?_
        refine mv_if_eq C rfl (fun c23 => ?_) (fun c23 => ?_)
        · refine mv_iconst C rfl ?_
          refine mv_ireturn C rfl mv_okI ?_ ?_
          all_goals rfl
        · exact absurd rfl c23
      · exact absurd c6 (by decide)
  · rw [if_neg hc] at R0 ⊢
    refine ⟨_, mv_up (d := 3) (S1 := mv_E z) ?_ rfl, hz, fX_rf⟩
    refine mv_start pX10_may (some .int) [some (.ref 0), some (.int p), some (.int t)] rfl rfl rfl rfl (fun V C => ?_)
    refine mv_aload_n C rfl rfl ?_
    refine mv_iload_n C rfl rfl ?_
    refine mv_iload_n C rfl rfl ?_
    refine mv_cV C rfl R0 (by decide) rfl rfl rfl (Nat.le_of_ble_eq_true rfl) (Nat.le_refl _) (Nat.le_refl _) rfl ?_
    refine mv_if_ne C rfl (fun c6 => ?_) (fun c6 => ?_)
    · exact absurd rfl c6
    · refine mv_iconst C rfl ?_
      refine mv_ireturn C rfl mv_okI ?_ ?_
      all_goals rfl
theorem x_was (u : hM) (z : mv_Z) (p t : Int32) (hi : hI u) (hz : rX u z) : xR 84 [.int p, .int t] u z (.int (a_was u p t)) u := by
  have h24 := hi.1
  have R0 := r_canAskU z u p t hi hz
  unfold a_was
  by_cases hc : kask u p t
  · rw [if_pos hc] at R0 ⊢
    obtain ⟨ep, et⟩ := kask_n hi hc
    generalize p.toNatClampNeg = kp at *
    generalize t.toNatClampNeg = kt at *
    obtain ⟨lp, rfl⟩ := ep
    obtain ⟨lt, rfl⟩ := et
    obtain ⟨a, b, c, d, R⟩ := r_mayHaveBeen z u kt hi hz lt
    have R2 := r_has (kz z a b c d) (kb (kWas u kt)) (nI kp)
    rw [k_has01 (by omega)] at R2
    refine ⟨_, mv_up (d := 6) (S1 := mv_E (kz z a b c d)) ?_ rfl, kz_rX hz _ _ _ _, kz_fX fX_rf _ _ _ _⟩
    cases hm : kWas u kt kp with
    | true =>
      rw [hm] at R2
      refine mv_start pX10_was (some .int) [some (.ref 0), some (.int (nI kp)), some (.int (nI kt))] rfl rfl rfl rfl (fun V C => ?_)
      refine mv_aload_n C rfl rfl ?_
      refine mv_iload_n C rfl rfl ?_
      refine mv_iload_n C rfl rfl ?_
      refine mv_cV C rfl (mv_up R0 rfl) (by decide) rfl rfl rfl (Nat.le_of_ble_eq_true rfl) (Nat.le_refl _) (Nat.le_refl _) rfl ?_
      refine mv_if_ne C rfl (fun c6 => ?_) (fun c6 => ?_)
      · refine mv_aload_n C rfl rfl ?_
        refine mv_getR C rfl rfl rfl ?_
        refine mv_iload_n C rfl rfl ?_
        refine mv_cV C rfl R (by decide) rfl rfl rfl (Nat.le_of_ble_eq_true rfl) (Nat.le_refl _) (Nat.le_refl _) rfl ?_
        refine mv_iload_n C rfl rfl ?_
        refine mv_cS C rfl (mv_up R2 rfl) (by decide) rfl (Nat.le_of_ble_eq_true rfl) (Nat.le_refl _) (Nat.le_refl _) rfl ?_
        refine mv_if_eq C rfl (fun c23 => ?_) (fun c23 => ?_)
        · exact absurd c23 (by decide)
        · refine mv_iconst C rfl ?_
          refine mv_goto C rfl ?_
          refine mv_ireturn C rfl mv_okI ?_ ?_
          all_goals rfl
      · exact absurd c6 (by decide)
    | false =>
      rw [hm] at R2
      refine mv_start pX10_was (some .int) [some (.ref 0), some (.int (nI kp)), some (.int (nI kt))] rfl rfl rfl rfl (fun V C => ?_)
      refine mv_aload_n C rfl rfl ?_
      refine mv_iload_n C rfl rfl ?_
      refine mv_iload_n C rfl rfl ?_
      refine mv_cV C rfl (mv_up R0 rfl) (by decide) rfl rfl rfl (Nat.le_of_ble_eq_true rfl) (Nat.le_refl _) (Nat.le_refl _) rfl ?_
      refine mv_if_ne C rfl (fun c6 => ?_) (fun c6 => ?_)
      · refine mv_aload_n C rfl rfl ?_
        refine mv_getR C rfl rfl rfl ?_
        refine mv_iload_n C rfl rfl ?_
        refine mv_cV C rfl R (by decide) rfl rfl rfl (Nat.le_of_ble_eq_true rfl) (Nat.le_refl _) (Nat.le_refl _) rfl ?_
        refine mv_iload_n C rfl rfl ?_
        refine mv_cS C rfl (mv_up R2 rfl) (by decide) rfl (Nat.le_of_ble_eq_true rfl) (Nat.le_refl _) (Nat.le_refl _) rfl ?_
        refine mv_if_eq C rfl (fun c23 => ?_) (fun c23 => ?_)
        · refine mv_iconst C rfl ?_
          refine mv_ireturn C rfl mv_okI ?_ ?_
          all_goals rfl
        · exact absurd rfl c23
      · exact absurd c6 (by decide)
  · rw [if_neg hc] at R0 ⊢
    refine ⟨_, mv_up (d := 3) (S1 := mv_E z) ?_ rfl, hz, fX_rf⟩
    refine mv_start pX10_was (some .int) [some (.ref 0), some (.int p), some (.int t)] rfl rfl rfl rfl (fun V C => ?_)
    refine mv_aload_n C rfl rfl ?_
    refine mv_iload_n C rfl rfl ?_
    refine mv_iload_n C rfl rfl ?_
    refine mv_cV C rfl R0 (by decide) rfl rfl rfl (Nat.le_of_ble_eq_true rfl) (Nat.le_refl _) (Nat.le_refl _) rfl ?_
    refine mv_if_ne C rfl (fun c6 => ?_) (fun c6 => ?_)
    · exact absurd rfl c6
    · refine mv_iconst C rfl ?_
      refine mv_ireturn C rfl mv_okI ?_ ?_
      all_goals rfl
def a_places (u : hM) (t w : Int32) : Int32 := if (0 ≤ t ∧ t < 48) ∧ ¬ u 8 0 = 0 ∧ (0 ≤ w ∧ w ≤ 1) then (if w = 0 then kb (kMay u t.toNatClampNeg) else kb (kWas u t.toNatClampNeg)) else -1
theorem x_places (u : hM) (z : mv_Z) (t w : Int32) (hi : hI u) (hz : rX u z) : xR 85 [.int t, .int w] u z (.int (a_places u t w)) u := by
  have R0 := r_isHour z t
  have hs : z.1 3 9 = hst (u 8 0) := hz.2.2.1
  have hs0 := kst0 hi
  unfold a_places
  by_cases hc : (0 ≤ t ∧ t < 48) ∧ ¬ u 8 0 = 0 ∧ (0 ≤ w ∧ w ≤ 1)
  · rw [if_pos hc]
    rw [if_pos hc.1] at R0
    have et := nI_rngc hc.1.1 (show t < nI 48 from hc.1.2) (by decide)
    generalize t.toNatClampNeg = kt at *
    obtain ⟨lt, rfl⟩ := et
    by_cases hw : w = 0
    · subst hw
      obtain ⟨a, b, c, R, -, -⟩ := r_mayBe z u kt hi hz lt
      refine ⟨_, mv_up (d := 6) (S1 := mv_E (kz z a b c (z.1 18))) ?_ rfl, kz_rX hz _ _ _ _, kz_fX fX_rf _ _ _ _⟩
      rw [if_pos rfl]
      refine mv_start pX10_places (some .int) [some (.ref 0), some (.int (nI kt)), some (.int 0)] rfl rfl rfl rfl (fun V C => ?_)
      refine mv_iload_n C rfl rfl ?_
      refine mv_cS C rfl (mv_up R0 rfl) (by decide) rfl (Nat.le_of_ble_eq_true rfl) (Nat.le_refl _) (Nat.le_refl _) rfl ?_
      refine mv_if_eq C rfl (fun c4 => ?_) (fun c4 => ?_)
      · exact absurd c4 (by decide)
      · refine mv_aload_n C rfl rfl ?_
        refine mv_getR C rfl rfl rfl ?_
        refine mv_getJ C rfl rfl rfl hs ?_
        refine mv_iconst C rfl ?_
        refine mv_icmp_eq C rfl (fun c15 => ?_) (fun c15 => ?_)
        · exact absurd c15 (hs0.mpr hc.2.1)
        · refine mv_iload_n C rfl rfl ?_
          refine mv_if_lt C rfl (fun c19 => ?_) (fun c19 => ?_)
          · exact absurd c19 (by decide)
          · refine mv_iload_n C rfl rfl ?_
            refine mv_iconst C rfl ?_
            refine mv_icmp_le C rfl (fun c24 => ?_) (fun c24 => ?_)
            · refine mv_iload_n C rfl rfl ?_
              refine mv_if_ne C rfl (fun c30 => ?_) (fun c30 => ?_)
              · exact absurd rfl c30
              · refine mv_aload_n C rfl rfl ?_
                refine mv_getR C rfl rfl rfl ?_
                refine mv_iload_n C rfl rfl ?_
                refine mv_cV C rfl R (by decide) rfl rfl rfl (Nat.le_of_ble_eq_true rfl) (Nat.le_refl _) (Nat.le_refl _) rfl ?_
                refine mv_goto C rfl ?_
                refine mv_ireturn C rfl mv_okI ?_ ?_
                all_goals rfl
            · exact absurd (by decide) c24
    · obtain ⟨a, b, c, d, R⟩ := r_mayHaveBeen z u kt hi hz lt
      refine ⟨_, mv_up (d := 6) (S1 := mv_E (kz z a b c d)) ?_ rfl, kz_rX hz _ _ _ _, kz_fX fX_rf _ _ _ _⟩
      rw [if_neg hw]
      refine mv_start pX10_places (some .int) [some (.ref 0), some (.int (nI kt)), some (.int w)] rfl rfl rfl rfl (fun V C => ?_)
      refine mv_iload_n C rfl rfl ?_
      refine mv_cS C rfl (mv_up R0 rfl) (by decide) rfl (Nat.le_of_ble_eq_true rfl) (Nat.le_refl _) (Nat.le_refl _) rfl ?_
      refine mv_if_eq C rfl (fun c4 => ?_) (fun c4 => ?_)
      · exact absurd c4 (by decide)
      · refine mv_aload_n C rfl rfl ?_
        refine mv_getR C rfl rfl rfl ?_
        refine mv_getJ C rfl rfl rfl hs ?_
        refine mv_iconst C rfl ?_
        refine mv_icmp_eq C rfl (fun c15 => ?_) (fun c15 => ?_)
        · exact absurd c15 (hs0.mpr hc.2.1)
        · refine mv_iload_n C rfl rfl ?_
          refine mv_if_lt C rfl (fun c19 => ?_) (fun c19 => ?_)
          · (have q := hc.2.2.1; rw [i32_le] at q; rw [i32_lt] at c19; exact absurd c19 (by omega))
          · refine mv_iload_n C rfl rfl ?_
            refine mv_iconst C rfl ?_
            refine mv_icmp_le C rfl (fun c24 => ?_) (fun c24 => ?_)
            · refine mv_iload_n C rfl rfl ?_
              refine mv_if_ne C rfl (fun c30 => ?_) (fun c30 => ?_)
              · refine mv_aload_n C rfl rfl ?_
                refine mv_getR C rfl rfl rfl ?_
                refine mv_iload_n C rfl rfl ?_
                refine mv_cV C rfl R (by decide) rfl rfl rfl (Nat.le_of_ble_eq_true rfl) (Nat.le_refl _) (Nat.le_refl _) rfl ?_
                refine mv_ireturn C rfl mv_okI ?_ ?_
                all_goals rfl
              · exact absurd c30 hw
            · exact absurd hc.2.2.2 c24
  · rw [if_neg hc]
    refine ⟨_, mv_up (d := 3) (S1 := mv_E z) ?_ rfl, hz, fX_rf⟩
    refine mv_start pX10_places (some .int) [some (.ref 0), some (.int t), some (.int w)] rfl rfl rfl rfl (fun V C => ?_)
    refine mv_iload_n C rfl rfl ?_
    refine mv_cS C rfl (mv_up R0 rfl) (by decide) rfl (Nat.le_of_ble_eq_true rfl) (Nat.le_refl _) (Nat.le_refl _) rfl ?_
    refine mv_if_eq C rfl (fun c4 => ?_) (fun c4 => ?_)
    · refine mv_iconst C rfl ?_
      refine mv_ireturn C rfl mv_okI ?_ ?_
      all_goals rfl
    · refine mv_aload_n C rfl rfl ?_
      refine mv_getR C rfl rfl rfl ?_
      refine mv_getJ C rfl rfl rfl hs ?_
      refine mv_iconst C rfl ?_
      refine mv_icmp_eq C rfl (fun c15 => ?_) (fun c15 => ?_)
      · refine mv_iconst C rfl ?_
        refine mv_ireturn C rfl mv_okI ?_ ?_
        all_goals rfl
      · refine mv_iload_n C rfl rfl ?_
        refine mv_if_lt C rfl (fun c19 => ?_) (fun c19 => ?_)
        · refine mv_iconst C rfl ?_
          refine mv_ireturn C rfl mv_okI ?_ ?_
          all_goals rfl
        · refine mv_iload_n C rfl rfl ?_
          refine mv_iconst C rfl ?_
          refine mv_icmp_le C rfl (fun c24 => ?_) (fun c24 => ?_)
          · (refine absurd ⟨b10.mp c4, hs0.mp c15, ?_, c24⟩ hc; rw [i32_lt] at c19; rw [i32_le]; omega)
          · refine mv_iconst C rfl ?_
            refine mv_ireturn C rfl mv_okI ?_ ?_
            all_goals rfl
def kfst (g : Nat → Bool) : Nat → Nat → Int32
  | 0, _ => -1
  | k + 1, i => bif g i then nI i else kfst g k (i + 1)
def kfn (g : Nat → Bool) : Nat → Nat → Nat
  | 0, i => i
  | k + 1, i => bif g i then i + 1 else kfn g k (i + 1)
def a_first (u : hM) (p : Int32) : Int32 := if kask u p 47 then kfst (fun t => kMay u t p.toNatClampNeg) 48 0 else -1
theorem r_firstHour (z : mv_Z) (u : hM) (p : Nat) (hi : hI u) (hz : rX u z) (hp : p < 32) : ∃ a b c, mv_Runs 5 13 [.ref 2, .int (nI p)] (mv_E z) (some (.int (kfst (fun t => kMay u t p) 48 0))) (mv_E (kz z a b c (z.1 18))) := by
  have R1 := r_heed z u (z.1 15) (z.2 16) (z.1 17) (z.1 18) 47 (-1) (by decide) hi hz
  rw [kz_self] at R1
  have ok := kOK_of (kA u 47 (-1)) u (z.1 15) (z.2 16)
  have eg : ∀ t, t < 48 → kb (kR (kA u 47 (-1)) u kW t) = kb (kMay u t) := fun t ht => by apply kb_c; intro p _; exact kA_R hi kW (by omega)
  generalize kaa (kA u 47 (-1)) u (z.1 15) = a at *
  generalize kbb (kA u 47 (-1)) u (z.2 16) = b at *
  generalize hn : kfn (fun t => kMay u t p) 48 0 = n
  generalize hv : kfst (fun t => kMay u t p) 48 0 = v
  refine ⟨a, b, kfr (z.1 17) (fun t1 => kb (kR (kA u 47 (-1)) u kW t1)) 0 n, ?_⟩
  refine mv_start pX1_firstHour (some .int) [some (.ref 2), some (.int (nI p)), none] rfl rfl rfl rfl (fun V C => ?_)
  have loop : ∀ (k i : Nat), i + k = 48 → kfn (fun t => kMay u t p) k i = n → kfst (fun t => kMay u t p) k i = v → V 9 [some (.ref 2), some (.int (nI p)), some (.int (nI i))] [] (mv_E (kz z a b (kfr (z.1 17) (fun t1 => kb (kR (kA u 47 (-1)) u kW t1)) 0 i) (z.1 18))) := by
    intro k
    induction k with
    | zero =>
      intro i hi2 h1 h2
      simp only [kfn] at h1
      simp only [kfst] at h2
      subst h1
      refine mv_iload_n C rfl rfl ?_
      refine mv_bipush C rfl ?_
      refine mv_icmp_ge C rfl (fun c12 => ?_) (fun c12 => ?_)
      · refine mv_iconst C rfl ?_
        refine mv_ireturn C rfl mv_okI ?_ ?_
        all_goals first | rfl | (rw [← h2])
      · exact absurd (nI_le (a := 48) (by omega) (by omega)) c12
    | succ k ih =>
      intro i hi2 h1 h2
      simp only [kfn] at h1
      simp only [kfst] at h2
      have R2 := r_spread z u (kA u 47 (-1)) kW (fun _ => false) a b (kfr (z.1 17) (fun t1 => kb (kR (kA u 47 (-1)) u kW t1)) 0 i) (z.1 18) i (i + 1) (nI i) hi hz (by omega) (by omega) ok (nI_ltb (by omega)) (fun _ _ _ _ => rfl) (fun t1 h => by rw [kfr_i ⟨by omega, h⟩])
      have ec : kfr (kfr (z.1 17) (fun t1 => kb (kR (kA u 47 (-1)) u kW t1)) 0 i) (fun t1 => kb (kR (kA u 47 (-1)) u kW t1)) i (i + 1) = kfr (z.1 17) (fun t1 => kb (kR (kA u 47 (-1)) u kW t1)) 0 (i + 1) := by
        rw [← kfr_s _ _ _ _ (Nat.le_refl i), kfr_0 _ _ _ _ (Nat.le_refl i), kfr_s _ _ _ _ (by omega)]
      rw [← kb_0, ec] at R2
      have R3 := r_has (kz z a b (kfr (z.1 17) (fun t1 => kb (kR (kA u 47 (-1)) u kW t1)) 0 (i + 1)) (z.1 18)) (kb (kMay u i)) (nI p)
      rw [k_has01 hp] at R3
      have e1 : kfr (z.1 17) (fun t1 => kb (kR (kA u 47 (-1)) u kW t1)) 0 (i + 1) i = kb (kMay u i) := by rw [kfr_i ⟨by omega, by omega⟩]; exact eg i (by omega)
      cases hm : kMay u i p with
      | true =>
        rw [hm] at R3 h1 h2
        simp only [cond_true] at h1 h2
        subst h1
        refine mv_iload_n C rfl rfl ?_
        refine mv_bipush C rfl ?_
        refine mv_icmp_ge C rfl (fun c12 => ?_) (fun c12 => ?_)
        · exact absurd c12 (nI_ge (b := 48) (by omega) (by decide))
        · refine mv_aload_n C rfl rfl ?_
          refine mv_iload_n C rfl rfl ?_
          refine mv_iload_n C rfl rfl ?_
          refine mv_iconst C rfl ?_
          refine mv_cV C rfl R2 (by decide) rfl rfl rfl (Nat.le_of_ble_eq_true rfl) (Nat.le_refl _) (Nat.le_refl _) rfl ?_
          refine mv_aload_n C rfl rfl ?_
          refine mv_getR C rfl rfl rfl ?_
          refine mv_iload_n C rfl rfl ?_
          refine mv_aldJ C rfl rfl rfl (by omega) (show _ = kb (kMay u i) from e1) ?_
          refine mv_iload_n C rfl rfl ?_
          refine mv_cS C rfl (mv_up R3 rfl) (by decide) rfl (Nat.le_of_ble_eq_true rfl) (Nat.le_refl _) (Nat.le_refl _) rfl ?_
          refine mv_if_eq C rfl (fun c32 => ?_) (fun c32 => ?_)
          · exact absurd c32 (by decide)
          · refine mv_iload_n C rfl rfl ?_
            refine mv_ireturn C rfl mv_okI ?_ ?_
            all_goals first | rfl | (rw [← h2])
      | false =>
        rw [hm] at R3 h1 h2
        have e := ih (i + 1) (by omega) h1 h2
        refine mv_iload_n C rfl rfl ?_
        refine mv_bipush C rfl ?_
        refine mv_icmp_ge C rfl (fun c12 => ?_) (fun c12 => ?_)
        · exact absurd c12 (nI_ge (b := 48) (by omega) (by decide))
        · refine mv_aload_n C rfl rfl ?_
          refine mv_iload_n C rfl rfl ?_
          refine mv_iload_n C rfl rfl ?_
          refine mv_iconst C rfl ?_
          refine mv_cV C rfl R2 (by decide) rfl rfl rfl (Nat.le_of_ble_eq_true rfl) (Nat.le_refl _) (Nat.le_refl _) rfl ?_
          refine mv_aload_n C rfl rfl ?_
          refine mv_getR C rfl rfl rfl ?_
          refine mv_iload_n C rfl rfl ?_
          refine mv_aldJ C rfl rfl rfl (by omega) (show _ = kb (kMay u i) from e1) ?_
          refine mv_iload_n C rfl rfl ?_
          refine mv_cS C rfl (mv_up R3 rfl) (by decide) rfl (Nat.le_of_ble_eq_true rfl) (Nat.le_refl _) (Nat.le_refl _) rfl ?_
          refine mv_if_eq C rfl (fun c32 => ?_) (fun c32 => ?_)
          · refine mv_inc2 C rfl rfl ?_
            refine mv_goto C rfl ?_
            simp only [nI_1]
            exact e
          · exact absurd rfl c32
  have e := loop 48 0 (by omega) hn hv
  rw [kfr_0 _ _ _ _ (Nat.le_refl _)] at e
  refine mv_aload_n C rfl rfl ?_
  refine mv_bipush C rfl ?_
  refine mv_iconst C rfl ?_
  refine mv_cV C rfl (mv_up R1 rfl) (by decide) rfl rfl rfl (Nat.le_of_ble_eq_true rfl) (Nat.le_refl _) (Nat.le_refl _) rfl ?_
  refine mv_iconst C rfl ?_
  refine mv_is_n2 C rfl rfl ?_
  exact e
theorem x_first (u : hM) (z : mv_Z) (p : Int32) (hi : hI u) (hz : rX u z) : xR 86 [.int p] u z (.int (a_first u p)) u := by
  have h24 := hi.1
  have R0 := r_canAskU z u p 47 hi hz
  unfold a_first
  by_cases hc : kask u p 47
  · rw [if_pos hc] at R0 ⊢
    obtain ⟨ep, et⟩ := kask_n hi hc
    generalize p.toNatClampNeg = kp at *
    obtain ⟨lp, rfl⟩ := ep
    obtain ⟨a, b, c, R⟩ := r_firstHour z u kp hi hz (by omega)
    refine ⟨_, mv_up (d := 6) (S1 := mv_E (kz z a b c (z.1 18))) ?_ rfl, kz_rX hz _ _ _ _, kz_fX fX_rf _ _ _ _⟩
    refine mv_start pX10_first (some .int) [some (.ref 0), some (.int (nI kp))] rfl rfl rfl rfl (fun V C => ?_)
    refine mv_aload_n C rfl rfl ?_
    refine mv_iload_n C rfl rfl ?_
    refine mv_bipush C rfl ?_
    refine mv_cV C rfl (mv_up R0 rfl) (by decide) rfl rfl rfl (Nat.le_of_ble_eq_true rfl) (Nat.le_refl _) (Nat.le_refl _) rfl ?_
    refine mv_if_ne C rfl (fun c7 => ?_) (fun c7 => ?_)
    · refine mv_aload_n C rfl rfl ?_
      refine mv_getR C rfl rfl rfl ?_
      refine mv_iload_n C rfl rfl ?_
      refine mv_cV C rfl R (by decide) rfl rfl rfl (Nat.le_of_ble_eq_true rfl) (Nat.le_refl _) (Nat.le_refl _) rfl ?_
      refine mv_ireturn C rfl mv_okI ?_ ?_
      all_goals rfl
    · exact absurd c7 (by decide)
  · rw [if_neg hc] at R0 ⊢
    refine ⟨_, mv_up (d := 3) (S1 := mv_E z) ?_ rfl, hz, fX_rf⟩
    refine mv_start pX10_first (some .int) [some (.ref 0), some (.int p)] rfl rfl rfl rfl (fun V C => ?_)
    refine mv_aload_n C rfl rfl ?_
    refine mv_iload_n C rfl rfl ?_
    refine mv_bipush C rfl ?_
    refine mv_cV C rfl R0 (by decide) rfl rfl rfl (Nat.le_of_ble_eq_true rfl) (Nat.le_refl _) (Nat.le_refl _) rfl ?_
    refine mv_if_ne C rfl (fun c7 => ?_) (fun c7 => ?_)
    · exact absurd rfl c7
    · refine mv_iconst C rfl ?_
      refine mv_ireturn C rfl mv_okI ?_ ?_
      all_goals rfl
def hsus (u : hM) (t : Nat) : Nat := hsum (fun p => bif kMay u t (u 17 p) && decide (hmf u p = 0) then 1 else 0) (u 16 0)
theorem hfit_s (u : hM) (hi : hI u) (t : Nat) : hfit u (kb (kMay u t)) = hsus u t := by
  unfold hfit hsus
  apply hsum_cong
  intro p hp
  have h := hi.2.2.2.2.2.2.2.2.2.2.2.2.1 p hp
  have h24 := hi.1
  rw [kb_b (by omega)]
def a_suspects (u : hM) (t : Int32) : Int32 := if (0 ≤ t ∧ t < 48) ∧ ¬ u 8 0 = 0 then nI (hsus u t.toNatClampNeg) else -1
theorem x_suspects (u : hM) (z : mv_Z) (t : Int32) (hi : hI u) (hz : rX u z) : xR 95 [.int t] u z (.int (a_suspects u t)) u := by
  have R0 := r_isHour z t
  have hs : z.1 3 9 = hst (u 8 0) := hz.2.2.1
  have hs0 := kst0 hi
  unfold a_suspects
  by_cases hc : (0 ≤ t ∧ t < 48) ∧ ¬ u 8 0 = 0
  · rw [if_pos hc]
    rw [if_pos hc.1] at R0
    have et := nI_rngc hc.1.1 (show t < nI 48 from hc.1.2) (by decide)
    generalize t.toNatClampNeg = kt at *
    obtain ⟨lt, rfl⟩ := et
    obtain ⟨a, b, c, R, -, -⟩ := r_mayBe z u kt hi hz lt
    have R2 := r_fittingOf (kz z a b c (z.1 18)) u (kb (kMay u kt)) (kz_rX hz _ _ _ _) hi
    rw [hfit_s u hi] at R2
    refine ⟨_, mv_up (d := 6) (S1 := mv_E (kz z a b c (z.1 18))) ?_ rfl, kz_rX hz _ _ _ _, kz_fX fX_rf _ _ _ _⟩
    refine mv_start pX10_suspects (some .int) [some (.ref 0), some (.int (nI kt))] rfl rfl rfl rfl (fun V C => ?_)
    refine mv_iload_n C rfl rfl ?_
    refine mv_cS C rfl (mv_up R0 rfl) (by decide) rfl (Nat.le_of_ble_eq_true rfl) (Nat.le_refl _) (Nat.le_refl _) rfl ?_
    refine mv_if_eq C rfl (fun c4 => ?_) (fun c4 => ?_)
    · exact absurd c4 (by decide)
    · refine mv_aload_n C rfl rfl ?_
      refine mv_getR C rfl rfl rfl ?_
      refine mv_getJ C rfl rfl rfl hs ?_
      refine mv_iconst C rfl ?_
      refine mv_icmp_ne C rfl (fun c15 => ?_) (fun c15 => ?_)
      · refine mv_aload_n C rfl rfl ?_
        refine mv_getR C rfl rfl rfl ?_
        refine mv_aload_n C rfl rfl ?_
        refine mv_getR C rfl rfl rfl ?_
        refine mv_iload_n C rfl rfl ?_
        refine mv_cV C rfl R (by decide) rfl rfl rfl (Nat.le_of_ble_eq_true rfl) (Nat.le_refl _) (Nat.le_refl _) rfl ?_
        refine mv_cV C rfl (mv_up R2 rfl) (by decide) rfl rfl rfl (Nat.le_of_ble_eq_true rfl) (Nat.le_refl _) (Nat.le_refl _) rfl ?_
        refine mv_ireturn C rfl mv_okI ?_ ?_
        all_goals rfl
      · exact absurd c15 (hs0.mpr hc.2)
  · rw [if_neg hc]
    refine ⟨_, mv_up (d := 3) (S1 := mv_E z) ?_ rfl, hz, fX_rf⟩
    refine mv_start pX10_suspects (some .int) [some (.ref 0), some (.int t)] rfl rfl rfl rfl (fun V C => ?_)
    refine mv_iload_n C rfl rfl ?_
    refine mv_cS C rfl (mv_up R0 rfl) (by decide) rfl (Nat.le_of_ble_eq_true rfl) (Nat.le_refl _) (Nat.le_refl _) rfl ?_
    refine mv_if_eq C rfl (fun c4 => ?_) (fun c4 => ?_)
    · refine mv_iconst C rfl ?_
      refine mv_ireturn C rfl mv_okI ?_ ?_
      all_goals rfl
    · refine mv_aload_n C rfl rfl ?_
      refine mv_getR C rfl rfl rfl ?_
      refine mv_getJ C rfl rfl rfl hs ?_
      refine mv_iconst C rfl ?_
      refine mv_icmp_ne C rfl (fun c15 => ?_) (fun c15 => ?_)
      · exact absurd ⟨b10.mp c4, hs0.mp c15⟩ hc
      · refine mv_iconst C rfl ?_
        refine mv_ireturn C rfl mv_okI ?_ ?_
        all_goals rfl
end

