section
def kans (n : Nat) (r : Nat × hM) : Int32 := if r.1 = n ∧ r.2 0 0 = 3 ∧ ¬ r.2 2 0 = 0 then -1 else nI r.1
theorem r_read (z : mv_Z) (u : hM) (a : Nat) (f0 f1 f2 f3 : Nat → Int32) (ha : a < 8) (hi : hI u) (hz : rX u z) : ∃ g0 g1 g2 g3, mv_Runs 4 1 [.ref (34 + 4 * a), .ref 27] (mv_E (kx z a f0 f1 f2 f3)) (some (.int (kans (u 19 0) (krd u)))) (mv_E (kx z a g0 g1 g2 g3)) ∧ kAc (krd u).2 g0 g1 g2 g3 := by
  have l0 := lay_act a ha
  have h100 : u 19 0 ≤ 100 := hi.2.2.2.2.2.2.2.2.2.2.2.2.2.2.1
  have h256 := hi.2.2.2.2.2.2.2.2.2.2.2.2.2.2.2.1
  have y1 : ∀ f0 f1 f2 f3, (kx z a f0 f1 f2 f3).1 27 1 = nI (u 19 0) := fun f0 f1 f2 f3 => by rw [kx_ne (by omega)]; exact rX_s hz 27 1 19 (by decide)
  have y2 : ∀ f0 f1 f2 f3 i, (kx z a f0 f1 f2 f3).1 28 i = nI (u 20 i) := fun f0 f1 f2 f3 i => by rw [kx_ne (by omega)]; exact rX_a hz 28 20 (by decide) i
  have loop : ∀ (k i : Nat) (c : hM) (f0 f1 f2 f3 : Nat → Int32), i + k = min (u 19 0) 40 → kJ c i → kAc c f0 f1 f2 f3 → ∃ g0 g1 g2 g3, kAc (krn (u 20) k i c).2 g0 g1 g2 g3 ∧ mv_Fr pX0_read (some .int) 3 (some (.int (kans (u 19 0) (krn (u 20) k i c)))) (mv_E (kx z a g0 g1 g2 g3)) 17 [some (.ref (34 + 4 * a)), some (.ref 27), some (.int (nI i))] (mv_E (kx z a f0 f1 f2 f3)) := by
    intro k
    induction k with
    | zero =>
      intro i c f0 f1 f2 f3 hk hJ hA
      refine ⟨f0, f1, f2, f3, hA, fun V C => ?_⟩
      simp only [krn] at C
      have hj0 := hJ.1
      have h5 := hA.2.2.1
      have h6 := hA.2.2.2.1
      by_cases hn : u 19 0 ≤ 40
      · have ei : i = u 19 0 := by omega
        by_cases e3 : c 0 0 = 3
        · have h6' := h6 (by omega)
          have p2 := (hJ.2.2.2.2.2.2 e3).1
          rw [e3] at h5
          by_cases e2 : c 2 0 = 0
          · rw [show kans (u 19 0) (i, c) = nI (u 19 0) from by unfold kans; rw [if_neg (fun q => q.2.2 e2), ei]] at C
            rw [e2] at h6'
            refine mv_iload_n C rfl rfl ?_
            refine mv_aload_n C rfl rfl ?_
            refine mv_getJ C rfl rfl rfl (y1 _ _ _ _) ?_
            refine mv_icmp_ge C rfl (fun c22 => ?_) (fun c22 => ?_)
            · refine mv_aload_n C rfl rfl ?_
              refine mv_getJ C rfl l0 rfl ((congrFun kx_0 5).trans h5) ?_
              refine mv_iconst C rfl ?_
              refine mv_icmp_ne C rfl (fun c57 => ?_) (fun c57 => ?_)
              · exact absurd rfl c57
              · refine mv_aload_n C rfl rfl ?_
                refine mv_getJ C rfl l0 rfl ((congrFun kx_0 6).trans h6') ?_
                refine mv_if_le C rfl (fun c64 => ?_) (fun c64 => ?_)
                · refine mv_aload_n C rfl rfl ?_
                  refine mv_getJ C rfl rfl rfl (y1 _ _ _ _) ?_
                  refine mv_ireturn C rfl mv_okI ?_ ?_
                  all_goals rfl
                · exact absurd (by decide) c64
            · exact absurd (nI_le (by omega) (by omega)) c22
          · rw [show kans (u 19 0) (i, c) = -1 from by unfold kans; rw [if_pos ⟨ei, e3, e2⟩]] at C
            refine mv_iload_n C rfl rfl ?_
            refine mv_aload_n C rfl rfl ?_
            refine mv_getJ C rfl rfl rfl (y1 _ _ _ _) ?_
            refine mv_icmp_ge C rfl (fun c22 => ?_) (fun c22 => ?_)
            · refine mv_aload_n C rfl rfl ?_
              refine mv_getJ C rfl l0 rfl ((congrFun kx_0 5).trans h5) ?_
              refine mv_iconst C rfl ?_
              refine mv_icmp_ne C rfl (fun c57 => ?_) (fun c57 => ?_)
              · exact absurd rfl c57
              · refine mv_aload_n C rfl rfl ?_
                refine mv_getJ C rfl l0 rfl ((congrFun kx_0 6).trans h6') ?_
                refine mv_if_le C rfl (fun c64 => ?_) (fun c64 => ?_)
                · exact absurd ((nI_leI (b := 0) (by omega) (by decide)).mp c64) (by omega)
                · refine mv_iconst C rfl ?_
                  refine mv_goto C rfl ?_
                  refine mv_ireturn C rfl mv_okI ?_ ?_
                  all_goals rfl
            · exact absurd (nI_le (by omega) (by omega)) c22
        · rw [show kans (u 19 0) (i, c) = nI (u 19 0) from by unfold kans; rw [if_neg (fun q => e3 q.2.1), ei]] at C
          refine mv_iload_n C rfl rfl ?_
          refine mv_aload_n C rfl rfl ?_
          refine mv_getJ C rfl rfl rfl (y1 _ _ _ _) ?_
          refine mv_icmp_ge C rfl (fun c22 => ?_) (fun c22 => ?_)
          · refine mv_aload_n C rfl rfl ?_
            refine mv_getJ C rfl l0 rfl ((congrFun kx_0 5).trans h5) ?_
            refine mv_iconst C rfl ?_
            refine mv_icmp_ne C rfl (fun c57 => ?_) (fun c57 => ?_)
            · refine mv_aload_n C rfl rfl ?_
              refine mv_getJ C rfl rfl rfl (y1 _ _ _ _) ?_
              refine mv_ireturn C rfl mv_okI ?_ ?_
              all_goals rfl
            · exact absurd ((nI_eq (b := 3) (by omega) (by decide)).mp c57) e3
          · exact absurd (nI_le (by omega) (by omega)) c22
      · have ei : i = 40 := by omega
        rw [show kans (u 19 0) (i, c) = nI i from by unfold kans; rw [if_neg (fun q => hn (by have := q.1; omega))]] at C
        refine mv_iload_n C rfl rfl ?_
        refine mv_aload_n C rfl rfl ?_
        refine mv_getJ C rfl rfl rfl (y1 _ _ _ _) ?_
        refine mv_icmp_ge C rfl (fun c22 => ?_) (fun c22 => ?_)
        · exact absurd c22 (nI_ge (by omega) (by omega))
        · refine mv_iload_n C rfl rfl ?_
          refine mv_bipush C rfl ?_
          refine mv_icmp_ge C rfl (fun c28 => ?_) (fun c28 => ?_)
          · refine mv_iload_n C rfl rfl ?_
            refine mv_ireturn C rfl mv_okI ?_ ?_
            all_goals rfl
          · exact absurd (nI_le (a := 40) (by omega) (by omega)) c28
    | succ k ih =>
      intro i c f0 f1 f2 f3 hk hJ hA
      obtain ⟨g0, g1, g2, g3, R1, hn, hsame⟩ := r_takes z a i (u 20 i) c f0 f1 f2 f3 ha (h256 i) (by omega) hJ hA
      simp only [krn]
      cases hs : kstp c (u 20 i) with
      | none =>
        rw [show ksb c (u 20 i) = 0 from by unfold ksb; rw [hs]] at R1
        rw [hsame hs] at R1
        refine ⟨f0, f1, f2, f3, hA, fun V C => ?_⟩
        dsimp only at C
        rw [show kans (u 19 0) (i, c) = nI i from by unfold kans; rw [if_neg (fun q => by have := q.1; dsimp only at this; omega)]] at C
        refine mv_iload_n C rfl rfl ?_
        refine mv_aload_n C rfl rfl ?_
        refine mv_getJ C rfl rfl rfl (y1 _ _ _ _) ?_
        refine mv_icmp_ge C rfl (fun c22 => ?_) (fun c22 => ?_)
        · exact absurd c22 (nI_ge (by omega) (by omega))
        · refine mv_iload_n C rfl rfl ?_
          refine mv_bipush C rfl ?_
          refine mv_icmp_ge C rfl (fun c28 => ?_) (fun c28 => ?_)
          · exact absurd c28 (nI_ge (b := 40) (by omega) (by decide))
          · refine mv_aload_n C rfl rfl ?_
            refine mv_aload_n C rfl rfl ?_
            refine mv_getR C rfl rfl rfl ?_
            refine mv_iload_n C rfl rfl ?_
            refine mv_aldJ C rfl rfl rfl (by omega) (y2 _ _ _ _ i) ?_
            refine mv_cV C rfl R1 (by decide) rfl rfl l0 (Nat.le_of_ble_eq_true rfl) (Nat.le_refl _) (Nat.le_refl _) rfl ?_
            refine mv_if_ne C rfl (fun c41 => ?_) (fun c41 => ?_)
            · exact absurd rfl c41
            · refine mv_iload_n C rfl rfl ?_
              refine mv_ireturn C rfl mv_okI ?_ ?_
              all_goals rfl
      | some c1 =>
        rw [show ksb c (u 20 i) = 1 from by unfold ksb; rw [hs]] at R1
        obtain ⟨q0, q1, q2, q3, hQ, hF⟩ := ih (i + 1) c1 g0 g1 g2 g3 (by omega) (kJ_s (h256 i) (by omega) hJ hs) (hn c1 hs)
        refine ⟨q0, q1, q2, q3, hQ, fun V C => ?_⟩
        refine mv_iload_n C rfl rfl ?_
        refine mv_aload_n C rfl rfl ?_
        refine mv_getJ C rfl rfl rfl (y1 _ _ _ _) ?_
        refine mv_icmp_ge C rfl (fun c22 => ?_) (fun c22 => ?_)
        · exact absurd c22 (nI_ge (by omega) (by omega))
        · refine mv_iload_n C rfl rfl ?_
          refine mv_bipush C rfl ?_
          refine mv_icmp_ge C rfl (fun c28 => ?_) (fun c28 => ?_)
          · exact absurd c28 (nI_ge (b := 40) (by omega) (by decide))
          · refine mv_aload_n C rfl rfl ?_
            refine mv_aload_n C rfl rfl ?_
            refine mv_getR C rfl rfl rfl ?_
            refine mv_iload_n C rfl rfl ?_
            refine mv_aldJ C rfl rfl rfl (by omega) (y2 _ _ _ _ i) ?_
            refine mv_cV C rfl R1 (by decide) rfl rfl l0 (Nat.le_of_ble_eq_true rfl) (Nat.le_refl _) (Nat.le_refl _) rfl ?_
            refine mv_if_ne C rfl (fun c41 => ?_) (fun c41 => ?_)
            · refine mv_inc2 C rfl rfl ?_
              refine mv_goto C rfl ?_
              simp only [nI_1]
              exact hF V C
            · exact absurd c41 (by decide)
  obtain ⟨g0, g1, g2, g3, hA, hF⟩ := loop (min (u 19 0) 40) 0 kc0 (upd (upd (upd f0 3 0) 4 0) 5 0) f1 f2 f3 (by omega) kJ_0 ⟨rfl, rfl, rfl, fun h => absurd h (by decide), fun j hj => absurd hj (Nat.not_lt_zero _), fun h => absurd h (by decide), fun h => absurd h (by decide)⟩
  refine ⟨g0, g1, g2, g3, ?_, hA⟩
  refine mv_start pX0_read (some .int) [some (.ref (34 + 4 * a)), some (.ref 27), none] rfl rfl rfl rfl (fun V C => ?_)
  refine mv_aload_n C rfl rfl ?_
  refine mv_iconst C rfl ?_
  refine mv_putI C rfl l0 rfl rfl ?_
  refine mv_sto kx_u0 ?_
  refine mv_aload_n C rfl rfl ?_
  refine mv_iconst C rfl ?_
  refine mv_putI C rfl l0 rfl rfl ?_
  refine mv_sto kx_u0 ?_
  refine mv_aload_n C rfl rfl ?_
  refine mv_iconst C rfl ?_
  refine mv_putI C rfl l0 rfl rfl ?_
  refine mv_sto kx_u0 ?_
  refine mv_iconst C rfl ?_
  refine mv_is_n2 C rfl rfl ?_
  exact hF V C
theorem kx_rX {u : hM} {z : mv_Z} {f0 f1 f2 f3 : Nat → Int32} (h : rX u z) (h8 : u 21 0 < 8) : rX u (kx z (u 21 0) f0 f1 f2 f3) := by
  obtain ⟨⟨h1a, h1b⟩, h2, h3, h4, h5, h6, h7, h8'⟩ := h
  refine ⟨⟨fun q hq => ?_, fun q hq => ?_⟩, ?_, ?_, ?_, ?_, fun a ha => ?_, ?_, ?_⟩
  · have c := tX_cells q hq
    rw [kx_ne (by omega)]; exact h1a q hq
  · have hs : ∀ q ∈ sX, q.1 < 34 ∨ q.1 = 66 := by decide
    have := hs q hq
    rw [kx_ne (by omega)]; exact h1b q hq
  · rw [kx_ne (by omega)]; exact h2
  · rw [kx_ne (by omega)]; exact h3
  · rw [kx_ne (by omega)]; exact h4
  · rw [kx_ne (by omega)]; exact h5
  · rw [kx_ne (q := 34 + 4 * a) (by omega), kx_ne (q := 35 + 4 * a) (by omega), kx_ne (q := 36 + 4 * a) (by omega), kx_ne (q := 37 + 4 * a) (by omega)]; exact h6 a ha
  · rw [kx_ne (by omega)]; exact h7
  · rw [kx_ne (by omega)]; exact h8'
theorem kx_rXa {u c : hM} {i : Nat} {z : mv_Z} {f0 f1 f2 f3 : Nat → Int32} (hi : hI u) (h : rX u z) (h8 : u 21 0 < 8) (hJ : kJ c i) (hA : kAc c f0 f1 f2 f3) : rX (kau0 u c) (mv_u (kx z (u 21 0) f0 f1 f2 f3) 29 4 (nI (u 21 0 + 1))) := by
  obtain ⟨⟨h1a, h1b⟩, h2, h3, h4, h5, h6, h7, h8'⟩ := h
  obtain ⟨a3, a4, -, -, a7, -, -⟩ := hA
  have j1 := hJ.2.1
  unfold rX
  rw [kau0_k (k := 7) (by decide), kau0_k (k := 8) (by decide), kau0_k (k := 14) (by decide), kau0_k (k := 18) (by decide), kau0_k (k := 1) (by decide), kau0_k (k := 27) (by decide), kau0_k (k := 28) (by decide), kau0_k (k := 30) (by decide), kau0_k (k := 31) (by decide), kau0_21]
  rw [mv_u_ne (q := 3) (by decide), mv_u_ne (q := 23) (by decide), mv_u_ne (q := 26) (by decide), mv_u_ne (q := 31) (by decide), mv_u_ne (q := 67) (by decide), kx_ne (q := 3) (by omega), kx_ne (q := 23) (by omega), kx_ne (q := 26) (by omega), kx_ne (q := 31) (by omega), kx_ne (q := 67) (by omega)]
  refine ⟨⟨fun q hq => ?_, fun q hq => ?_⟩, h2, h3, h4, h5, fun a ha => ?_, h7, h8'⟩
  · have c := tX_cells q hq
    have hs : ∀ q ∈ tX, q.1 ≠ 29 ∧ (q.2 < 21 ∨ 26 < q.2) := by decide
    have e := hs q hq
    rw [mv_u_ne e.1, kx_ne (by omega), kau0_k e.2]; exact h1a q hq
  · have hs : ∀ q ∈ sX, q = (29, 4, 21) ∨ (¬ (29 = q.1 ∧ 4 = q.2.1) ∧ (q.1 < 34 ∨ q.1 = 66) ∧ (q.2.2 < 21 ∨ 26 < q.2.2)) := by decide
    rcases hs q hq with rfl | ⟨e1, e2, e3⟩
    · rw [mv_u_eq]; exact congrArg nI kau0_21.symm
    · rw [mv_u_sl e1, kx_ne (by omega), kau0_k e3]; exact h1b q hq
  · rw [mv_u_ne (q := 34 + 4 * a) (by omega), mv_u_ne (q := 35 + 4 * a) (by omega), mv_u_ne (q := 36 + 4 * a) (by omega), mv_u_ne (q := 37 + 4 * a) (by omega), kau0_22 ha, kau0_26 ha]
    by_cases e : a = u 21 0
    · subst e
      rw [if_pos rfl, if_pos rfl, kx_0, kx_1, kx_2, kx_3]
      refine ⟨a3, a4, fun k hk => ?_⟩
      rw [kau0_n (Or.inl rfl), kau0_n (Or.inr (Or.inl rfl)), kau0_n (Or.inr (Or.inr rfl))]
      exact a7 k hk
    · rw [if_neg e, if_neg e, kx_ne (q := 34 + 4 * a) (by omega), kx_ne (q := 35 + 4 * a) (by omega), kx_ne (q := 36 + 4 * a) (by omega), kx_ne (q := 37 + 4 * a) (by omega)]
      have := h6 a (by omega)
      refine ⟨this.1, this.2.1, fun k hk => ?_⟩
      have h10 := (hi.2.2.2.2.2.2.2.2.2.2.2.2.2.2.2.2.2.1 a (by omega)).1
      rw [kau0_a (Or.inl rfl) (by omega) (by omega), kau0_a (Or.inr (Or.inl rfl)) (by omega) (by omega), kau0_a (Or.inr (Or.inr rfl)) (by omega) (by omega)]
      exact this.2.2 k hk
theorem kx_fX {z z1 : mv_Z} {a : Nat} {f0 f1 f2 f3 : Nat → Int32} (h : fX z z1) (ha : a < 8) : fX z (kx z1 a f0 f1 f2 f3) := fun k hk => ⟨by rw [kx_ne (by omega)]; exact (h k hk).1, (h k hk).2⟩
theorem x_act (u : hM) (z : mv_Z) (hi : hI u) (hz : rX u z) : xR 98 [] u z (.int (a_act u)) (o_act u) := by
  have h8a : u 21 0 ≤ 8 := hi.2.2.2.2.2.2.2.2.2.2.2.2.2.2.2.2.1
  have ha : z.1 29 4 = nI (u 21 0) := rX_s hz 29 4 21 (by decide)
  unfold a_act o_act
  by_cases h8 : u 21 0 = 8
  · rw [if_pos h8, if_neg (fun q => q.1 h8)]
    have R1 : mv_Runs 5 31 [.ref 29, .ref 27] (mv_E z) (some (.int (-100))) (mv_E z) := by
      refine mv_start pX2_enact (some .int) [some (.ref 29), some (.ref 27), none] rfl rfl rfl rfl (fun V C => ?_)
      refine mv_aload_n C rfl rfl ?_
      refine mv_getJ C rfl rfl rfl ha ?_
      refine mv_bipush C rfl ?_
      refine mv_icmp_lt C rfl (fun c6 => ?_) (fun c6 => ?_)
      · exact absurd ((nI_ltI (b := 8) (by omega) (by decide)).mp c6) (by omega)
      · refine mv_bipush C rfl ?_
        refine mv_ireturn C rfl mv_okI ?_ ?_
        all_goals rfl
    refine ⟨mv_u z 27 1 (nI 0), mv_up (d := 6) ?_ rfl, rX_sc hz 27 1 19 0 (by decide), fX_u fX_rf (by decide)⟩
    refine mv_start pX10_act (some .int) [some (.ref 0), none] rfl rfl rfl rfl (fun V C => ?_)
    refine mv_aload_n C rfl rfl ?_
    refine mv_getR C rfl rfl rfl ?_
    refine mv_aload_n C rfl rfl ?_
    refine mv_getR C rfl rfl rfl ?_
    refine mv_cV C rfl R1 (by decide) rfl rfl rfl (Nat.le_of_ble_eq_true rfl) (Nat.le_refl _) (Nat.le_refl _) rfl ?_
    refine mv_is_n1 C rfl rfl ?_
    refine mv_aload_n C rfl rfl ?_
    refine mv_getR C rfl rfl rfl ?_
    refine mv_iconst C rfl ?_
    refine mv_putI C rfl rfl rfl rfl ?_
    refine mv_iload_n C rfl rfl ?_
    refine mv_ireturn C rfl mv_okI ?_ ?_
    all_goals rfl
  · rw [if_neg h8]
    obtain ⟨g0, g1, g2, g3, R0, hA⟩ := r_read z u (u 21 0) (z.1 (34 + 4 * u 21 0)) (z.1 (35 + 4 * u 21 0)) (z.1 (36 + 4 * u 21 0)) (z.1 (37 + 4 * u 21 0)) (by omega) hi hz
    rw [kx_self] at R0
    have l0 := lay_act (u 21 0) (by omega)
    have hJ := (krd_J hi).1
    have hle := (krd_J hi).2
    have ya : (kx z (u 21 0) g0 g1 g2 g3).1 29 4 = nI (u 21 0) := by rw [kx_ne (by omega)]; exact ha
    by_cases hac : kacc u
    · rw [if_pos hac, if_pos ⟨h8, hac⟩]
      rw [show kans (u 19 0) (krd u) = -1 from by unfold kans; rw [if_pos hac]] at R0
      have R1 : mv_Runs 5 31 [.ref 29, .ref 27] (mv_E z) (some (.int (nI (u 21 0)))) (mv_E (mv_u (kx z (u 21 0) g0 g1 g2 g3) 29 4 (nI (u 21 0 + 1)))) := by
        have yb : (mv_u (kx z (u 21 0) g0 g1 g2 g3) 29 4 (nI (u 21 0 + 1))).1 29 4 = nI (u 21 0 + 1) := mv_u_eq
        refine mv_start pX2_enact (some .int) [some (.ref 29), some (.ref 27), none] rfl rfl rfl rfl (fun V C => ?_)
        refine mv_aload_n C rfl rfl ?_
        refine mv_getJ C rfl rfl rfl ha ?_
        refine mv_bipush C rfl ?_
        refine mv_icmp_lt C rfl (fun c6 => ?_) (fun c6 => ?_)
        · refine mv_aload_n C rfl rfl ?_
          refine mv_getR C rfl rfl rfl ?_
          refine mv_aload_n C rfl rfl ?_
          refine mv_getJ C rfl rfl rfl ha ?_
          refine mv_rld C rfl rfl (by omega) ?_
          refine mv_aload_n C rfl rfl ?_
          refine mv_cV C rfl R0 (by decide) rfl rfl l0 (Nat.le_of_ble_eq_true rfl) (Nat.le_refl _) (Nat.le_refl _) rfl ?_
          refine mv_is_n2 C rfl rfl ?_
          refine mv_iload_n C rfl rfl ?_
          refine mv_iconst C rfl ?_
          refine mv_icmp_eq C rfl (fun c28 => ?_) (fun c28 => ?_)
          · refine mv_aload_n C rfl rfl ?_
            refine mv_dup C rfl rfl ?_
            refine mv_getJ C rfl rfl rfl ya ?_
            refine mv_iconst C rfl ?_
            refine mv_iadd C rfl ?_
            refine mv_top (nI_1 _) ?_
            refine mv_putI C rfl rfl rfl rfl ?_
            refine mv_aload_n C rfl rfl ?_
            refine mv_getJ C rfl rfl rfl yb ?_
            refine mv_iconst C rfl ?_
            refine mv_isub C rfl ?_
            refine mv_top ((pk_sub (b := 1) (by omega)).trans (congrArg nI (Nat.add_sub_cancel _ 1))) ?_
            refine mv_ireturn C rfl mv_okI ?_ ?_
            all_goals rfl
          · exact absurd rfl c28
        · exact absurd (nI_lt (b := 8) (by omega) (by decide)) c6
      refine ⟨mv_u (mv_u (kx z (u 21 0) g0 g1 g2 g3) 29 4 (nI (u 21 0 + 1))) 27 1 (nI 0), mv_up (d := 6) ?_ rfl, rX_sc (kx_rXa hi hz (by omega) hJ hA) 27 1 19 0 (by decide), fX_u (fX_u (kx_fX fX_rf (by omega)) (by decide)) (by decide)⟩
      refine mv_start pX10_act (some .int) [some (.ref 0), none] rfl rfl rfl rfl (fun V C => ?_)
      refine mv_aload_n C rfl rfl ?_
      refine mv_getR C rfl rfl rfl ?_
      refine mv_aload_n C rfl rfl ?_
      refine mv_getR C rfl rfl rfl ?_
      refine mv_cV C rfl R1 (by decide) rfl rfl rfl (Nat.le_of_ble_eq_true rfl) (Nat.le_refl _) (Nat.le_refl _) rfl ?_
      refine mv_is_n1 C rfl rfl ?_
      refine mv_aload_n C rfl rfl ?_
      refine mv_getR C rfl rfl rfl ?_
      refine mv_iconst C rfl ?_
      refine mv_putI C rfl rfl rfl rfl ?_
      refine mv_iload_n C rfl rfl ?_
      refine mv_ireturn C rfl mv_okI ?_ ?_
      all_goals rfl
    · rw [if_neg hac, if_neg (fun q => hac q.2)]
      rw [show kans (u 19 0) (krd u) = nI (krd u).1 from by unfold kans; rw [if_neg hac]] at R0
      have R1 : mv_Runs 5 31 [.ref 29, .ref 27] (mv_E z) (some (.int (-1 - nI (krd u).1))) (mv_E (kx z (u 21 0) g0 g1 g2 g3)) := by
        refine mv_start pX2_enact (some .int) [some (.ref 29), some (.ref 27), none] rfl rfl rfl rfl (fun V C => ?_)
        refine mv_aload_n C rfl rfl ?_
        refine mv_getJ C rfl rfl rfl ha ?_
        refine mv_bipush C rfl ?_
        refine mv_icmp_lt C rfl (fun c6 => ?_) (fun c6 => ?_)
        · refine mv_aload_n C rfl rfl ?_
          refine mv_getR C rfl rfl rfl ?_
          refine mv_aload_n C rfl rfl ?_
          refine mv_getJ C rfl rfl rfl ha ?_
          refine mv_rld C rfl rfl (by omega) ?_
          refine mv_aload_n C rfl rfl ?_
          refine mv_cV C rfl R0 (by decide) rfl rfl l0 (Nat.le_of_ble_eq_true rfl) (Nat.le_refl _) (Nat.le_refl _) rfl ?_
          refine mv_is_n2 C rfl rfl ?_
          refine mv_iload_n C rfl rfl ?_
          refine mv_iconst C rfl ?_
          refine mv_icmp_eq C rfl (fun c28 => ?_) (fun c28 => ?_)
          · exact absurd c28 (nI_nm1 (by omega))
          · refine mv_iconst C rfl ?_
            refine mv_iload_n C rfl rfl ?_
            refine mv_isub C rfl ?_
            refine mv_ireturn C rfl mv_okI ?_ ?_
            all_goals rfl
        · exact absurd (nI_lt (b := 8) (by omega) (by decide)) c6
      refine ⟨mv_u (kx z (u 21 0) g0 g1 g2 g3) 27 1 (nI 0), mv_up (d := 6) ?_ rfl, rX_sc (kx_rX hz (by omega)) 27 1 19 0 (by decide), fX_u (kx_fX fX_rf (by omega)) (by decide)⟩
      refine mv_start pX10_act (some .int) [some (.ref 0), none] rfl rfl rfl rfl (fun V C => ?_)
      refine mv_aload_n C rfl rfl ?_
      refine mv_getR C rfl rfl rfl ?_
      refine mv_aload_n C rfl rfl ?_
      refine mv_getR C rfl rfl rfl ?_
      refine mv_cV C rfl R1 (by decide) rfl rfl rfl (Nat.le_of_ble_eq_true rfl) (Nat.le_refl _) (Nat.le_refl _) rfl ?_
      refine mv_is_n1 C rfl rfl ?_
      refine mv_aload_n C rfl rfl ?_
      refine mv_getR C rfl rfl rfl ?_
      refine mv_iconst C rfl ?_
      refine mv_putI C rfl rfl rfl rfl ?_
      refine mv_iload_n C rfl rfl ?_
      refine mv_ireturn C rfl mv_okI ?_ ?_
      all_goals rfl
end

