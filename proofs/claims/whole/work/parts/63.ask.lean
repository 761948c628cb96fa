section
def kmS (u : hM) (z : mv_Z) : Prop := z.1 68 28 = nI (u 21 0) ∧ ∀ i, z.1 88 i = nI (u 20 i)
def kfm (u : hM) (z0 z : mv_Z) : Prop := (∀ q, ¬ q = 68 → ¬ (89 ≤ q ∧ q ≤ 93) → z.1 q = z0.1 q) ∧ z.2 = z0.2 ∧ (∀ j, ¬ j = 34 → ¬ j = 35 → z.1 68 j = z0.1 68 j) ∧ (∀ i, i < u 21 0 → z.1 89 i = z0.1 89 i ∧ z.1 93 i = z0.1 93 i) ∧ ∀ i, i < 10 * u 21 0 → z.1 90 i = z0.1 90 i ∧ z.1 91 i = z0.1 91 i ∧ z.1 92 i = z0.1 92 i
def kMc (u c : hM) (z : mv_Z) : Prop := z.1 89 (u 21 0) = nI (c 1 0) ∧ ∀ j, j < c 1 0 → z.1 90 (10 * u 21 0 + j) = nI (c 4 j) ∧ z.1 91 (10 * u 21 0 + j) = nI (c 5 j) ∧ z.1 92 (10 * u 21 0 + j) = nI (c 6 j)
theorem kfm_rf {u : hM} {z : mv_Z} : kfm u z z := ⟨fun _ _ _ => rfl, rfl, fun _ _ _ => rfl, fun _ _ => ⟨rfl, rfl⟩, fun _ _ => ⟨rfl, rfl, rfl⟩⟩
theorem kfm_at {u : hM} {z0 z : mv_Z} {i : Nat} {v : Int32} (h : kfm u z0 z) : kfm u z0 (kat z i v) := by
  obtain ⟨h1, h2, h3, h4, h5⟩ := h
  refine ⟨fun q a b => by rw [kat_ne a]; exact h1 q a b, h2, fun j a b => by rw [kat_sl a b]; exact h3 j a b, fun i hi => ?_, fun i hi => ?_⟩
  · rw [kat_ne (by decide), kat_ne (by decide)]; exact h4 i hi
  · rw [kat_ne (by decide), kat_ne (by decide), kat_ne (by decide)]; exact h5 i hi
theorem kfm_u {u : hM} {z0 z : mv_Z} {q j : Nat} {x : Int32} (h : kfm u z0 z) (hq : q = 89 ∧ u 21 0 ≤ j ∨ q = 93 ∧ u 21 0 ≤ j ∨ (90 ≤ q ∧ q ≤ 92 ∧ 10 * u 21 0 ≤ j)) : kfm u z0 (mv_u z q j x) := by
  obtain ⟨h1, h2, h3, h4, h5⟩ := h
  refine ⟨fun q1 a b => by rw [mv_u_ne (by omega)]; exact h1 q1 a b, h2, fun j a b => by rw [mv_u_ne (by omega)]; exact h3 j a b, fun i hi => ?_, fun i hi => ?_⟩
  · rw [mv_u_sl (by omega), mv_u_sl (by omega)]; exact h4 i hi
  · rw [mv_u_sl (by omega), mv_u_sl (by omega), mv_u_sl (by omega)]; exact h5 i hi
theorem kmS_at {u : hM} {z : mv_Z} {i : Nat} {v : Int32} (h : kmS u z) : kmS u (kat z i v) := ⟨by rw [kat_sl (by decide) (by decide)]; exact h.1, fun j => by rw [kat_ne (by decide)]; exact h.2 j⟩
theorem kmS_u {u : hM} {z : mv_Z} {q j : Nat} {x : Int32} (h : kmS u z) (hq : 89 ≤ q) : kmS u (mv_u z q j x) := ⟨by rw [mv_u_ne (by omega)]; exact h.1, fun i => by rw [mv_u_ne (by omega)]; exact h.2 i⟩
theorem krn_stop {g : Nat → Nat} {N i : Nat} {c : hM} (h : i < N → kstp c (g i) = none) : krn g (N - i) i c = (i, c) := by
  rcases Nat.lt_or_ge i N with q | q
  · rw [show N - i = (N - (i + 1)) + 1 by omega]
    simp only [krn, h q]
  · rw [show N - i = 0 by omega]; rfl
theorem krn_go {g : Nat → Nat} {N i : Nat} {c c1 : hM} (hi : i < N) (h : kstp c (g i) = some c1) : krn g (N - i) i c = krn g (N - (i + 1)) (i + 1) c1 := by
  rw [show N - i = (N - (i + 1)) + 1 by omega]
  simp only [krn, h]
theorem hu_tw {c : hM} {q k x y v w : Nat} (hq : ¬ q = 2) : hu (hu (hu (hu c q k x) 2 0 y) q k v) 2 0 w = hu (hu c q k v) 2 0 w := by
  funext k1 i1
  unfold hu
  by_cases q2 : k1 = 2 ∧ i1 = 0
  · repeat rw [if_pos q2]
  · repeat rw [if_neg q2]
    by_cases q6 : k1 = q ∧ i1 = k
    · repeat rw [if_pos q6]
    · repeat rw [if_neg q6]
theorem kJ_2 {g : Nat → Nat} {N : Nat} (hg : ∀ i, g i < 256) (hN : N ≤ 40) : ∀ (f i : Nat) (c : hM), c 0 0 = 2 → c 1 0 < 10 → c 2 0 + f = 3 → i ≤ N → kJ c i → kJ (hu (hu c 6 (c 1 0) (kdg g N f i (c 6 (c 1 0))).2) 2 0 (c 2 0 + ((kdg g N f i (c 6 (c 1 0))).1 - i))) (kdg g N f i (c 6 (c 1 0))).1
  | 0, i, c, h0, h1, h2, hN, hJ => by simp only [kdg, Nat.sub_self, Nat.add_zero]; rw [hu_id, hu_id]; exact hJ
  | f + 1, i, c, h0, h1, h2, hN, hJ => by
    simp only [kdg]
    by_cases h : i < N ∧ kdig (g i)
    · rw [if_pos h]
      have es : kstp c (g i) = some (hu (hu c 6 (c 1 0) (c 6 (c 1 0) * 10 + g i - 48)) 2 0 (c 2 0 + 1)) := by unfold kstp; rw [if_neg (by omega), if_neg (by omega), if_pos h0, if_pos h1, if_pos ⟨h.2, by omega⟩]
      have ih := kJ_2 hg (by assumption) f (i + 1) (hu (hu c 6 (c 1 0) (c 6 (c 1 0) * 10 + g i - 48)) 2 0 (c 2 0 + 1)) (by simpa [hu] using h0) (by simpa [hu] using h1) (by simp [hu]; omega) (by omega) (kJ_s (hg i) (by omega) hJ es)
      have e1 : (hu (hu c 6 (c 1 0) (c 6 (c 1 0) * 10 + g i - 48)) 2 0 (c 2 0 + 1)) 1 0 = c 1 0 := by simp [hu]
      have e6 : (hu (hu c 6 (c 1 0) (c 6 (c 1 0) * 10 + g i - 48)) 2 0 (c 2 0 + 1)) 6 (c 1 0) = c 6 (c 1 0) * 10 + g i - 48 := by simp [hu]
      have e2 : (hu (hu c 6 (c 1 0) (c 6 (c 1 0) * 10 + g i - 48)) 2 0 (c 2 0 + 1)) 2 0 = c 2 0 + 1 := by simp [hu]
      rw [e1, e6, e2, hu_tw (by decide)] at ih
      have hle := (kdg_le (g := g) (N := N) f (i + 1) (c 6 (c 1 0) * 10 + g i - 48)).1
      rw [show c 2 0 + ((kdg g N f (i + 1) (c 6 (c 1 0) * 10 + g i - 48)).1 - i) = c 2 0 + 1 + ((kdg g N f (i + 1) (c 6 (c 1 0) * 10 + g i - 48)).1 - (i + 1)) by omega]
      exact ih
    · rw [if_neg h]; dsimp only; rw [Nat.sub_self, Nat.add_zero, hu_id, hu_id]; exact hJ
theorem r_ask (z0 z : mv_Z) (u c : hM) (i N : Nat) (hi : hI u) (h8 : u 21 0 < 8) (hN : N ≤ 40) (hiN : i ≤ N) (hS : kmS u z) (hF : kfm u z0 z) (h34 : z.1 68 34 = nI i) (h0 : c 0 0 = 0) (hJ : kJ c i) (hM : kMc u c z) : ∃ z1 p c1, ∃ ok : Bool, mv_Runs 3 159 [.ref 68, .int (nI N)] (mv_E z) (some (.int (b1 ok))) (mv_E z1) ∧ kmS u z1 ∧ kfm u z0 z1 ∧ z1.1 68 34 = nI p ∧ (ok = false → krn (u 20) (N - i) i c = (p, c1) ∧ ¬ c1 0 0 = 3) ∧ (ok = true → i < p ∧ p ≤ N ∧ krn (u 20) (N - i) i c = krn (u 20) (N - p) p c1 ∧ c1 0 0 = 2 ∧ kJ c1 p ∧ ¬ c1 2 0 = 0 ∧ (c1 2 0 = 3 ∨ ¬ (p < N ∧ kdig (u 20 p))) ∧ kMc u (hu c1 1 0 (c1 1 0 + 1)) z1) := by
  have hg := hi.2.2.2.2.2.2.2.2.2.2.2.2.2.2.2.1
  have hk10 := hJ.2.1
  have hk4 := (hJ.2.2.2.1 h0).1
  have hzk := kat_self h34
  generalize hw : z.1 68 35 = w at *
  have y28 : z.1 68 28 = nI (u 21 0) := hS.1
  have y89 : z.1 89 (u 21 0) = nI (c 1 0) := hM.1
  have em : 10 * nI (u 21 0) = nI (10 * u 21 0) := by rw [show (10 : Int32) = nI 10 from rfl, pk_mul]
  have R1 := r_isSign z (u 20) i N 1 (by omega) hN (by decide) (by decide) (hg i) h34 (hS.2 i)
  by_cases c1 : i < N ∧ (u 20 i = 110 ∨ u 20 i = 104 ∨ u 20 i = 99)
  · rw [if_pos ⟨c1.1, (ksg_1 _ (hg i)).mpr c1.2⟩] at R1
    have hk : c 1 0 < 10 := by omega
    have es1 : kstp c (u 20 i) = some (hu (hu c 4 (c 1 0) (u 20 i)) 0 0 1) := by unfold kstp; rw [if_pos h0, if_pos ⟨c1.2, hk⟩]
    have hJ1 := kJ_s (hg i) (by omega) hJ es1
    have hr1 := krn_go (g := u 20) c1.1 es1
    have eA1 : (hu (hu c 4 (c 1 0) (u 20 i)) 0 0 1) 1 0 = c 1 0 := by simp [hu]
    generalize hcA : hu (hu c 4 (c 1 0) (u 20 i)) 0 0 1 = cA at *
    have eA0 : cA 0 0 = 1 := by rw [← hcA]; simp [hu]
    have hSA := kmS_u (j := 10 * u 21 0 + c 1 0) (x := nI (u 20 i)) hS (show 89 ≤ 90 by decide)
    have hFA := kfm_u (j := 10 * u 21 0 + c 1 0) (x := nI (u 20 i)) hF (Or.inr (Or.inr ⟨show 90 ≤ 90 by decide, by decide, by omega⟩))
    generalize hzA : mv_u z 90 (10 * u 21 0 + c 1 0) (nI (u 20 i)) = zA at *
    have R2 := r_isSign (kat zA (i + 1) w) (u 20) (i + 1) N 2 (by omega) hN (by decide) (by decide) (hg _) kat_a ((kmS_at hSA).2 _)
    have sA : mv_u z 90 (10 * u 21 0 + c 1 0) (nI (u 20 i)) = kat zA i w := by rw [← hzA, ← kat_u (by decide), hzk]
    have yA34 : (kat zA i w).1 68 34 = nI i := kat_a
    have fin1 : ∀ (r : Option Value) (z1 : mv_Z) (V : Nat → mv_L → List Value → mv_S → Prop), mv_Clo pX11_ask (some .boolean) (mv_Runs 2) (mv_E z1).1 (mv_E z1).2.1 r (mv_E z1) V → V 55 [some (.ref 68), some (.int (nI N)), some (.int (nI (10 * u 21 0 + c 1 0)))] [] (mv_E (kat zA (i + 1) w)) → V 0 [some (.ref 68), some (.int (nI N)), none] [] (mv_E z) := by
      intro r z1 V C k
      refine mv_bipush C rfl ?_
      refine mv_aload_n C rfl rfl ?_
      refine mv_getJ C rfl rfl rfl y28 ?_
      refine mv_imul C rfl ?_
      refine mv_top em ?_
      refine mv_aload_n C rfl rfl ?_
      refine mv_getR C rfl rfl rfl ?_
      refine mv_aload_n C rfl rfl ?_
      refine mv_getJ C rfl rfl rfl y28 ?_
      refine mv_aldJ C rfl rfl rfl (by omega) y89 ?_
      refine mv_iadd C rfl ?_
      refine mv_top (nI_add _ _) ?_
      refine mv_is_n2 C rfl rfl ?_
      refine mv_aload_n C rfl rfl ?_
      refine mv_iload_n C rfl rfl ?_
      refine mv_ldc C rfl ?_
      refine mv_cV C rfl (mv_up R1 rfl) (by decide) rfl rfl rfl (Nat.le_of_ble_eq_true rfl) (Nat.le_refl _) (Nat.le_refl _) rfl ?_
      refine mv_if_ne C rfl (fun c25 => ?_) (fun c25 => ?_)
      · refine mv_aload_n C rfl rfl ?_
        refine mv_getR C rfl rfl rfl ?_
        refine mv_iload_n C rfl rfl ?_
        refine mv_aload_n C rfl rfl ?_
        refine mv_getR C rfl rfl rfl ?_
        refine mv_aload_n C rfl rfl ?_
        refine mv_getJ C rfl rfl rfl h34 ?_
        refine mv_aldJ C rfl rfl rfl (by omega) (hS.2 i) ?_
        refine mv_ast C rfl rfl rfl (by omega) ?_
        refine mv_sto sA ?_
        refine mv_aload_n C rfl rfl ?_
        refine mv_dup C rfl rfl ?_
        refine mv_getJ C rfl rfl rfl yA34 ?_
        refine mv_iconst C rfl ?_
        refine mv_iadd C rfl ?_
        refine mv_top (nI_1 _) ?_
        refine mv_putI C rfl rfl rfl rfl ?_
        refine mv_sto kat_34 ?_
        exact k
      · exact absurd c25 (by decide)
    by_cases c2 : i + 1 < N ∧ (u 20 (i + 1) = 60 ∨ u 20 (i + 1) = 62 ∨ u 20 (i + 1) = 61)
    · rw [if_pos ⟨c2.1, (ksg_2 _ (hg _)).mpr c2.2⟩] at R2
      have es2 : kstp cA (u 20 (i + 1)) = some (hu (hu (hu (hu cA 5 (cA 1 0) (u 20 (i + 1))) 6 (cA 1 0) 0) 2 0 0) 0 0 2) := by unfold kstp; rw [if_neg (by omega), if_pos eA0, if_pos ⟨c2.2, by omega⟩]
      have hJ2 := kJ_s (hg _) (by omega) hJ1 es2
      have hr2 := krn_go (g := u 20) c2.1 es2
      have eB1 : (hu (hu (hu (hu cA 5 (cA 1 0) (u 20 (i + 1))) 6 (cA 1 0) 0) 2 0 0) 0 0 2) 1 0 = c 1 0 := by simp [hu, eA1]
      have eB6 : (hu (hu (hu (hu cA 5 (cA 1 0) (u 20 (i + 1))) 6 (cA 1 0) 0) 2 0 0) 0 0 2) 6 (c 1 0) = 0 := by simp [hu, eA1]
      have eB2 : (hu (hu (hu (hu cA 5 (cA 1 0) (u 20 (i + 1))) 6 (cA 1 0) 0) 2 0 0) 0 0 2) 2 0 = 0 := by simp [hu]
      have eB0 : (hu (hu (hu (hu cA 5 (cA 1 0) (u 20 (i + 1))) 6 (cA 1 0) 0) 2 0 0) 0 0 2) 0 0 = 2 := by simp [hu]
      have eB4 : ∀ j, j < c 1 0 + 1 → (hu (hu (hu (hu cA 5 (cA 1 0) (u 20 (i + 1))) 6 (cA 1 0) 0) 2 0 0) 0 0 2) 4 j = if j = c 1 0 then u 20 i else c 4 j := fun j _ => by rw [← hcA]; simp [hu]
      have eB5 : ∀ j, j < c 1 0 + 1 → (hu (hu (hu (hu cA 5 (cA 1 0) (u 20 (i + 1))) 6 (cA 1 0) 0) 2 0 0) 0 0 2) 5 j = if j = c 1 0 then u 20 (i + 1) else c 5 j := fun j _ => by rw [eA1, ← hcA]; simp [hu]
      have eB7 : ∀ j, ¬ j = c 1 0 → (hu (hu (hu (hu cA 5 (cA 1 0) (u 20 (i + 1))) 6 (cA 1 0) 0) 2 0 0) 0 0 2) 6 j = c 6 j := fun j hj => by rw [eA1, ← hcA]; simp [hu, hj]
      generalize hu (hu (hu (hu cA 5 (cA 1 0) (u 20 (i + 1))) 6 (cA 1 0) 0) 2 0 0) 0 0 2 = cB at *
      have hSB := kmS_u (j := 10 * u 21 0 + c 1 0) (x := nI (u 20 (i + 1))) hSA (show 89 ≤ 91 by decide)
      have hFB := kfm_u (j := 10 * u 21 0 + c 1 0) (x := nI (u 20 (i + 1))) hFA (Or.inr (Or.inr ⟨show 90 ≤ 91 by decide, by decide, by omega⟩))
      generalize hzB : mv_u zA 91 (10 * u 21 0 + c 1 0) (nI (u 20 (i + 1))) = zB at *
      have R3 := r_digits zB (u 20) (i + 2) N w (by omega) hN hg hSB.2
      have sB : mv_u (kat zA (i + 1) w) 91 (10 * u 21 0 + c 1 0) (nI (u 20 (i + 1))) = kat zB (i + 1) w := by rw [kat_u (by decide), hzB]
      have yB34 : (kat zB (i + 1) w).1 68 34 = nI (i + 1) := kat_a
      have yA34' : (kat zA (i + 1) w).1 68 34 = nI (i + 1) := kat_a
      have fin2 : ∀ (r : Option Value) (z1 : mv_Z) (V : Nat → mv_L → List Value → mv_S → Prop), mv_Clo pX11_ask (some .boolean) (mv_Runs 2) (mv_E z1).1 (mv_E z1).2.1 r (mv_E z1) V → V 92 [some (.ref 68), some (.int (nI N)), some (.int (nI (10 * u 21 0 + c 1 0)))] [] (mv_E (kat zB (i + 2) w)) → V 55 [some (.ref 68), some (.int (nI N)), some (.int (nI (10 * u 21 0 + c 1 0)))] [] (mv_E (kat zA (i + 1) w)) := by
        intro r z1 V C k
        refine mv_aload_n C rfl rfl ?_
        refine mv_iload_n C rfl rfl ?_
        refine mv_ldc C rfl ?_
        refine mv_cV C rfl (mv_up R2 rfl) (by decide) rfl rfl rfl (Nat.le_of_ble_eq_true rfl) (Nat.le_refl _) (Nat.le_refl _) rfl ?_
        refine mv_if_ne C rfl (fun c62 => ?_) (fun c62 => ?_)
        · refine mv_aload_n C rfl rfl ?_
          refine mv_getR C rfl rfl rfl ?_
          refine mv_iload_n C rfl rfl ?_
          refine mv_aload_n C rfl rfl ?_
          refine mv_getR C rfl rfl rfl ?_
          refine mv_aload_n C rfl rfl ?_
          refine mv_getJ C rfl rfl rfl yA34' ?_
          refine mv_aldJ C rfl rfl rfl (by omega) ((kmS_at hSA).2 (i + 1)) ?_
          refine mv_ast C rfl rfl rfl (by omega) ?_
          refine mv_sto sB ?_
          refine mv_aload_n C rfl rfl ?_
          refine mv_dup C rfl rfl ?_
          refine mv_getJ C rfl rfl rfl yB34 ?_
          refine mv_iconst C rfl ?_
          refine mv_iadd C rfl ?_
          refine mv_top (nI_1 _) ?_
          refine mv_putI C rfl rfl rfl rfl ?_
          refine mv_sto kat_34 ?_
          exact k
        · exact absurd c62 (by decide)
      have hle := kdg_le (g := u 20) (N := N) 3 (i + 2) 0
      have hend := kdg_end (g := u 20) (N := N) 3 (i + 2) 0
      have hr3 := krn_2 (g := u 20) (N := N) 3 (i + 2) cB eB0 (by omega) (by omega) (by omega)
      have hJ3 := kJ_2 (g := u 20) (N := N) hg hN 3 (i + 2) cB eB0 (by omega) (by omega) (by omega) hJ2
      rw [eB1, eB6, eB2, Nat.zero_add] at hr3 hJ3
      generalize kdg (u 20) N 3 (i + 2) 0 = d at *
      obtain ⟨p, v⟩ := d
      dsimp only at *
      by_cases c3 : i + 2 < p
      · rw [if_pos c3] at R3
        have yk : ∀ z q, (¬ q = 68) → (kat z p (nI v)).1 q = z.1 q := fun z q h => kat_ne h
        have sC : mv_u (kat zB p (nI v)) 92 (10 * u 21 0 + c 1 0) (nI v) = kat (mv_u zB 92 (10 * u 21 0 + c 1 0) (nI v)) p (nI v) := kat_u (by decide)
        have sD : mv_u (kat (mv_u zB 92 (10 * u 21 0 + c 1 0) (nI v)) p (nI v)) 89 (u 21 0) (nI (c 1 0 + 1)) = kat (mv_u (mv_u zB 92 (10 * u 21 0 + c 1 0) (nI v)) 89 (u 21 0) (nI (c 1 0 + 1))) p (nI v) := kat_u (by decide)
        have hSC := kmS_u (j := 10 * u 21 0 + c 1 0) (x := nI v) hSB (show 89 ≤ 92 by decide)
        have hSD := kmS_u (j := u 21 0) (x := nI (c 1 0 + 1)) hSC (show 89 ≤ 89 by decide)
        have hFC := kfm_u (j := 10 * u 21 0 + c 1 0) (x := nI v) hFB (Or.inr (Or.inr ⟨show 90 ≤ 92 by decide, by decide, by omega⟩))
        have hFD := kfm_u (j := u 21 0) (x := nI (c 1 0 + 1)) hFC (Or.inl ⟨rfl, Nat.le_refl _⟩)
        have b28 : (kat (mv_u zB 92 (10 * u 21 0 + c 1 0) (nI v)) p (nI v)).1 68 28 = nI (u 21 0) := (kmS_at hSC).1
        have b89 : (kat (mv_u zB 92 (10 * u 21 0 + c 1 0) (nI v)) p (nI v)).1 89 (u 21 0) = nI (c 1 0) := by
          rw [kat_ne (by decide), mv_u_ne (by decide), ← hzB, mv_u_ne (by decide), ← hzA, mv_u_ne (by decide)]; exact y89
        refine ⟨kat (mv_u (mv_u zB 92 (10 * u 21 0 + c 1 0) (nI v)) 89 (u 21 0) (nI (c 1 0 + 1))) p (nI v), p, hu (hu cB 6 (c 1 0) v) 2 0 (p - (i + 2)), true, ?_, kmS_at hSD, kfm_at hFD, kat_a, (fun h => by cases h), fun _ => ⟨by omega, hle.2.2 (by omega), by rw [hr1, hr2, hr3], by simpa [hu] using eB0, hJ3, by simp [hu]; omega, ?_, ?_⟩⟩
        · refine mv_start pX11_ask (some .boolean) [some (.ref 68), some (.int (nI N)), none] rfl rfl rfl rfl (fun V C => ?_)
          refine fin1 _ _ V C (fin2 _ _ V C ?_)
          refine mv_aload_n C rfl rfl ?_
          refine mv_iload_n C rfl rfl ?_
          refine mv_cV C rfl R3 (by decide) rfl rfl rfl (Nat.le_of_ble_eq_true rfl) (Nat.le_refl _) (Nat.le_refl _) rfl ?_
          refine mv_if_ne C rfl (fun c97 => ?_) (fun c97 => ?_)
          · refine mv_aload_n C rfl rfl ?_
            refine mv_getR C rfl rfl rfl ?_
            refine mv_iload_n C rfl rfl ?_
            refine mv_aload_n C rfl rfl ?_
            refine mv_getJ C rfl rfl rfl kat_b ?_
            refine mv_ast C rfl rfl rfl (by omega) ?_
            refine mv_sto sC ?_
            refine mv_aload_n C rfl rfl ?_
            refine mv_getR C rfl rfl rfl ?_
            refine mv_aload_n C rfl rfl ?_
            refine mv_getJ C rfl rfl rfl b28 ?_
            refine mv_dup2 C rfl rfl rfl ?_
            refine mv_aldJ C rfl rfl rfl (by omega) b89 ?_
            refine mv_iconst C rfl ?_
            refine mv_iadd C rfl ?_
            refine mv_top (nI_1 _) ?_
            refine mv_ast C rfl rfl rfl (by omega) ?_
            refine mv_sto sD ?_
            refine mv_iconst C rfl ?_
            refine mv_ireturn C rfl mv_okZ1 ?_ ?_
            all_goals rfl
          · exact absurd c97 (by decide)
        · rcases hend with q | q
          · exact Or.inl (by simp [hu]; omega)
          · exact Or.inr q
        · have e1 : hu (hu (hu cB 6 (c 1 0) v) 2 0 (p - (i + 2))) 1 0 (hu (hu cB 6 (c 1 0) v) 2 0 (p - (i + 2)) 1 0 + 1) 1 0 = c 1 0 + 1 := by simp [hu, eB1]
          refine ⟨by rw [e1, kat_ne (by decide), mv_u_eq], fun j hj => ?_⟩
          rw [e1] at hj
          have e4 : hu (hu (hu cB 6 (c 1 0) v) 2 0 (p - (i + 2))) 1 0 (hu (hu cB 6 (c 1 0) v) 2 0 (p - (i + 2)) 1 0 + 1) 4 j = cB 4 j := by simp [hu]
          have e5 : hu (hu (hu cB 6 (c 1 0) v) 2 0 (p - (i + 2))) 1 0 (hu (hu cB 6 (c 1 0) v) 2 0 (p - (i + 2)) 1 0 + 1) 5 j = cB 5 j := by simp [hu]
          have e6 : hu (hu (hu cB 6 (c 1 0) v) 2 0 (p - (i + 2))) 1 0 (hu (hu cB 6 (c 1 0) v) 2 0 (p - (i + 2)) 1 0 + 1) 6 j = if j = c 1 0 then v else cB 6 j := by simp [hu]
          rw [e4, e5, e6, eB4 j hj, eB5 j hj]
          rw [kat_ne (q := 90) (by decide), kat_ne (q := 91) (by decide), kat_ne (q := 92) (by decide), mv_u_ne (q := 90) (by decide), mv_u_ne (q := 91) (by decide), mv_u_ne (q := 92) (by decide), mv_u_ne (q := 90) (by decide), mv_u_ne (q := 91) (by decide)]
          by_cases ej : j = c 1 0
          · rw [if_pos ej, if_pos ej, if_pos ej, ej]
            refine ⟨?_, ?_, mv_u_eq⟩
            · rw [← hzB, mv_u_ne (by decide), ← hzA, mv_u_eq]
            · rw [← hzB, mv_u_eq]
          · rw [if_neg ej, if_neg ej, if_neg ej, eB7 j ej]
            have := hM.2 j (by omega)
            refine ⟨?_, ?_, ?_⟩
            · rw [← hzB, mv_u_ne (by decide), ← hzA, mv_u_at (by omega)]; exact this.1
            · rw [← hzB, mv_u_at (by omega), ← hzA, mv_u_ne (by decide)]; exact this.2.1
            · rw [mv_u_at (by omega), ← hzB, mv_u_ne (by decide), ← hzA, mv_u_ne (by decide)]; exact this.2.2
      · rw [if_neg c3] at R3
        have ep : p = i + 2 := by omega
        subst ep
        have hst : krn (u 20) (N - (i + 2)) (i + 2) cB = (i + 2, cB) := krn_stop (fun q => by
          unfold kstp
          rw [if_neg (by omega), if_neg (by omega), if_pos eB0, if_pos (by omega), if_neg (fun w => ?_), if_neg (fun w => w.1 eB2)]
          rcases hend with e | e
          · omega
          · exact e ⟨q, w.1⟩)
        refine ⟨kat zB (i + 2) (nI v), i + 2, cB, false, ?_, kmS_at hSB, kfm_at hFB, kat_a, fun _ => ⟨by rw [hr1, hr2, hst], by omega⟩, fun h => by cases h⟩
        refine mv_start pX11_ask (some .boolean) [some (.ref 68), some (.int (nI N)), none] rfl rfl rfl rfl (fun V C => ?_)
        refine fin1 _ _ V C (fin2 _ _ V C ?_)
        refine mv_aload_n C rfl rfl ?_
        refine mv_iload_n C rfl rfl ?_
        refine mv_cV C rfl R3 (by decide) rfl rfl rfl (Nat.le_of_ble_eq_true rfl) (Nat.le_refl _) (Nat.le_refl _) rfl ?_
        refine mv_if_ne C rfl (fun c97 => ?_) (fun c97 => ?_)
        · exact absurd rfl c97
        · refine mv_iconst C rfl ?_
          refine mv_ireturn C rfl mv_okZ0 ?_ ?_
          all_goals rfl
    · rw [if_neg (fun q => c2 ⟨q.1, (ksg_2 _ (hg _)).mp q.2⟩)] at R2
      have hst : krn (u 20) (N - (i + 1)) (i + 1) cA = (i + 1, cA) := krn_stop (fun q => by
        unfold kstp
        rw [if_neg (by omega), if_pos eA0, if_neg (fun w => c2 ⟨q, w.1⟩)])
      refine ⟨kat zA (i + 1) w, i + 1, cA, false, ?_, kmS_at hSA, kfm_at hFA, kat_a, fun _ => ⟨by rw [hr1, hst], by omega⟩, fun h => by cases h⟩
      refine mv_start pX11_ask (some .boolean) [some (.ref 68), some (.int (nI N)), none] rfl rfl rfl rfl (fun V C => ?_)
      refine fin1 _ _ V C ?_
      refine mv_aload_n C rfl rfl ?_
      refine mv_iload_n C rfl rfl ?_
      refine mv_ldc C rfl ?_
      refine mv_cV C rfl (mv_up R2 rfl) (by decide) rfl rfl rfl (Nat.le_of_ble_eq_true rfl) (Nat.le_refl _) (Nat.le_refl _) rfl ?_
      refine mv_if_ne C rfl (fun c62 => ?_) (fun c62 => ?_)
      · exact absurd rfl c62
      · refine mv_iconst C rfl ?_
        refine mv_ireturn C rfl mv_okZ0 ?_ ?_
        all_goals rfl
  · rw [if_neg (fun q => c1 ⟨q.1, (ksg_1 _ (hg i)).mp q.2⟩)] at R1
    have hst : krn (u 20) (N - i) i c = (i, c) := krn_stop (fun q => by
      unfold kstp
      rw [if_pos h0, if_neg (fun w => c1 ⟨q, w.1⟩)])
    refine ⟨z, i, c, false, ?_, hS, hF, h34, fun _ => ⟨hst, by omega⟩, fun h => by cases h⟩
    refine mv_start pX11_ask (some .boolean) [some (.ref 68), some (.int (nI N)), none] rfl rfl rfl rfl (fun V C => ?_)
    refine mv_bipush C rfl ?_
    refine mv_aload_n C rfl rfl ?_
    refine mv_getJ C rfl rfl rfl y28 ?_
    refine mv_imul C rfl ?_
    refine mv_top em ?_
    refine mv_aload_n C rfl rfl ?_
    refine mv_getR C rfl rfl rfl ?_
    refine mv_aload_n C rfl rfl ?_
    refine mv_getJ C rfl rfl rfl y28 ?_
    refine mv_aldJ C rfl rfl rfl (by omega) y89 ?_
    refine mv_iadd C rfl ?_
    refine mv_top (nI_add _ _) ?_
    refine mv_is_n2 C rfl rfl ?_
    refine mv_aload_n C rfl rfl ?_
    refine mv_iload_n C rfl rfl ?_
    refine mv_ldc C rfl ?_
    refine mv_cV C rfl (mv_up R1 rfl) (by decide) rfl rfl rfl (Nat.le_of_ble_eq_true rfl) (Nat.le_refl _) (Nat.le_refl _) rfl ?_
    refine mv_if_ne C rfl (fun c25 => ?_) (fun c25 => ?_)
    · exact absurd rfl c25
    · refine mv_iconst C rfl ?_
      refine mv_ireturn C rfl mv_okZ0 ?_ ?_
      all_goals rfl
end

