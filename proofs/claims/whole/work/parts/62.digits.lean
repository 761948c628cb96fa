section
def kdg (g : Nat → Nat) (N : Nat) : Nat → Nat → Nat → Nat × Nat
  | 0, i, v => (i, v)
  | f + 1, i, v => if i < N ∧ kdig (g i) then kdg g N f (i + 1) (v * 10 + g i - 48) else (i, v)
theorem kdg_le {g : Nat → Nat} {N : Nat} : ∀ (f i v : Nat), i ≤ (kdg g N f i v).1 ∧ (kdg g N f i v).1 ≤ i + f ∧ (i ≤ N → (kdg g N f i v).1 ≤ N)
  | 0, i, v => ⟨Nat.le_refl _, Nat.le_refl _, fun h => h⟩
  | f + 1, i, v => by
    simp only [kdg]
    by_cases h : i < N ∧ kdig (g i)
    · rw [if_pos h]
      obtain ⟨h1, h2, h3⟩ := kdg_le (g := g) (N := N) f (i + 1) (v * 10 + g i - 48)
      exact ⟨by omega, by omega, fun _ => h3 (by omega)⟩
    · rw [if_neg h]; exact ⟨Nat.le_refl _, by dsimp only; omega, fun h => h⟩
theorem kdg_end {g : Nat → Nat} {N : Nat} : ∀ (f i v : Nat), (kdg g N f i v).1 = i + f ∨ ¬ ((kdg g N f i v).1 < N ∧ kdig (g (kdg g N f i v).1))
  | 0, i, v => Or.inl rfl
  | f + 1, i, v => by
    simp only [kdg]
    by_cases h : i < N ∧ kdig (g i)
    · rw [if_pos h]
      rcases kdg_end (g := g) (N := N) f (i + 1) (v * 10 + g i - 48) with q | q
      · exact Or.inl (by omega)
      · exact Or.inr q
    · rw [if_neg h]; exact Or.inr h
theorem hu_id {c : hM} {k i : Nat} : hu c k i (c k i) = c := by
  funext k1 i1; unfold hu; split
  · rename_i h; rw [h.1, h.2]
  · rfl
theorem krn_2 {g : Nat → Nat} {N : Nat} : ∀ (f i : Nat) (c : hM), c 0 0 = 2 → c 1 0 < 10 → c 2 0 + f = 3 → i ≤ N → krn g (N - i) i c = krn g (N - (kdg g N f i (c 6 (c 1 0))).1) (kdg g N f i (c 6 (c 1 0))).1 (hu (hu c 6 (c 1 0) (kdg g N f i (c 6 (c 1 0))).2) 2 0 (c 2 0 + ((kdg g N f i (c 6 (c 1 0))).1 - i)))
  | 0, i, c, h0, h1, h2, hN => by simp only [kdg, Nat.sub_self, Nat.add_zero]; rw [hu_id, hu_id]
  | f + 1, i, c, h0, h1, h2, hN => by
    simp only [kdg]
    by_cases h : i < N ∧ kdig (g i)
    · rw [if_pos h]
      have es : kstp c (g i) = some (hu (hu c 6 (c 1 0) (c 6 (c 1 0) * 10 + g i - 48)) 2 0 (c 2 0 + 1)) := by unfold kstp; rw [if_neg (by omega), if_neg (by omega), if_pos h0, if_pos h1, if_pos ⟨h.2, by omega⟩]
      have ih := krn_2 (g := g) (N := N) f (i + 1) (hu (hu c 6 (c 1 0) (c 6 (c 1 0) * 10 + g i - 48)) 2 0 (c 2 0 + 1)) (by simpa [hu] using h0) (by simpa [hu] using h1) (by simp [hu]; omega) (by omega)
      rw [show N - i = (N - (i + 1)) + 1 by omega]
      simp only [krn, es]
      rw [ih]
      have e1 : (hu (hu c 6 (c 1 0) (c 6 (c 1 0) * 10 + g i - 48)) 2 0 (c 2 0 + 1)) 1 0 = c 1 0 := by simp [hu]
      have e6 : (hu (hu c 6 (c 1 0) (c 6 (c 1 0) * 10 + g i - 48)) 2 0 (c 2 0 + 1)) 6 (c 1 0) = c 6 (c 1 0) * 10 + g i - 48 := by simp [hu]
      have e2 : (hu (hu c 6 (c 1 0) (c 6 (c 1 0) * 10 + g i - 48)) 2 0 (c 2 0 + 1)) 2 0 = c 2 0 + 1 := by simp [hu]
      rw [e1, e6, e2]
      have hle := (kdg_le (g := g) (N := N) f (i + 1) (c 6 (c 1 0) * 10 + g i - 48)).1
      generalize kdg g N f (i + 1) (c 6 (c 1 0) * 10 + g i - 48) = r at *
      congr 1
      funext k1 i1
      unfold hu
      by_cases q2 : k1 = 2 ∧ i1 = 0
      · rw [if_pos q2, if_pos q2]; omega
      · repeat rw [if_neg q2]
        by_cases q6 : k1 = 6 ∧ i1 = c 1 0
        · repeat rw [if_pos q6]
        · repeat rw [if_neg q6]
    · rw [if_neg h]; dsimp only; rw [Nat.sub_self, Nat.add_zero, hu_id, hu_id]
theorem krn_3 {g : Nat → Nat} {N : Nat} : ∀ (f i : Nat) (c : hM), c 0 0 = 3 → c 2 0 + f = 3 → i ≤ N → krn g (N - i) i c = krn g (N - (kdg g N f i (c 3 0)).1) (kdg g N f i (c 3 0)).1 (hu (hu c 3 0 (kdg g N f i (c 3 0)).2) 2 0 (c 2 0 + ((kdg g N f i (c 3 0)).1 - i)))
  | 0, i, c, h0, h2, hN => by simp only [kdg, Nat.sub_self, Nat.add_zero]; rw [hu_id, hu_id]
  | f + 1, i, c, h0, h2, hN => by
    simp only [kdg]
    by_cases h : i < N ∧ kdig (g i)
    · rw [if_pos h]
      have es : kstp c (g i) = some (hu (hu c 3 0 (c 3 0 * 10 + g i - 48)) 2 0 (c 2 0 + 1)) := by unfold kstp; rw [if_neg (by omega), if_neg (by omega), if_neg (by omega), if_pos ⟨h.2, by omega⟩]
      have ih := krn_3 (g := g) (N := N) f (i + 1) (hu (hu c 3 0 (c 3 0 * 10 + g i - 48)) 2 0 (c 2 0 + 1)) (by simpa [hu] using h0) (by simp [hu]; omega) (by omega)
      rw [show N - i = (N - (i + 1)) + 1 by omega]
      simp only [krn, es]
      rw [ih]
      have e6 : (hu (hu c 3 0 (c 3 0 * 10 + g i - 48)) 2 0 (c 2 0 + 1)) 3 0 = c 3 0 * 10 + g i - 48 := by simp [hu]
      have e2 : (hu (hu c 3 0 (c 3 0 * 10 + g i - 48)) 2 0 (c 2 0 + 1)) 2 0 = c 2 0 + 1 := by simp [hu]
      rw [e6, e2]
      have hle := (kdg_le (g := g) (N := N) f (i + 1) (c 3 0 * 10 + g i - 48)).1
      generalize kdg g N f (i + 1) (c 3 0 * 10 + g i - 48) = r at *
      congr 1
      funext k1 i1
      unfold hu
      by_cases q2 : k1 = 2 ∧ i1 = 0
      · rw [if_pos q2, if_pos q2]; omega
      · repeat rw [if_neg q2]
        by_cases q6 : k1 = 3 ∧ i1 = 0
        · repeat rw [if_pos q6]
        · repeat rw [if_neg q6]
    · rw [if_neg h]; dsimp only; rw [Nat.sub_self, Nat.add_zero, hu_id, hu_id]
/-- the place and the number -/
def kat (z : mv_Z) (i : Nat) (v : Int32) : mv_Z := mv_u (mv_u z 68 34 (nI i)) 68 35 v
theorem kat_self {z : mv_Z} {i : Nat} (h : z.1 68 34 = nI i) : kat z i (z.1 68 35) = z := by
  unfold kat mv_u
  refine Prod.ext (funext fun q => ?_) rfl
  dsimp only [va_up]
  by_cases e : q = 68
  · subst e; simp only [if_true]; funext j; unfold upd
    by_cases e1 : j = 35
    · rw [if_pos e1, e1]
    · rw [if_neg e1]
      by_cases e2 : j = 34
      · rw [if_pos e2, e2, h]
      · rw [if_neg e2]
  · simp [e]
theorem kat_34 {z : mv_Z} {i j : Nat} {v : Int32} : mv_u (kat z i v) 68 34 (nI j) = kat z j v := by
  unfold kat mv_u
  refine Prod.ext (funext fun q => ?_) rfl
  dsimp only [va_up]
  by_cases e : q = 68
  · subst e; simp only [if_true]; funext j; unfold upd
    by_cases e1 : j = 34
    · subst e1; rfl
    · rw [if_neg e1, if_neg e1]
      by_cases e2 : j = 35
      · rw [if_pos e2, if_pos e2]
      · rw [if_neg e2, if_neg e2, if_neg e1]
  · simp [e]
theorem kat_35 {z : mv_Z} {i : Nat} {v w : Int32} : mv_u (kat z i v) 68 35 w = kat z i w := mv_uu
theorem kat_a {z : mv_Z} {i : Nat} {v : Int32} : (kat z i v).1 68 34 = nI i := rfl
theorem kat_b {z : mv_Z} {i : Nat} {v : Int32} : (kat z i v).1 68 35 = v := rfl
theorem kat_u {z : mv_Z} {i q j : Nat} {v x : Int32} (h : ¬ q = 68) : mv_u (kat z i v) q j x = kat (mv_u z q j x) i v := by
  unfold kat mv_u
  refine Prod.ext (funext fun q1 => ?_) rfl
  dsimp only [va_up]
  by_cases e : q1 = q
  · subst e; simp [h]
  · by_cases e2 : q1 = 68
    · subst e2; simp [e, h]
    · simp [e, e2]
theorem kat_ne {z : mv_Z} {i q : Nat} {v : Int32} (h : ¬ q = 68) : (kat z i v).1 q = z.1 q := by unfold kat; rw [mv_u_ne h, mv_u_ne h]
theorem kat_sl {z : mv_Z} {i j : Nat} {v : Int32} (h : ¬ j = 34) (h2 : ¬ j = 35) : (kat z i v).1 68 j = z.1 68 j := by unfold kat; rw [mv_u_at h2, mv_u_at h]
abbrev ksg (j x : Nat) : Prop := 0 < x ∧ ¬ mv_ix j (nI x) < 0
theorem ksg_1 : ∀ x, x < 256 → (ksg 1 x ↔ (x = 110 ∨ x = 104 ∨ x = 99)) := by decide +kernel
theorem ksg_2 : ∀ x, x < 256 → (ksg 2 x ↔ (x = 60 ∨ x = 62 ∨ x = 61)) := by decide +kernel
theorem ksg_3 : ∀ x, x < 256 → (ksg 3 x ↔ kdig x) := by decide +kernel
theorem ksg_4 : ∀ x, x < 256 → (ksg 4 x ↔ x = 38) := by decide +kernel
theorem ksg_5 : ∀ x, x < 256 → (ksg 5 x ↔ x = 58) := by decide +kernel
theorem r_isSign (z : mv_Z) (g : Nat → Nat) (i N j : Nat) (hi : i < 100) (hN : N ≤ 40) (hj : 1 ≤ j) (hj2 : j < 6) (hg : g i < 256) (h34 : z.1 68 34 = nI i) (h88 : z.1 88 i = nI (g i)) : mv_Runs 1 157 [.ref 68, .int (nI N), .ref (1000 + j)] (mv_E z) (some (.int (if i < N ∧ ksg j (g i) then 1 else 0))) (mv_E z) := by
  by_cases h1 : i < N
  · by_cases h2 : 0 < g i
    · by_cases h3 : mv_ix j (nI (g i)) < 0
      · rw [if_neg (fun q => q.2.2 h3)]
        refine mv_start pX11_isSign (some .boolean) [some (.ref 68), some (.int (nI N)), some (.ref (1000 + j))] rfl rfl rfl rfl (fun V C => ?_)
        refine mv_aload_n C rfl rfl ?_
        refine mv_getJ C rfl rfl rfl h34 ?_
        refine mv_iload_n C rfl rfl ?_
        refine mv_icmp_ge C rfl (fun c5 => ?_) (fun c5 => ?_)
        · exact absurd c5 (nI_ge (by omega) (by omega))
        · refine mv_aload_n C rfl rfl ?_
          refine mv_getR C rfl rfl rfl ?_
          refine mv_aload_n C rfl rfl ?_
          refine mv_getJ C rfl rfl rfl h34 ?_
          refine mv_aldJ C rfl rfl rfl (by omega) h88 ?_
          refine mv_if_le C rfl (fun c17 => ?_) (fun c17 => ?_)
          · exact absurd ((nI_leI (b := 0) (by omega) (by decide)).mp c17) (by omega)
          · refine mv_aload_n C rfl rfl ?_
            refine mv_aload_n C rfl rfl ?_
            refine mv_getR C rfl rfl rfl ?_
            refine mv_aload_n C rfl rfl ?_
            refine mv_getJ C rfl rfl rfl h34 ?_
            refine mv_aldJ C rfl rfl rfl (by omega) h88 ?_
            refine mv_ixof C rfl rfl hj hj2 (Nat.le_of_ble_eq_true rfl) ?_
            refine mv_if_lt C rfl (fun c33 => ?_) (fun c33 => ?_)
            · refine mv_iconst C rfl ?_
              refine mv_ireturn C rfl mv_okZ0 ?_ ?_
              all_goals rfl
            · exact absurd h3 c33
      · rw [if_pos ⟨h1, h2, h3⟩]
        refine mv_start pX11_isSign (some .boolean) [some (.ref 68), some (.int (nI N)), some (.ref (1000 + j))] rfl rfl rfl rfl (fun V C => ?_)
        refine mv_aload_n C rfl rfl ?_
        refine mv_getJ C rfl rfl rfl h34 ?_
        refine mv_iload_n C rfl rfl ?_
        refine mv_icmp_ge C rfl (fun c5 => ?_) (fun c5 => ?_)
        · exact absurd c5 (nI_ge (by omega) (by omega))
        · refine mv_aload_n C rfl rfl ?_
          refine mv_getR C rfl rfl rfl ?_
          refine mv_aload_n C rfl rfl ?_
          refine mv_getJ C rfl rfl rfl h34 ?_
          refine mv_aldJ C rfl rfl rfl (by omega) h88 ?_
          refine mv_if_le C rfl (fun c17 => ?_) (fun c17 => ?_)
          · exact absurd ((nI_leI (b := 0) (by omega) (by decide)).mp c17) (by omega)
          · refine mv_aload_n C rfl rfl ?_
            refine mv_aload_n C rfl rfl ?_
            refine mv_getR C rfl rfl rfl ?_
            refine mv_aload_n C rfl rfl ?_
            refine mv_getJ C rfl rfl rfl h34 ?_
            refine mv_aldJ C rfl rfl rfl (by omega) h88 ?_
            refine mv_ixof C rfl rfl hj hj2 (Nat.le_of_ble_eq_true rfl) ?_
            refine mv_if_lt C rfl (fun c33 => ?_) (fun c33 => ?_)
            · exact absurd c33 h3
            · refine mv_iconst C rfl ?_
              refine mv_goto C rfl ?_
              refine mv_ireturn C rfl mv_okZ1 ?_ ?_
              all_goals rfl
    · rw [if_neg (fun q => h2 q.2.1)]
      refine mv_start pX11_isSign (some .boolean) [some (.ref 68), some (.int (nI N)), some (.ref (1000 + j))] rfl rfl rfl rfl (fun V C => ?_)
      refine mv_aload_n C rfl rfl ?_
      refine mv_getJ C rfl rfl rfl h34 ?_
      refine mv_iload_n C rfl rfl ?_
      refine mv_icmp_ge C rfl (fun c5 => ?_) (fun c5 => ?_)
      · exact absurd c5 (nI_ge (by omega) (by omega))
      · refine mv_aload_n C rfl rfl ?_
        refine mv_getR C rfl rfl rfl ?_
        refine mv_aload_n C rfl rfl ?_
        refine mv_getJ C rfl rfl rfl h34 ?_
        refine mv_aldJ C rfl rfl rfl (by omega) h88 ?_
        refine mv_if_le C rfl (fun c17 => ?_) (fun c17 => ?_)
        · refine mv_iconst C rfl ?_
          refine mv_ireturn C rfl mv_okZ0 ?_ ?_
          all_goals rfl
        · exact absurd ((nI_leI (b := 0) (by omega) (by decide)).mpr (by omega)) c17
  · rw [if_neg (fun q => h1 q.1)]
    refine mv_start pX11_isSign (some .boolean) [some (.ref 68), some (.int (nI N)), some (.ref (1000 + j))] rfl rfl rfl rfl (fun V C => ?_)
    refine mv_aload_n C rfl rfl ?_
    refine mv_getJ C rfl rfl rfl h34 ?_
    refine mv_iload_n C rfl rfl ?_
    refine mv_icmp_ge C rfl (fun c5 => ?_) (fun c5 => ?_)
    · refine mv_iconst C rfl ?_
      refine mv_ireturn C rfl mv_okZ0 ?_ ?_
      all_goals rfl
    · exact absurd (nI_le (by omega) (by omega)) c5
theorem nI_dg2 {v x : Nat} (hv : v < 1000000) (h : 48 ≤ x) (hx : x < 256) : 10 * nI v + nI x - 48 = nI (v * 10 + x - 48) := by
  rw [show (10 : Int32) = nI 10 from rfl, pk_mul, nI_add, Nat.mul_comm]; exact pk_sub (b := 48) (by omega)
theorem r_digits (z : mv_Z) (g : Nat → Nat) (i0 N : Nat) (w : Int32) (hi0 : i0 ≤ N) (hN : N ≤ 40) (hg : ∀ i, g i < 256) (h88 : ∀ i, z.1 88 i = nI (g i)) : mv_Runs 2 158 [.ref 68, .int (nI N)] (mv_E (kat z i0 w)) (some (.int (if i0 < (kdg g N 3 i0 0).1 then 1 else 0))) (mv_E (kat z (kdg g N 3 i0 0).1 (nI (kdg g N 3 i0 0).2))) := by
  generalize hr : kdg g N 3 i0 0 = r
  have hle := kdg_le (g := g) (N := N) 3 i0 0
  rw [hr] at hle
  refine mv_start pX11_digits (some .boolean) [some (.ref 68), some (.int (nI N)), none] rfl rfl rfl rfl (fun V C => ?_)
  have fin : V 67 [some (.ref 68), some (.int (nI N)), some (.int (nI i0))] [] (mv_E (kat z r.1 (nI r.2))) := by
    by_cases h : i0 < r.1
    · rw [if_pos h] at C
      refine mv_aload_n C rfl rfl ?_
      refine mv_getJ C rfl rfl rfl kat_a ?_
      refine mv_iload_n C rfl rfl ?_
      refine mv_icmp_le C rfl (fun c72 => ?_) (fun c72 => ?_)
      · exact absurd ((nI_leI (by omega) (by omega)).mp c72) (by omega)
      · refine mv_iconst C rfl ?_
        refine mv_goto C rfl ?_
        refine mv_ireturn C rfl mv_okZ1 ?_ ?_
        all_goals rfl
    · rw [if_neg h] at C
      refine mv_aload_n C rfl rfl ?_
      refine mv_getJ C rfl rfl rfl kat_a ?_
      refine mv_iload_n C rfl rfl ?_
      refine mv_icmp_le C rfl (fun c72 => ?_) (fun c72 => ?_)
      · refine mv_iconst C rfl ?_
        refine mv_ireturn C rfl mv_okZ0 ?_ ?_
        all_goals rfl
      · exact absurd ((nI_leI (by omega) (by omega)).mpr (by omega)) c72
  have loop : ∀ (f i v : Nat), f ≤ 3 → i + f = i0 + 3 → i ≤ N → v < 10 ^ (3 - f) → kdg g N f i v = r → V 10 [some (.ref 68), some (.int (nI N)), some (.int (nI i0))] [] (mv_E (kat z i (nI v))) := by
    intro f
    induction f with
    | zero =>
      intro i v hf3 h1 h2 h3 h4
      simp only [kdg] at h4
      subst h4
      have e3 : nI i0 + 3 = nI (i0 + 3) := nI_add i0 3
      refine mv_aload_n C rfl rfl ?_
      refine mv_getJ C rfl rfl rfl kat_a ?_
      refine mv_iload_n C rfl rfl ?_
      refine mv_iconst C rfl ?_
      refine mv_iadd C rfl ?_
      refine mv_top e3 ?_
      refine mv_icmp_ge C rfl (fun c17 => ?_) (fun c17 => ?_)
      · exact fin
      · exact absurd (nI_le (by omega) (by omega)) c17
    | succ f ih =>
      intro i v hf3 h1 h2 h3 h4
      simp only [kdg] at h4
      have e3 : nI i0 + 3 = nI (i0 + 3) := nI_add i0 3
      have R1 := r_isSign (kat z i (nI v)) g i N 3 (by omega) hN (by decide) (by decide) (hg i) kat_a (by rw [kat_ne (by decide)]; exact h88 i)
      have y88 : (kat z i (nI v)).1 88 i = nI (g i) := by rw [kat_ne (by decide)]; exact h88 i
      by_cases h : i < N ∧ kdig (g i)
      · rw [if_pos h] at h4
        rw [if_pos ⟨h.1, (ksg_3 _ (hg i)).mpr h.2⟩] at R1
        have hv := k10 (d := 3 - (f + 1)) (by omega)
        have hp : 10 ^ (3 - f) = 10 * 10 ^ (3 - (f + 1)) := by rw [show 3 - f = (3 - (f + 1)) + 1 by omega, Nat.pow_succ, Nat.mul_comm]
        have e := ih (i + 1) (v * 10 + g i - 48) (by omega) (by omega) (by omega) (by rw [hp]; have := h.2; omega) h4
        refine mv_aload_n C rfl rfl ?_
        refine mv_getJ C rfl rfl rfl kat_a ?_
        refine mv_iload_n C rfl rfl ?_
        refine mv_iconst C rfl ?_
        refine mv_iadd C rfl ?_
        refine mv_top e3 ?_
        refine mv_icmp_ge C rfl (fun c17 => ?_) (fun c17 => ?_)
        · exact absurd c17 (nI_ge (by omega) (by omega))
        · refine mv_aload_n C rfl rfl ?_
          refine mv_iload_n C rfl rfl ?_
          refine mv_ldc C rfl ?_
          refine mv_cV C rfl R1 (by decide) rfl rfl rfl (Nat.le_of_ble_eq_true rfl) (Nat.le_refl _) (Nat.le_refl _) rfl ?_
          refine mv_if_eq C rfl (fun c27 => ?_) (fun c27 => ?_)
          · exact absurd c27 (by decide)
          · refine mv_aload_n C rfl rfl ?_
            refine mv_bipush C rfl ?_
            refine mv_aload_n C rfl rfl ?_
            refine mv_getJ C rfl rfl rfl kat_b ?_
            refine mv_imul C rfl ?_
            refine mv_aload_n C rfl rfl ?_
            refine mv_getR C rfl rfl rfl ?_
            refine mv_aload_n C rfl rfl ?_
            refine mv_getJ C rfl rfl rfl kat_a ?_
            refine mv_aldJ C rfl rfl rfl (by omega) y88 ?_
            refine mv_iadd C rfl ?_
            refine mv_bipush C rfl ?_
            refine mv_isub C rfl ?_
            refine mv_top (nI_dg2 (by omega) h.2.1 (hg i)) ?_
            refine mv_putI C rfl rfl rfl rfl ?_
            refine mv_sto kat_35 ?_
            refine mv_aload_n C rfl rfl ?_
            refine mv_dup C rfl rfl ?_
            refine mv_getJ C rfl rfl rfl kat_a ?_
            refine mv_iconst C rfl ?_
            refine mv_iadd C rfl ?_
            refine mv_top (nI_1 _) ?_
            refine mv_putI C rfl rfl rfl rfl ?_
            refine mv_sto kat_34 ?_
            refine mv_goto C rfl ?_
            exact e
      · rw [if_neg h] at h4
        rw [if_neg (fun q => h ⟨q.1, (ksg_3 _ (hg i)).mp q.2⟩)] at R1
        subst h4
        refine mv_aload_n C rfl rfl ?_
        refine mv_getJ C rfl rfl rfl kat_a ?_
        refine mv_iload_n C rfl rfl ?_
        refine mv_iconst C rfl ?_
        refine mv_iadd C rfl ?_
        refine mv_top e3 ?_
        refine mv_icmp_ge C rfl (fun c17 => ?_) (fun c17 => ?_)
        · exact absurd c17 (nI_ge (by omega) (by omega))
        · refine mv_aload_n C rfl rfl ?_
          refine mv_iload_n C rfl rfl ?_
          refine mv_ldc C rfl ?_
          refine mv_cV C rfl R1 (by decide) rfl rfl rfl (Nat.le_of_ble_eq_true rfl) (Nat.le_refl _) (Nat.le_refl _) rfl ?_
          refine mv_if_eq C rfl (fun c27 => ?_) (fun c27 => ?_)
          · exact fin
          · exact absurd rfl c27
  refine mv_aload_n C rfl rfl ?_
  refine mv_getJ C rfl rfl rfl kat_a ?_
  refine mv_is_n2 C rfl rfl ?_
  refine mv_aload_n C rfl rfl ?_
  refine mv_iconst C rfl ?_
  refine mv_putI C rfl rfl rfl rfl ?_
  refine mv_sto (kat_35 (w := 0)) ?_
  exact loop 3 i0 0 (by omega) (by omega) hi0 (by decide) hr
end

