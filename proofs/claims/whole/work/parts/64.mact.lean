section
abbrev kacp (N : Nat) (r : Nat × hM) : Prop := r.1 = N ∧ r.2 0 0 = 3 ∧ ¬ r.2 2 0 = 0
def kFin (u : hM) (N : Nat) (z0 : mv_Z) (r : Nat × hM) (z1 : mv_Z) : Prop := z1.1 68 34 = nI r.1 ∧ kmS u z1 ∧ kfm u z0 z1 ∧ (kacp N r → kMc u r.2 z1 ∧ z1.1 93 (u 21 0) = nI (r.2 3 0))
theorem kFin_no {u : hM} {N : Nat} {z0 z1 : mv_Z} {r : Nat × hM} (h1 : z1.1 68 34 = nI r.1) (h2 : kmS u z1) (h3 : kfm u z0 z1) (h4 : ¬ kacp N r) : kFin u N z0 r z1 := ⟨h1, h2, h3, fun q => absurd q h4⟩
theorem kMc_c {u c c1 : hM} {z : mv_Z} (h : kMc u c z) (h1 : c1 1 0 = c 1 0) (h4 : ∀ j, c1 4 j = c 4 j) (h5 : ∀ j, c1 5 j = c 5 j) (h6 : ∀ j, c1 6 j = c 6 j) : kMc u c1 z := by
  refine ⟨by rw [h1]; exact h.1, fun j hj => ?_⟩
  rw [h4, h5, h6]
  exact h.2 j (by rw [← h1]; exact hj)
theorem kMc_at {u c : hM} {z : mv_Z} {i : Nat} {v : Int32} (h : kMc u c z) : kMc u c (kat z i v) := by
  unfold kMc
  rw [kat_ne (q := 89) (by decide), kat_ne (q := 90) (by decide), kat_ne (q := 91) (by decide), kat_ne (q := 92) (by decide)]
  exact h
theorem r_readsL (z0 : mv_Z) (u : hM) (N : Nat) (hi : hI u) (h8 : u 21 0 < 8) (hN : N ≤ 40) : ∀ (M : Nat) (z : mv_Z) (p : Nat) (c : hM), N - p ≤ M → p ≤ N → kmS u z → kfm u z0 z → z.1 68 34 = nI p → c 0 0 = 2 → kJ c p → ¬ c 2 0 = 0 → (c 2 0 = 3 ∨ ¬ (p < N ∧ kdig (u 20 p))) → kMc u (hu c 1 0 (c 1 0 + 1)) z → ∃ z1, kFin u N z0 (krn (u 20) (N - p) p c) z1 ∧ mv_Fr pX11_reads (some .boolean) 3 (some (.int (if kacp N (krn (u 20) (N - p) p c) then 1 else 0))) (mv_E z1) 25 [some (.ref 68), some (.int (nI N))] (mv_E z) := by
  have hg := hi.2.2.2.2.2.2.2.2.2.2.2.2.2.2.2.1
  intro M
  induction M with
  | zero =>
    intro z p c hM hp hS hF h34 h0 hJ h2 he hMc
    have ep : p = N := by omega
    have hst : krn (u 20) (N - p) p c = (p, c) := krn_stop (fun q => absurd q (by omega))
    have R1 := r_isSign z (u 20) p N 4 (by omega) hN (by decide) (by decide) (hg p) h34 (hS.2 p)
    have R2 := r_isSign z (u 20) p N 5 (by omega) hN (by decide) (by decide) (hg p) h34 (hS.2 p)
    rw [if_neg (fun q => by have := q.1; omega)] at R1 R2
    have hno : ¬ kacp N (p, c) := fun q => by have := q.2.1; dsimp only at this; omega
    rw [hst, if_neg hno]
    refine ⟨z, kFin_no h34 hS hF hno, fun V C => ?_⟩
    refine mv_aload_n C rfl rfl ?_
    refine mv_iload_n C rfl rfl ?_
    refine mv_ldc C rfl ?_
    refine mv_cV C rfl (mv_up R1 rfl) (by decide) rfl rfl rfl (Nat.le_of_ble_eq_true rfl) (Nat.le_refl _) (Nat.le_refl _) rfl ?_
    refine mv_if_eq C rfl (fun c32 => ?_) (fun c32 => ?_)
    · refine mv_aload_n C rfl rfl ?_
      refine mv_iload_n C rfl rfl ?_
      refine mv_ldc C rfl ?_
      refine mv_cV C rfl (mv_up R2 rfl) (by decide) rfl rfl rfl (Nat.le_of_ble_eq_true rfl) (Nat.le_refl _) (Nat.le_refl _) rfl ?_
      refine mv_if_ne C rfl (fun c62 => ?_) (fun c62 => ?_)
      · exact absurd rfl c62
      · refine mv_iconst C rfl ?_
        refine mv_ireturn C rfl mv_okZ0 ?_ ?_
        all_goals rfl
    · exact absurd rfl c32
  | succ M ih =>
    intro z p c hM hp hS hF h34 h0 hJ h2 he hMc
    obtain ⟨g1, g2, g3, g4⟩ := hJ.2.2.2.2.2.1 h0
    have hzk := kat_self h34
    generalize hw : z.1 68 35 = w at *
    have R1 := r_isSign z (u 20) p N 4 (by omega) hN (by decide) (by decide) (hg p) h34 (hS.2 p)
    have R2 := r_isSign z (u 20) p N 5 (by omega) hN (by decide) (by decide) (hg p) h34 (hS.2 p)
    have s34 : mv_u z 68 34 (nI (p + 1)) = kat z (p + 1) w := by rw [← hzk, kat_34, hzk]
    by_cases c1 : p < N ∧ u 20 p = 38
    · rw [if_pos ⟨c1.1, (ksg_4 _ (hg p)).mpr c1.2⟩] at R1
      have hk : c 1 0 < 10 := by omega
      have es : kstp c (u 20 p) = some (hu (hu (hu c 1 0 (c 1 0 + 1)) 2 0 0) 0 0 0) := by
        unfold kstp; rw [if_neg (by omega), if_neg (by omega), if_pos h0, if_pos hk, if_neg (fun q => by have := q.1; omega), if_pos ⟨h2, Or.inl c1.2⟩, if_pos c1.2]
      have hr := krn_go (g := u 20) c1.1 es
      have hJ1 := kJ_s (hg p) (by omega) hJ es
      have hMc1 : kMc u (hu (hu (hu c 1 0 (c 1 0 + 1)) 2 0 0) 0 0 0) (kat z (p + 1) w) := kMc_at (kMc_c hMc (by simp [hu]) (fun j => by simp [hu]) (fun j => by simp [hu]) (fun j => by simp [hu]))
      have e0 : (hu (hu (hu c 1 0 (c 1 0 + 1)) 2 0 0) 0 0 0) 0 0 = 0 := by simp [hu]
      generalize hu (hu (hu c 1 0 (c 1 0 + 1)) 2 0 0) 0 0 0 = c2 at *
      obtain ⟨z1, p1, c3, ok, R3, hS1, hF1, h341, hno, hyes⟩ := r_ask z0 (kat z (p + 1) w) u c2 (p + 1) N hi h8 hN (by omega) (kmS_at hS) (kfm_at hF) kat_a e0 hJ1 hMc1
      rw [hr]
      cases ok with
      | false =>
        obtain ⟨q1, q2⟩ := hno rfl
        have hn : ¬ kacp N (p1, c3) := fun q => q2 q.2.1
        rw [q1, if_neg hn]
        refine ⟨z1, kFin_no h341 hS1 hF1 hn, fun V C => ?_⟩
        refine mv_aload_n C rfl rfl ?_
        refine mv_iload_n C rfl rfl ?_
        refine mv_ldc C rfl ?_
        refine mv_cV C rfl (mv_up R1 rfl) (by decide) rfl rfl rfl (Nat.le_of_ble_eq_true rfl) (Nat.le_refl _) (Nat.le_refl _) rfl ?_
        refine mv_if_eq C rfl (fun c32 => ?_) (fun c32 => ?_)
        · exact absurd c32 (by decide)
        · refine mv_aload_n C rfl rfl ?_
          refine mv_dup C rfl rfl ?_
          refine mv_getJ C rfl rfl rfl h34 ?_
          refine mv_iconst C rfl ?_
          refine mv_iadd C rfl ?_
          refine mv_top (nI_1 _) ?_
          refine mv_putI C rfl rfl rfl rfl ?_
          refine mv_sto s34 ?_
          refine mv_aload_n C rfl rfl ?_
          refine mv_iload_n C rfl rfl ?_
          refine mv_cV C rfl R3 (by decide) rfl rfl rfl (Nat.le_of_ble_eq_true rfl) (Nat.le_refl _) (Nat.le_refl _) rfl ?_
          refine mv_if_ne C rfl (fun c50 => ?_) (fun c50 => ?_)
          · exact absurd rfl c50
          · refine mv_iconst C rfl ?_
            refine mv_ireturn C rfl mv_okZ0 ?_ ?_
            all_goals rfl
      | true =>
        obtain ⟨q1, q2, q3, q4, q5, q6, q7, q8⟩ := hyes rfl
        obtain ⟨z2, hP, hFr⟩ := ih z1 p1 c3 (by omega) q2 hS1 hF1 h341 q4 q5 q6 q7 q8
        rw [q3]
        refine ⟨z2, hP, fun V C => ?_⟩
        refine mv_aload_n C rfl rfl ?_
        refine mv_iload_n C rfl rfl ?_
        refine mv_ldc C rfl ?_
        refine mv_cV C rfl (mv_up R1 rfl) (by decide) rfl rfl rfl (Nat.le_of_ble_eq_true rfl) (Nat.le_refl _) (Nat.le_refl _) rfl ?_
        refine mv_if_eq C rfl (fun c32 => ?_) (fun c32 => ?_)
        · exact absurd c32 (by decide)
        · refine mv_aload_n C rfl rfl ?_
          refine mv_dup C rfl rfl ?_
          refine mv_getJ C rfl rfl rfl h34 ?_
          refine mv_iconst C rfl ?_
          refine mv_iadd C rfl ?_
          refine mv_top (nI_1 _) ?_
          refine mv_putI C rfl rfl rfl rfl ?_
          refine mv_sto s34 ?_
          refine mv_aload_n C rfl rfl ?_
          refine mv_iload_n C rfl rfl ?_
          refine mv_cV C rfl R3 (by decide) rfl rfl rfl (Nat.le_of_ble_eq_true rfl) (Nat.le_refl _) (Nat.le_refl _) rfl ?_
          refine mv_if_ne C rfl (fun c50 => ?_) (fun c50 => ?_)
          · exact hFr V C
          · exact absurd c50 (by decide)
    · rw [if_neg (fun q => c1 ⟨q.1, (ksg_4 _ (hg p)).mp q.2⟩)] at R1
      by_cases c2 : p < N ∧ u 20 p = 58
      · rw [if_pos ⟨c2.1, (ksg_5 _ (hg p)).mpr c2.2⟩] at R2
        have hk : c 1 0 < 10 := by omega
        have es : kstp c (u 20 p) = some (hu (hu (hu c 1 0 (c 1 0 + 1)) 2 0 0) 0 0 3) := by
          unfold kstp; rw [if_neg (by omega), if_neg (by omega), if_pos h0, if_pos hk, if_neg (fun q => by have := q.1; omega), if_pos ⟨h2, Or.inr c2.2⟩, if_neg (by omega)]
        have hr := krn_go (g := u 20) c2.1 es
        have hMc1 : kMc u (hu (hu (hu c 1 0 (c 1 0 + 1)) 2 0 0) 0 0 3) z := kMc_c hMc (by simp [hu]) (fun j => by simp [hu]) (fun j => by simp [hu]) (fun j => by simp [hu])
        have e0 : (hu (hu (hu c 1 0 (c 1 0 + 1)) 2 0 0) 0 0 3) 0 0 = 3 := by simp [hu]
        have e2 : (hu (hu (hu c 1 0 (c 1 0 + 1)) 2 0 0) 0 0 3) 2 0 = 0 := by simp [hu]
        have e3 : (hu (hu (hu c 1 0 (c 1 0 + 1)) 2 0 0) 0 0 3) 3 0 = 0 := by simp [hu]; exact g4
        generalize hu (hu (hu c 1 0 (c 1 0 + 1)) 2 0 0) 0 0 3 = c3 at *
        have R3 := r_digits z (u 20) (p + 1) N w (by omega) hN hg hS.2
        have hr3 := krn_3 (g := u 20) (N := N) 3 (p + 1) c3 e0 (by omega) (by omega)
        have hle := kdg_le (g := u 20) (N := N) 3 (p + 1) 0
        have hend := kdg_end (g := u 20) (N := N) 3 (p + 1) 0
        rw [e3, e2, Nat.zero_add] at hr3
        generalize kdg (u 20) N 3 (p + 1) 0 = d at *
        obtain ⟨p1, v⟩ := d
        dsimp only at *
        by_cases c4 : p + 1 < p1
        · rw [if_pos c4] at R3
          have hst : krn (u 20) (N - p1) p1 (hu (hu c3 3 0 v) 2 0 (p1 - (p + 1))) = (p1, hu (hu c3 3 0 v) 2 0 (p1 - (p + 1))) := krn_stop (fun q => by
            have f0 : (hu (hu c3 3 0 v) 2 0 (p1 - (p + 1))) 0 0 = 3 := by simpa [hu] using e0
            have f2 : (hu (hu c3 3 0 v) 2 0 (p1 - (p + 1))) 2 0 = p1 - (p + 1) := by simp [hu]
            unfold kstp
            rw [if_neg (by omega), if_neg (by omega), if_neg (by omega), if_neg (fun w => ?_)]
            rw [f2] at w
            rcases hend with e | e
            · omega
            · exact e ⟨q, w.1⟩)
          rw [hr, hr3, hst]
          have sW : mv_u (kat z p1 (nI v)) 93 (u 21 0) (nI v) = kat (mv_u z 93 (u 21 0) (nI v)) p1 (nI v) := kat_u (by decide)
          have y28 : (kat z p1 (nI v)).1 68 28 = nI (u 21 0) := (kmS_at hS).1
          have y34 : (kat (mv_u z 93 (u 21 0) (nI v)) p1 (nI v)).1 68 34 = nI p1 := kat_a
          have hMc2 : kMc u (hu (hu c3 3 0 v) 2 0 (p1 - (p + 1))) (kat (mv_u z 93 (u 21 0) (nI v)) p1 (nI v)) := by
            refine kMc_at (kMc_c (c := c3) ?_ (by simp [hu]) (fun j => by simp [hu]) (fun j => by simp [hu]) (fun j => by simp [hu]))
            unfold kMc
            rw [mv_u_ne (q := 89) (by decide), mv_u_ne (q := 90) (by decide), mv_u_ne (q := 91) (by decide), mv_u_ne (q := 92) (by decide)]
            exact hMc1
          have hfin : kFin u N z0 (p1, hu (hu c3 3 0 v) 2 0 (p1 - (p + 1))) (kat (mv_u z 93 (u 21 0) (nI v)) p1 (nI v)) := ⟨kat_a, kmS_at (kmS_u hS (by decide)), kfm_at (kfm_u hF (Or.inr (Or.inl ⟨rfl, Nat.le_refl _⟩))), fun _ => ⟨hMc2, by rw [kat_ne (by decide), mv_u_eq]; simp [hu]⟩⟩
          refine ⟨_, hfin, ?_⟩
          by_cases c5 : p1 = N
          · rw [if_pos (⟨c5, by simpa [hu] using e0, by simp [hu]; omega⟩ : kacp N (p1, hu (hu c3 3 0 v) 2 0 (p1 - (p + 1))))]
            intro V C
            refine mv_aload_n C rfl rfl ?_
            refine mv_iload_n C rfl rfl ?_
            refine mv_ldc C rfl ?_
            refine mv_cV C rfl (mv_up R1 rfl) (by decide) rfl rfl rfl (Nat.le_of_ble_eq_true rfl) (Nat.le_refl _) (Nat.le_refl _) rfl ?_
            refine mv_if_eq C rfl (fun c32 => ?_) (fun c32 => ?_)
            · refine mv_aload_n C rfl rfl ?_
              refine mv_iload_n C rfl rfl ?_
              refine mv_ldc C rfl ?_
              refine mv_cV C rfl (mv_up R2 rfl) (by decide) rfl rfl rfl (Nat.le_of_ble_eq_true rfl) (Nat.le_refl _) (Nat.le_refl _) rfl ?_
              refine mv_if_ne C rfl (fun c62 => ?_) (fun c62 => ?_)
              · refine mv_aload_n C rfl rfl ?_
                refine mv_dup C rfl rfl ?_
                refine mv_getJ C rfl rfl rfl h34 ?_
                refine mv_iconst C rfl ?_
                refine mv_iadd C rfl ?_
                refine mv_top (nI_1 _) ?_
                refine mv_putI C rfl rfl rfl rfl ?_
                refine mv_sto s34 ?_
                refine mv_aload_n C rfl rfl ?_
                refine mv_iload_n C rfl rfl ?_
                refine mv_cV C rfl (mv_up R3 rfl) (by decide) rfl rfl rfl (Nat.le_of_ble_eq_true rfl) (Nat.le_refl _) (Nat.le_refl _) rfl ?_
                refine mv_if_ne C rfl (fun c82 => ?_) (fun c82 => ?_)
                · refine mv_aload_n C rfl rfl ?_
                  refine mv_getR C rfl rfl rfl ?_
                  refine mv_aload_n C rfl rfl ?_
                  refine mv_getJ C rfl rfl rfl y28 ?_
                  refine mv_aload_n C rfl rfl ?_
                  refine mv_getJ C rfl rfl rfl kat_b ?_
                  refine mv_ast C rfl rfl rfl (by omega) ?_
                  refine mv_sto sW ?_
                  refine mv_aload_n C rfl rfl ?_
                  refine mv_getJ C rfl rfl rfl y34 ?_
                  refine mv_iload_n C rfl rfl ?_
                  refine mv_icmp_ne C rfl (fun c105 => ?_) (fun c105 => ?_)
                  · exact absurd (by rw [c5]) c105
                  · refine mv_iconst C rfl ?_
                    refine mv_goto C rfl ?_
                    refine mv_ireturn C rfl mv_okZ1 ?_ ?_
                    all_goals rfl
                · exact absurd c82 (by decide)
              · exact absurd c62 (by decide)
            · exact absurd rfl c32
          · rw [if_neg (fun q : kacp N (p1, hu (hu c3 3 0 v) 2 0 (p1 - (p + 1))) => c5 q.1)]
            intro V C
            refine mv_aload_n C rfl rfl ?_
            refine mv_iload_n C rfl rfl ?_
            refine mv_ldc C rfl ?_
            refine mv_cV C rfl (mv_up R1 rfl) (by decide) rfl rfl rfl (Nat.le_of_ble_eq_true rfl) (Nat.le_refl _) (Nat.le_refl _) rfl ?_
            refine mv_if_eq C rfl (fun c32 => ?_) (fun c32 => ?_)
            · refine mv_aload_n C rfl rfl ?_
              refine mv_iload_n C rfl rfl ?_
              refine mv_ldc C rfl ?_
              refine mv_cV C rfl (mv_up R2 rfl) (by decide) rfl rfl rfl (Nat.le_of_ble_eq_true rfl) (Nat.le_refl _) (Nat.le_refl _) rfl ?_
              refine mv_if_ne C rfl (fun c62 => ?_) (fun c62 => ?_)
              · refine mv_aload_n C rfl rfl ?_
                refine mv_dup C rfl rfl ?_
                refine mv_getJ C rfl rfl rfl h34 ?_
                refine mv_iconst C rfl ?_
                refine mv_iadd C rfl ?_
                refine mv_top (nI_1 _) ?_
                refine mv_putI C rfl rfl rfl rfl ?_
                refine mv_sto s34 ?_
                refine mv_aload_n C rfl rfl ?_
                refine mv_iload_n C rfl rfl ?_
                refine mv_cV C rfl (mv_up R3 rfl) (by decide) rfl rfl rfl (Nat.le_of_ble_eq_true rfl) (Nat.le_refl _) (Nat.le_refl _) rfl ?_
                refine mv_if_ne C rfl (fun c82 => ?_) (fun c82 => ?_)
                · refine mv_aload_n C rfl rfl ?_
                  refine mv_getR C rfl rfl rfl ?_
                  refine mv_aload_n C rfl rfl ?_
                  refine mv_getJ C rfl rfl rfl y28 ?_
                  refine mv_aload_n C rfl rfl ?_
                  refine mv_getJ C rfl rfl rfl kat_b ?_
                  refine mv_ast C rfl rfl rfl (by omega) ?_
                  refine mv_sto sW ?_
                  refine mv_aload_n C rfl rfl ?_
                  refine mv_getJ C rfl rfl rfl y34 ?_
                  refine mv_iload_n C rfl rfl ?_
                  refine mv_icmp_ne C rfl (fun c105 => ?_) (fun c105 => ?_)
                  · refine mv_iconst C rfl ?_
                    refine mv_ireturn C rfl mv_okZ0 ?_ ?_
                    all_goals rfl
                  · exact absurd ((nI_eq (by omega) (by omega)).mp c105) c5
                · exact absurd c82 (by decide)
              · exact absurd c62 (by decide)
            · exact absurd rfl c32
        · rw [if_neg c4] at R3
          have ep : p1 = p + 1 := by omega
          subst ep
          have hst : krn (u 20) (N - (p + 1)) (p + 1) c3 = (p + 1, c3) := krn_stop (fun q => by
            unfold kstp
            rw [if_neg (by omega), if_neg (by omega), if_neg (by omega), if_neg (fun w => ?_)]
            rcases hend with e | e
            · omega
            · exact e ⟨q, w.1⟩)
          have hn : ¬ kacp N (p + 1, c3) := fun q => q.2.2 e2
          rw [hr, hst, if_neg hn]
          refine ⟨kat z (p + 1) (nI v), kFin_no kat_a (kmS_at hS) (kfm_at hF) hn, fun V C => ?_⟩
          refine mv_aload_n C rfl rfl ?_
          refine mv_iload_n C rfl rfl ?_
          refine mv_ldc C rfl ?_
          refine mv_cV C rfl (mv_up R1 rfl) (by decide) rfl rfl rfl (Nat.le_of_ble_eq_true rfl) (Nat.le_refl _) (Nat.le_refl _) rfl ?_
          refine mv_if_eq C rfl (fun c32 => ?_) (fun c32 => ?_)
          · refine mv_aload_n C rfl rfl ?_
            refine mv_iload_n C rfl rfl ?_
            refine mv_ldc C rfl ?_
            refine mv_cV C rfl (mv_up R2 rfl) (by decide) rfl rfl rfl (Nat.le_of_ble_eq_true rfl) (Nat.le_refl _) (Nat.le_refl _) rfl ?_
            refine mv_if_ne C rfl (fun c62 => ?_) (fun c62 => ?_)
            · refine mv_aload_n C rfl rfl ?_
              refine mv_dup C rfl rfl ?_
              refine mv_getJ C rfl rfl rfl h34 ?_
              refine mv_iconst C rfl ?_
              refine mv_iadd C rfl ?_
              refine mv_top (nI_1 _) ?_
              refine mv_putI C rfl rfl rfl rfl ?_
              refine mv_sto s34 ?_
              refine mv_aload_n C rfl rfl ?_
              refine mv_iload_n C rfl rfl ?_
              refine mv_cV C rfl (mv_up R3 rfl) (by decide) rfl rfl rfl (Nat.le_of_ble_eq_true rfl) (Nat.le_refl _) (Nat.le_refl _) rfl ?_
              refine mv_if_ne C rfl (fun c82 => ?_) (fun c82 => ?_)
              · exact absurd rfl c82
              · refine mv_iconst C rfl ?_
                refine mv_ireturn C rfl mv_okZ0 ?_ ?_
                all_goals rfl
            · exact absurd c62 (by decide)
          · exact absurd rfl c32
      · rw [if_neg (fun q => c2 ⟨q.1, (ksg_5 _ (hg p)).mp q.2⟩)] at R2
        have hst : krn (u 20) (N - p) p c = (p, c) := krn_stop (fun q => by
          unfold kstp
          rw [if_neg (by omega), if_neg (by omega), if_pos h0, if_pos (by omega), if_neg (fun w => ?_), if_neg (fun w => ?_)]
          · rcases w.2 with e | e
            · exact c1 ⟨q, e⟩
            · exact c2 ⟨q, e⟩
          · rcases he with e | e
            · omega
            · exact e ⟨q, w.1⟩)
        have hn : ¬ kacp N (p, c) := fun q => by have := q.2.1; dsimp only at this; omega
        rw [hst, if_neg hn]
        refine ⟨z, kFin_no h34 hS hF hn, fun V C => ?_⟩
        refine mv_aload_n C rfl rfl ?_
        refine mv_iload_n C rfl rfl ?_
        refine mv_ldc C rfl ?_
        refine mv_cV C rfl (mv_up R1 rfl) (by decide) rfl rfl rfl (Nat.le_of_ble_eq_true rfl) (Nat.le_refl _) (Nat.le_refl _) rfl ?_
        refine mv_if_eq C rfl (fun c32 => ?_) (fun c32 => ?_)
        · refine mv_aload_n C rfl rfl ?_
          refine mv_iload_n C rfl rfl ?_
          refine mv_ldc C rfl ?_
          refine mv_cV C rfl (mv_up R2 rfl) (by decide) rfl rfl rfl (Nat.le_of_ble_eq_true rfl) (Nat.le_refl _) (Nat.le_refl _) rfl ?_
          refine mv_if_ne C rfl (fun c62 => ?_) (fun c62 => ?_)
          · exact absurd rfl c62
          · refine mv_iconst C rfl ?_
            refine mv_ireturn C rfl mv_okZ0 ?_ ?_
            all_goals rfl
        · exact absurd rfl c32
theorem r_reads (z0 : mv_Z) (u : hM) (N : Nat) (hi : hI u) (h8 : u 21 0 < 8) (hN : N ≤ 40) (hS : kmS u z0) : ∃ z1, mv_Runs 4 160 [.ref 68, .int (nI N)] (mv_E z0) (some (.int (if kacp N (krn (u 20) N 0 kc0) then 1 else 0))) (mv_E z1) ∧ kFin u N z0 (krn (u 20) N 0 kc0) z1 := by
  have sA : mv_u z0 68 34 0 = kat z0 0 (z0.1 68 35) := by
    have : kat z0 0 (z0.1 68 35) = kat (mv_u z0 68 34 (nI 0)) 0 ((mv_u z0 68 34 (nI 0)).1 68 35) := by unfold kat; rw [mv_uu]; rfl
    rw [this, kat_self mv_u_eq]; rfl
  generalize hw : z0.1 68 35 = w at *
  have sB : mv_u (kat z0 0 w) 89 (u 21 0) 0 = kat (mv_u z0 89 (u 21 0) 0) 0 w := kat_u (by decide)
  have hS1 : kmS u (kat (mv_u z0 89 (u 21 0) 0) 0 w) := kmS_at (kmS_u hS (by decide))
  have hF1 : kfm u z0 (kat (mv_u z0 89 (u 21 0) 0) 0 w) := kfm_at (kfm_u kfm_rf (Or.inl ⟨rfl, Nat.le_refl _⟩))
  have hM1 : kMc u kc0 (kat (mv_u z0 89 (u 21 0) 0) 0 w) := ⟨by rw [kat_ne (by decide), mv_u_eq]; rfl, fun j hj => absurd hj (Nat.not_lt_zero _)⟩
  have y28 : (kat z0 0 w).1 68 28 = nI (u 21 0) := (kmS_at hS).1
  obtain ⟨z1, p1, c1, ok, R1, hS2, hF2, h34, hno, hyes⟩ := r_ask z0 (kat (mv_u z0 89 (u 21 0) 0) 0 w) u kc0 0 N hi h8 hN (Nat.zero_le _) hS1 hF1 kat_a rfl kJ_0 hM1
  rw [Nat.sub_zero] at hno hyes
  cases ok with
  | false =>
    obtain ⟨q1, q2⟩ := hno rfl
    have hn : ¬ kacp N (p1, c1) := fun q => q2 q.2.1
    rw [q1, if_neg hn]
    refine ⟨z1, ?_, kFin_no h34 hS2 hF2 hn⟩
    refine mv_start pX11_reads (some .boolean) [some (.ref 68), some (.int (nI N))] rfl rfl rfl rfl (fun V C => ?_)
    refine mv_aload_n C rfl rfl ?_
    refine mv_iconst C rfl ?_
    refine mv_putI C rfl rfl rfl rfl ?_
    refine mv_sto sA ?_
    refine mv_aload_n C rfl rfl ?_
    refine mv_getR C rfl rfl rfl ?_
    refine mv_aload_n C rfl rfl ?_
    refine mv_getJ C rfl rfl rfl y28 ?_
    refine mv_iconst C rfl ?_
    refine mv_ast C rfl rfl rfl (by omega) ?_
    refine mv_sto sB ?_
    refine mv_aload_n C rfl rfl ?_
    refine mv_iload_n C rfl rfl ?_
    refine mv_cV C rfl R1 (by decide) rfl rfl rfl (Nat.le_of_ble_eq_true rfl) (Nat.le_refl _) (Nat.le_refl _) rfl ?_
    refine mv_if_ne C rfl (fun c20 => ?_) (fun c20 => ?_)
    · exact absurd rfl c20
    · refine mv_iconst C rfl ?_
      refine mv_ireturn C rfl mv_okZ0 ?_ ?_
      all_goals rfl
  | true =>
    obtain ⟨q1, q2, q3, q4, q5, q6, q7, q8⟩ := hyes rfl
    obtain ⟨z2, hP, hFr⟩ := r_readsL z0 u N hi h8 hN N z1 p1 c1 (by omega) q2 hS2 hF2 h34 q4 q5 q6 q7 q8
    rw [q3]
    refine ⟨z2, ?_, hP⟩
    refine mv_start pX11_reads (some .boolean) [some (.ref 68), some (.int (nI N))] rfl rfl rfl rfl (fun V C => ?_)
    refine mv_aload_n C rfl rfl ?_
    refine mv_iconst C rfl ?_
    refine mv_putI C rfl rfl rfl rfl ?_
    refine mv_sto sA ?_
    refine mv_aload_n C rfl rfl ?_
    refine mv_getR C rfl rfl rfl ?_
    refine mv_aload_n C rfl rfl ?_
    refine mv_getJ C rfl rfl rfl y28 ?_
    refine mv_iconst C rfl ?_
    refine mv_ast C rfl rfl rfl (by omega) ?_
    refine mv_sto sB ?_
    refine mv_aload_n C rfl rfl ?_
    refine mv_iload_n C rfl rfl ?_
    refine mv_cV C rfl R1 (by decide) rfl rfl rfl (Nat.le_of_ble_eq_true rfl) (Nat.le_refl _) (Nat.le_refl _) rfl ?_
    refine mv_if_ne C rfl (fun c20 => ?_) (fun c20 => ?_)
    · exact hFr V C
    · exact absurd c20 (by decide)
theorem rM_fm {u : hM} {z0 z1 : mv_Z} (h : rM u z0) (hi : hI u) (hF : kfm u z0 z1) : rM u z1 := by
  obtain ⟨⟨h1a, h1b⟩, h3, h4, h6, h8⟩ := h
  obtain ⟨f1, f2, f3, f4, f5⟩ := hF
  refine ⟨⟨fun q hq => ?_, fun q hq => ?_⟩, ?_, ?_, fun a ha => ?_, ?_⟩
  · have hs : ∀ q ∈ tM, ¬ q.1 = 68 ∧ ¬ (89 ≤ q.1 ∧ q.1 ≤ 93) := by decide
    rw [f1 _ (hs q hq).1 (hs q hq).2]; exact h1a q hq
  · have hs : ∀ q ∈ sM, q.1 = 68 ∧ ¬ q.2.1 = 34 ∧ ¬ q.2.1 = 35 := by decide
    obtain ⟨e1, e2, e3⟩ := hs q hq
    have := h1b q hq
    rw [e1] at this ⊢
    rw [f3 _ e2 e3]; exact this
  · rw [f3 _ (by decide) (by decide)]; exact h3
  · rw [f1 _ (by decide) (by decide)]; exact h4
  · have h10 := (hi.2.2.2.2.2.2.2.2.2.2.2.2.2.2.2.2.2.1 a ha).1
    rw [(f4 a ha).1, (f4 a ha).2]
    refine ⟨(h6 a ha).1, (h6 a ha).2.1, fun k hk => ?_⟩
    obtain ⟨e1, e2, e3⟩ := f5 (10 * a + k) (by omega)
    rw [e1, e2, e3]; exact (h6 a ha).2.2 k hk
  · rw [f1 _ (by decide) (by decide)]; exact h8
theorem rM_au {u c : hM} {z0 z1 : mv_Z} (h0 : rM u z0) (hi : hI u) (hF : kfm u z0 z1) (hM : kMc u c z1) (hw : z1.1 93 (u 21 0) = nI (c 3 0)) : rM (kau0 u c) (mv_u z1 68 28 (nI (u 21 0 + 1))) := by
  obtain ⟨⟨h1a, h1b⟩, h3, h4, h6, h8⟩ := rM_fm h0 hi hF
  unfold rM
  rw [kau0_k (k := 8) (by decide), kau0_k (k := 14) (by decide), kau0_k (k := 30) (by decide), kau0_k (k := 31) (by decide), kau0_21]
  rw [mv_u_sl (q := 68) (j := 9) (by decide), mv_u_ne (q := 84) (by decide), mv_u_ne (q := 89) (by decide), mv_u_ne (q := 90) (by decide), mv_u_ne (q := 91) (by decide), mv_u_ne (q := 92) (by decide), mv_u_ne (q := 93) (by decide), mv_u_ne (q := 82) (by decide)]
  refine ⟨⟨fun q hq => ?_, fun q hq => ?_⟩, h3, h4, fun a ha => ?_, h8⟩
  · have hs : ∀ q ∈ tM, ¬ q.1 = 68 ∧ (q.2 < 21 ∨ 26 < q.2) := by decide
    rw [mv_u_ne (hs q hq).1, kau0_k (hs q hq).2]; exact h1a q hq
  · have hs : ∀ q ∈ sM, q = (68, 28, 21) ∨ (¬ (68 = q.1 ∧ 28 = q.2.1) ∧ (q.2.2 < 21 ∨ 26 < q.2.2)) := by decide
    rcases hs q hq with rfl | ⟨e1, e3⟩
    · rw [mv_u_eq]; exact congrArg nI kau0_21.symm
    · rw [mv_u_sl e1, kau0_k e3]; exact h1b q hq
  · rw [kau0_22 ha, kau0_26 ha]
    by_cases e : a = u 21 0
    · subst e
      rw [if_pos rfl, if_pos rfl]
      refine ⟨hM.1, hw, fun k hk => ?_⟩
      rw [kau0_n (Or.inl rfl), kau0_n (Or.inr (Or.inl rfl)), kau0_n (Or.inr (Or.inr rfl))]
      exact hM.2 k hk
    · rw [if_neg e, if_neg e]
      have := h6 a (by omega)
      refine ⟨this.1, this.2.1, fun k hk => ?_⟩
      have h10 := (hi.2.2.2.2.2.2.2.2.2.2.2.2.2.2.2.2.2.1 a (by omega)).1
      rw [kau0_a (Or.inl rfl) (by omega) (by omega), kau0_a (Or.inr (Or.inl rfl)) (by omega) (by omega), kau0_a (Or.inr (Or.inr rfl)) (by omega) (by omega)]
      exact this.2.2 k hk
theorem kau0_hu {u c : hM} : kau0 (hu u 19 0 0) c = kau u c := by
  funext k i
  unfold kau
  by_cases q : k = 19 ∧ i = 0
  · obtain ⟨rfl, rfl⟩ := q
    rw [kau0_k (by decide)]; simp [hu]
  · rw [hu_k q]
    unfold kau0
    rw [show hu u 19 0 0 21 0 = u 21 0 from rfl, hu_k q]
theorem kfm_fM {u : hM} {z z0 z1 : mv_Z} (h : fM z z0) (hF : kfm u z0 z1) : fM z z1 := fun k hk => ⟨by rw [hF.1 k (by omega) (by omega)]; exact (h k hk).1, by rw [hF.2.1]; exact (h k hk).2⟩
theorem m_act (u : hM) (z : mv_Z) (hi : hI u) (hz : rM u z) : mR 161 [] u z (.int (a_act u)) (o_act u) := by
  have h8a : u 21 0 ≤ 8 := hi.2.2.2.2.2.2.2.2.2.2.2.2.2.2.2.2.1
  have h100 : u 19 0 ≤ 100 := hi.2.2.2.2.2.2.2.2.2.2.2.2.2.2.1
  have h0 := rM_free hz 68 0 0 (Or.inr ⟨rfl, by decide⟩)
  have f0 : fM z (mv_u z 68 0 0) := fM_u fM_rf (by decide)
  have y27 := rM_s h0 27 19 (by decide)
  have h1 := rM_sc h0 27 19 0 (by decide)
  have f1 : fM z (mv_u (mv_u z 68 0 0) 68 27 (nI 0)) := fM_u f0 (by decide)
  have hi1 := hI_19 hi
  have y28 : (mv_u (mv_u z 68 0 0) 68 27 (nI 0)).1 68 28 = nI (u 21 0) := rM_s h1 28 21 (by decide)
  have hS : kmS u (mv_u (mv_u z 68 0 0) 68 27 (nI 0)) := ⟨y28, fun i => rM_a h1 88 20 (by decide) i⟩
  unfold a_act o_act
  generalize hz0 : mv_u (mv_u z 68 0 0) 68 27 (nI 0) = z0 at *
  have hz0' : mv_u (mv_u z 68 0 0) 68 27 0 = z0 := hz0
  by_cases h8 : u 21 0 = 8
  · rw [if_pos h8, if_neg (fun q => q.1 h8)]
    refine ⟨z0, mv_up (d := 5) ?_ rfl, h1, f1⟩
    refine mv_start pX11_act (some .int) [some (.ref 68), none, none] rfl rfl rfl rfl (fun V C => ?_)
    refine mv_aload_n C rfl rfl ?_
    refine mv_iconst C rfl ?_
    refine mv_putI C rfl rfl rfl rfl ?_
    refine mv_aload_n C rfl rfl ?_
    refine mv_getJ C rfl rfl rfl y27 ?_
    refine mv_is_n1 C rfl rfl ?_
    refine mv_aload_n C rfl rfl ?_
    refine mv_iconst C rfl ?_
    refine mv_putI C rfl rfl rfl rfl ?_
    refine mv_sto hz0' ?_
    refine mv_aload_n C rfl rfl ?_
    refine mv_getJ C rfl rfl rfl y28 ?_
    refine mv_bipush C rfl ?_
    refine mv_icmp_ne C rfl (fun c21 => ?_) (fun c21 => ?_)
    · exact absurd (by rw [h8]; rfl) c21
    · refine mv_bipush C rfl ?_
      refine mv_ireturn C rfl mv_okI ?_ ?_
      all_goals rfl
  · rw [if_neg h8]
    have em : (if 40 < nI (u 19 0) then 40 else nI (u 19 0)) = nI (min (u 19 0) 40) := by
      rcases Nat.lt_or_ge 40 (u 19 0) with q | q
      · rw [if_pos (show (40 : Int32) < nI (u 19 0) from nI_lt (a := 40) q (by omega)), Nat.min_eq_right (by omega)]; rfl
      · rw [if_neg (show ¬ (40 : Int32) < nI (u 19 0) from nI_nlt (a := 40) q (by decide)), Nat.min_eq_left q]
    have p21 : ¬ nI (u 21 0) = 8 := fun q => h8 ((nI_eq (b := 8) (by omega) (by decide)).mp q)
    obtain ⟨z1, R1, hfin⟩ := r_reads z0 u (min (u 19 0) 40) hi (by omega) (by omega) hS
    have hle := (krd_J hi).2
    rw [show krn (u 20) (min (u 19 0) 40) 0 kc0 = krd u from rfl] at R1 hfin
    obtain ⟨e34, hS1, hF1, hacc⟩ := hfin
    have y281 : z1.1 68 28 = nI (u 21 0) := hS1.1
    have hF1' : kfm (hu u 19 0 0) z0 z1 := hF1
    have hrm1 : rM (hu u 19 0 0) z1 := rM_fm h1 hi1 hF1'
    have hfm1 : fM z z1 := kfm_fM f1 hF1
    by_cases hn : u 19 0 ≤ 40
    · have eN : min (u 19 0) 40 = u 19 0 := Nat.min_eq_left hn
      rw [eN] at R1 hacc em
      by_cases hac : kacc u
      · rw [if_pos hac, if_pos ⟨h8, hac⟩]
        rw [if_pos hac] at R1
        obtain ⟨m1, m2⟩ := hacc hac
        have hrm := rM_au (u := hu u 19 0 0) (c := (krd u).2) h1 hi1 hF1' m1 m2
        rw [kau0_hu] at hrm
        have yb : (mv_u z1 68 28 (nI (u 21 0 + 1))).1 68 28 = nI (u 21 0 + 1) := mv_u_eq
        refine ⟨mv_u z1 68 28 (nI (u 21 0 + 1)), mv_up (d := 5) ?_ rfl, hrm, fM_u hfm1 (by decide)⟩
        refine mv_start pX11_act (some .int) [some (.ref 68), none, none] rfl rfl rfl rfl (fun V C => ?_)
        refine mv_aload_n C rfl rfl ?_
        refine mv_iconst C rfl ?_
        refine mv_putI C rfl rfl rfl rfl ?_
        refine mv_aload_n C rfl rfl ?_
        refine mv_getJ C rfl rfl rfl y27 ?_
        refine mv_is_n1 C rfl rfl ?_
        refine mv_aload_n C rfl rfl ?_
        refine mv_iconst C rfl ?_
        refine mv_putI C rfl rfl rfl rfl ?_
        refine mv_sto hz0' ?_
        refine mv_aload_n C rfl rfl ?_
        refine mv_getJ C rfl rfl rfl y28 ?_
        refine mv_bipush C rfl ?_
        refine mv_icmp_ne C rfl (fun c21 => ?_) (fun c21 => ?_)
        · refine mv_aload_n C rfl rfl ?_
          refine mv_iload_n C rfl rfl ?_
          refine mv_bipush C rfl ?_
          refine mv_mmin C rfl rfl (Nat.le_of_ble_eq_true rfl) ?_
          refine mv_top em ?_
          refine mv_cV C rfl R1 (by decide) rfl rfl rfl (Nat.le_of_ble_eq_true rfl) (Nat.le_refl _) (Nat.le_refl _) rfl ?_
          refine mv_is_n2 C rfl rfl ?_
          refine mv_iload_n C rfl rfl ?_
          refine mv_bipush C rfl ?_
          refine mv_icmp_le C rfl (fun c41 => ?_) (fun c41 => ?_)
          · refine mv_iload_n C rfl rfl ?_
            refine mv_if_ne C rfl (fun c61 => ?_) (fun c61 => ?_)
            · refine mv_aload_n C rfl rfl ?_
              refine mv_dup C rfl rfl ?_
              refine mv_getJ C rfl rfl rfl y281 ?_
              refine mv_iconst C rfl ?_
              refine mv_iadd C rfl ?_
              refine mv_top (nI_1 _) ?_
              refine mv_putI C rfl rfl rfl rfl ?_
              refine mv_aload_n C rfl rfl ?_
              refine mv_getJ C rfl rfl rfl yb ?_
              refine mv_iconst C rfl ?_
              refine mv_isub C rfl ?_
              refine mv_top ((pk_sub (b := 1) (by omega)).trans (congrArg nI (Nat.add_sub_cancel _ 1))) ?_
              refine mv_ireturn C rfl mv_okI ?_ ?_
              all_goals rfl
            · exact absurd c61 (by decide)
          · exact absurd ((nI_leI (b := 40) (by omega) (by decide)).mpr hn) c41
        · exact absurd c21 p21
      · rw [if_neg hac, if_neg (fun q => hac q.2)]
        rw [if_neg hac] at R1
        refine ⟨z1, mv_up (d := 5) ?_ rfl, hrm1, hfm1⟩
        refine mv_start pX11_act (some .int) [some (.ref 68), none, none] rfl rfl rfl rfl (fun V C => ?_)
        refine mv_aload_n C rfl rfl ?_
        refine mv_iconst C rfl ?_
        refine mv_putI C rfl rfl rfl rfl ?_
        refine mv_aload_n C rfl rfl ?_
        refine mv_getJ C rfl rfl rfl y27 ?_
        refine mv_is_n1 C rfl rfl ?_
        refine mv_aload_n C rfl rfl ?_
        refine mv_iconst C rfl ?_
        refine mv_putI C rfl rfl rfl rfl ?_
        refine mv_sto hz0' ?_
        refine mv_aload_n C rfl rfl ?_
        refine mv_getJ C rfl rfl rfl y28 ?_
        refine mv_bipush C rfl ?_
        refine mv_icmp_ne C rfl (fun c21 => ?_) (fun c21 => ?_)
        · refine mv_aload_n C rfl rfl ?_
          refine mv_iload_n C rfl rfl ?_
          refine mv_bipush C rfl ?_
          refine mv_mmin C rfl rfl (Nat.le_of_ble_eq_true rfl) ?_
          refine mv_top em ?_
          refine mv_cV C rfl R1 (by decide) rfl rfl rfl (Nat.le_of_ble_eq_true rfl) (Nat.le_refl _) (Nat.le_refl _) rfl ?_
          refine mv_is_n2 C rfl rfl ?_
          refine mv_iload_n C rfl rfl ?_
          refine mv_bipush C rfl ?_
          refine mv_icmp_le C rfl (fun c41 => ?_) (fun c41 => ?_)
          · refine mv_iload_n C rfl rfl ?_
            refine mv_if_ne C rfl (fun c61 => ?_) (fun c61 => ?_)
            · exact absurd rfl c61
            · refine mv_iconst C rfl ?_
              refine mv_aload_n C rfl rfl ?_
              refine mv_getJ C rfl rfl rfl e34 ?_
              refine mv_isub C rfl ?_
              refine mv_ireturn C rfl mv_okI ?_ ?_
              all_goals rfl
          · exact absurd ((nI_leI (b := 40) (by omega) (by decide)).mpr hn) c41
        · exact absurd c21 p21
    · have eN : min (u 19 0) 40 = 40 := Nat.min_eq_right (by omega)
      rw [eN] at R1 em hle
      have hac : ¬ kacc u := fun q => by have := q.1; omega
      rw [if_neg hac, if_neg (fun q => hac q.2)]
      have p41 : ¬ nI (u 19 0) ≤ 40 := fun q => hn ((nI_leI (b := 40) (by omega) (by decide)).mp q)
      refine ⟨z1, mv_up (d := 5) ?_ rfl, hrm1, hfm1⟩
      by_cases ha : kacp 40 (krd u)
      · rw [if_pos ha] at R1
        rw [ha.1]
        refine mv_start pX11_act (some .int) [some (.ref 68), none, none] rfl rfl rfl rfl (fun V C => ?_)
        refine mv_aload_n C rfl rfl ?_
        refine mv_iconst C rfl ?_
        refine mv_putI C rfl rfl rfl rfl ?_
        refine mv_aload_n C rfl rfl ?_
        refine mv_getJ C rfl rfl rfl y27 ?_
        refine mv_is_n1 C rfl rfl ?_
        refine mv_aload_n C rfl rfl ?_
        refine mv_iconst C rfl ?_
        refine mv_putI C rfl rfl rfl rfl ?_
        refine mv_sto hz0' ?_
        refine mv_aload_n C rfl rfl ?_
        refine mv_getJ C rfl rfl rfl y28 ?_
        refine mv_bipush C rfl ?_
        refine mv_icmp_ne C rfl (fun c21 => ?_) (fun c21 => ?_)
        · refine mv_aload_n C rfl rfl ?_
          refine mv_iload_n C rfl rfl ?_
          refine mv_bipush C rfl ?_
          refine mv_mmin C rfl rfl (Nat.le_of_ble_eq_true rfl) ?_
          refine mv_top em ?_
          refine mv_cV C rfl R1 (by decide) rfl rfl rfl (Nat.le_of_ble_eq_true rfl) (Nat.le_refl _) (Nat.le_refl _) rfl ?_
          refine mv_is_n2 C rfl rfl ?_
          refine mv_iload_n C rfl rfl ?_
          refine mv_bipush C rfl ?_
          refine mv_icmp_le C rfl (fun c41 => ?_) (fun c41 => ?_)
          · exact absurd c41 p41
          · refine mv_iload_n C rfl rfl ?_
            refine mv_if_ne C rfl (fun c45 => ?_) (fun c45 => ?_)
            · refine mv_bipush C rfl ?_
              refine mv_ireturn C rfl mv_okI ?_ ?_
              all_goals rfl
            · exact absurd c45 (by decide)
        · exact absurd c21 p21
      · rw [if_neg ha] at R1
        by_cases h40 : (krd u).1 = 40
        · rw [h40] at e34 ⊢
          refine mv_start pX11_act (some .int) [some (.ref 68), none, none] rfl rfl rfl rfl (fun V C => ?_)
          refine mv_aload_n C rfl rfl ?_
          refine mv_iconst C rfl ?_
          refine mv_putI C rfl rfl rfl rfl ?_
          refine mv_aload_n C rfl rfl ?_
          refine mv_getJ C rfl rfl rfl y27 ?_
          refine mv_is_n1 C rfl rfl ?_
          refine mv_aload_n C rfl rfl ?_
          refine mv_iconst C rfl ?_
          refine mv_putI C rfl rfl rfl rfl ?_
          refine mv_sto hz0' ?_
          refine mv_aload_n C rfl rfl ?_
          refine mv_getJ C rfl rfl rfl y28 ?_
          refine mv_bipush C rfl ?_
          refine mv_icmp_ne C rfl (fun c21 => ?_) (fun c21 => ?_)
          · refine mv_aload_n C rfl rfl ?_
            refine mv_iload_n C rfl rfl ?_
            refine mv_bipush C rfl ?_
            refine mv_mmin C rfl rfl (Nat.le_of_ble_eq_true rfl) ?_
            refine mv_top em ?_
            refine mv_cV C rfl R1 (by decide) rfl rfl rfl (Nat.le_of_ble_eq_true rfl) (Nat.le_refl _) (Nat.le_refl _) rfl ?_
            refine mv_is_n2 C rfl rfl ?_
            refine mv_iload_n C rfl rfl ?_
            refine mv_bipush C rfl ?_
            refine mv_icmp_le C rfl (fun c41 => ?_) (fun c41 => ?_)
            · exact absurd c41 p41
            · refine mv_iload_n C rfl rfl ?_
              refine mv_if_ne C rfl (fun c45 => ?_) (fun c45 => ?_)
              · exact absurd rfl c45
              · refine mv_aload_n C rfl rfl ?_
                refine mv_getJ C rfl rfl rfl e34 ?_
                refine mv_bipush C rfl ?_
                refine mv_icmp_lt C rfl (fun c54 => ?_) (fun c54 => ?_)
                · exact absurd c54 (by decide)
                · refine mv_bipush C rfl ?_
                  refine mv_ireturn C rfl mv_okI ?_ ?_
                  all_goals rfl
          · exact absurd c21 p21
        · refine mv_start pX11_act (some .int) [some (.ref 68), none, none] rfl rfl rfl rfl (fun V C => ?_)
          refine mv_aload_n C rfl rfl ?_
          refine mv_iconst C rfl ?_
          refine mv_putI C rfl rfl rfl rfl ?_
          refine mv_aload_n C rfl rfl ?_
          refine mv_getJ C rfl rfl rfl y27 ?_
          refine mv_is_n1 C rfl rfl ?_
          refine mv_aload_n C rfl rfl ?_
          refine mv_iconst C rfl ?_
          refine mv_putI C rfl rfl rfl rfl ?_
          refine mv_sto hz0' ?_
          refine mv_aload_n C rfl rfl ?_
          refine mv_getJ C rfl rfl rfl y28 ?_
          refine mv_bipush C rfl ?_
          refine mv_icmp_ne C rfl (fun c21 => ?_) (fun c21 => ?_)
          · refine mv_aload_n C rfl rfl ?_
            refine mv_iload_n C rfl rfl ?_
            refine mv_bipush C rfl ?_
            refine mv_mmin C rfl rfl (Nat.le_of_ble_eq_true rfl) ?_
            refine mv_top em ?_
            refine mv_cV C rfl R1 (by decide) rfl rfl rfl (Nat.le_of_ble_eq_true rfl) (Nat.le_refl _) (Nat.le_refl _) rfl ?_
            refine mv_is_n2 C rfl rfl ?_
            refine mv_iload_n C rfl rfl ?_
            refine mv_bipush C rfl ?_
            refine mv_icmp_le C rfl (fun c41 => ?_) (fun c41 => ?_)
            · exact absurd c41 p41
            · refine mv_iload_n C rfl rfl ?_
              refine mv_if_ne C rfl (fun c45 => ?_) (fun c45 => ?_)
              · exact absurd rfl c45
              · refine mv_aload_n C rfl rfl ?_
                refine mv_getJ C rfl rfl rfl e34 ?_
                refine mv_bipush C rfl ?_
                refine mv_icmp_lt C rfl (fun c54 => ?_) (fun c54 => ?_)
                · refine mv_iload_n C rfl rfl ?_
                  refine mv_if_ne C rfl (fun c61 => ?_) (fun c61 => ?_)
                  · exact absurd rfl c61
                  · refine mv_iconst C rfl ?_
                    refine mv_aload_n C rfl rfl ?_
                    refine mv_getJ C rfl rfl rfl e34 ?_
                    refine mv_isub C rfl ?_
                    refine mv_ireturn C rfl mv_okI ?_ ?_
                    all_goals rfl
                · exact absurd (nI_lt (b := 40) (by omega) (by decide)) c54
          · exact absurd c21 p21
end

