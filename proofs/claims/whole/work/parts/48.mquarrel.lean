section
theorem ky_u {z : mv_Z} {m g : Nat → Int32} {q i : Nat} {x : Int32} (h : q ∉ [80, 81]) : mv_u (ky z m g) q i x = ky (mv_u z q i x) m g := by
  simp only [List.mem_cons, List.not_mem_nil, or_false, not_or] at h
  unfold ky mv_u
  refine Prod.ext (funext fun q1 => ?_) rfl
  dsimp only [va_up]
  by_cases e : q1 = q
  · subst e; simp [h]
  · simp [e]
theorem mv_uu0 {z : mv_Z} {q i : Nat} {x y : Int32} (h : z.1 q i = y) : mv_u (mv_u z q i x) q i y = z := by
  unfold mv_u
  refine Prod.ext (funext fun q1 => ?_) rfl
  dsimp only [va_up]
  by_cases e : q1 = q
  · subst e; simp only [if_true]; funext j
    unfold upd
    by_cases e2 : j = i
    · rw [if_pos e2, e2, h]
    · rw [if_neg e2, if_neg e2]
  · simp [e]
theorem r_mAgrees (z : mv_Z) (u : hM) (A : Nat → Bool) (m g : Nat → Int32) (hi : hI u) (hz : mH u A z) (hs : ¬ u 8 0 = 0) : mv_Runs 5 143 [.ref 68] (mv_E (ky z m g)) (some (.int (b1 (kG A u 0 (u 8 0 - 1))))) (mv_E (ky z m (kmg g (u 0 0) (kG A u) 0 0))) := by
  have h24 := hi.1
  have h8 : u 8 0 ≤ u 0 0 := hi.2.2.2.2.2.2.1
  have R1 := r_walksOn z u A m g hi hz
  obtain ⟨s, hs1⟩ : ∃ s, u 8 0 = s + 1 := ⟨u 8 0 - 1, by omega⟩
  have y9 : ∀ g, (ky z m g).1 68 9 = nI s := fun g => by
    show z.1 68 9 = nI s
    rw [hz.2.2.2.1, hs1]; rfl
  have R2 := r_cell (ky z m (kmg g (u 0 0) (kG A u) 0 0)) 0 s
  have y1 : (ky z m (kmg g (u 0 0) (kG A u) 0 0)).1 81 (0 * 24 + s) = b1 (kG A u 0 s) := kmg_i h24 (by omega) (by decide) (by omega)
  rw [hs1, Nat.add_sub_cancel]
  refine mv_start pX11_agrees (some .boolean) [some (.ref 68)] rfl rfl rfl rfl (fun V C => ?_)
  refine mv_aload_n C rfl rfl ?_
  refine mv_cV C rfl R1 (by decide) rfl rfl rfl (Nat.le_of_ble_eq_true rfl) (Nat.le_refl _) (Nat.le_refl _) rfl ?_
  refine mv_aload_n C rfl rfl ?_
  refine mv_getR C rfl rfl rfl ?_
  refine mv_iconst C rfl ?_
  refine mv_aload_n C rfl rfl ?_
  refine mv_getJ C rfl rfl rfl (y9 _) ?_
  refine mv_cS C rfl (mv_up R2 rfl) (by decide) rfl (Nat.le_of_ble_eq_true rfl) (Nat.le_refl _) (Nat.le_refl _) rfl ?_
  refine mv_zldJ C rfl rfl rfl (by omega) y1 ?_
  refine mv_ireturn C rfl (mv_okZ b1_1) ?_ ?_
  all_goals rfl
def kig (u : hM) (g : Nat → Int32) : Nat → (Nat → Int32)
  | 0 => g
  | i + 1 => bif kAll u i then kmg (kig u g i) (u 0 0) (kG (kMin u i) u) 0 0 else kig u g i
theorem m_quarrel (u : hM) (z : mv_Z) (hi : hI u) (hz : rM u z) : mR 144 [] u z (.long (a_quarrel u)) u := by
  have h24 := hi.1
  have h40 : u 9 0 ≤ 40 := hi.2.2.2.2.2.2.2.1
  have h0 := rM_free hz 68 0 0 (Or.inr ⟨rfl, by decide⟩)
  have f0 : fM z (mv_u z 68 0 0) := fM_u fM_rf (by decide)
  have hm0 := mH_of hi h0
  have h9 : (mv_u z 68 0 0).1 68 9 = hst (u 8 0) := hm0.2.2.2.1
  have hn8 := hst_neg hi
  have hge : 0 ≤ hst (u 8 0) ↔ ¬ u 8 0 = 0 := by
    rw [← hn8, i32_le, i32_lt]; omega
  unfold a_quarrel
  by_cases hs : u 8 0 = 0
  · rw [if_pos hs]
    refine ⟨_, mv_up (d := 3) (S1 := mv_E (mv_u z 68 0 0)) ?_ rfl, h0, f0⟩
    refine mv_start pX11_quarrel (some .long) [some (.ref 68), none, none, none] rfl rfl rfl rfl (fun V C => ?_)
    refine mv_aload_n C rfl rfl ?_
    refine mv_iconst C rfl ?_
    refine mv_putI C rfl rfl rfl rfl ?_
    refine mv_aload_n C rfl rfl ?_
    refine mv_getJ C rfl rfl rfl h9 ?_
    refine mv_if_ge C rfl (fun c9 => ?_) (fun c9 => ?_)
    · exact absurd hs (hge.mp c9)
    · refine mv_lconst C rfl ?_
      refine mv_lreturn C rfl rfl ?_ ?_
      all_goals rfl
  · rw [if_neg hs]
    have R1 := r_mAgrees (mv_u z 68 0 0) u (kAll u) ((mv_u z 68 0 0).1 80) ((mv_u z 68 0 0).1 81) hi hm0 hs
    rw [ky_self] at R1
    have e79 : ∀ f, f < u 9 0 → (mv_u z 68 0 0).1 79 f = b1 (!kAll u f) := hm0.2.2.2.2.2.2
    generalize (mv_u z 68 0 0).1 80 = m at *
    generalize kmg ((mv_u z 68 0 0).1 81) (u 0 0) (kG (kAll u) u) 0 0 = g at *
    generalize hz0 : mv_u z 68 0 0 = z0 at *
    cases hk : kG (kAll u) u 0 (u 8 0 - 1) with
    | true =>
      rw [hk] at R1
      refine ⟨_, mv_up (d := 6) (S1 := mv_E (ky z0 m g)) ?_ rfl, ky_rM h0 _ _, ky_fM f0 _ _⟩
      refine mv_start pX11_quarrel (some .long) [some (.ref 68), none, none, none] rfl rfl rfl rfl (fun V C => ?_)
      refine mv_aload_n C rfl rfl ?_
      refine mv_iconst C rfl ?_
      refine mv_putI C rfl rfl rfl rfl ?_
      rw [hz0]
      refine mv_aload_n C rfl rfl ?_
      refine mv_getJ C rfl rfl rfl h9 ?_
      refine mv_if_ge C rfl (fun c9 => ?_) (fun c9 => ?_)
      · refine mv_aload_n C rfl rfl ?_
        refine mv_cV C rfl R1 (by decide) rfl rfl rfl (Nat.le_of_ble_eq_true rfl) (Nat.le_refl _) (Nat.le_refl _) rfl ?_
        refine mv_if_eq C rfl (fun c18 => ?_) (fun c18 => ?_)
        · exact absurd c18 (by decide)
        · refine mv_ldc2_w C rfl ?_
          refine mv_lreturn C rfl rfl ?_ ?_
          all_goals rfl
      · exact absurd (hge.mpr hs) c9
    | false =>
      rw [hk] at R1
      simp only [cond_false]
      refine ⟨_, mv_up (d := 6) (S1 := mv_E (ky z0 m (kig u g (u 9 0)))) ?_ rfl, ky_rM h0 _ _, ky_fM f0 _ _⟩
      have hn : ∀ g, (ky z0 m g).1 68 11 = nI (u 9 0) := fun g => hm0.2.2.1
      refine mv_start pX11_quarrel (some .long) [some (.ref 68), none, none, none] rfl rfl rfl rfl (fun V C => ?_)
      have loop : ∀ (k i : Nat), i + k = u 9 0 → V 29 [some (.ref 68), some (.long (kL (kmds u i))), none, some (.int (nI i))] [] (mv_E (ky z0 m (kig u g i))) := by
        intro k
        induction k with
        | zero =>
          intro i hi2
          obtain rfl : i = u 9 0 := by omega
          refine mv_iload_n C rfl rfl ?_
          refine mv_aload_n C rfl rfl ?_
          refine mv_getJ C rfl rfl rfl (hn _) ?_
          refine mv_icmp_ge C rfl (fun c34 => ?_) (fun c34 => ?_)
          · refine mv_lload_n C rfl rfl ?_
            refine mv_lreturn C rfl rfl ?_ ?_
            all_goals rfl
          · exact absurd (nI_le (by omega) (by omega)) c34
        | succ k ih =>
          intro i hi2
          have e := ih (i + 1) (by omega)
          rw [kmds_s u i (by omega)] at e
          simp only [kig] at e
          have y2 : (ky z0 m (kig u g i)).1 79 i = b1 (!kAll u i) := e79 i (by omega)
          have e80 := e79 i (by omega)
          cases ha : kAll u i with
          | true =>
            rw [ha] at y2 e80 e
            rw [Bool.true_and] at e
            simp only [cond_true] at e
            have hm1 : mH u (kMin u i) (mv_u z0 79 i 1) := by
              obtain ⟨p1, p2, p3, p4, p5, p6, p7⟩ := hm0
              refine ⟨p1, p2, p3, p4, p5, p6, fun f hf => ?_⟩
              by_cases ef : f = i
              · subst ef; rw [mv_u_eq, show kMin u f f = false from by simp [kMin]]; rfl
              · rw [mv_u_at ef, p7 f hf, show kMin u i f = kAll u f from by simp [kMin, ef]]
            have R4 := r_mAgrees (mv_u z0 79 i 1) u (kMin u i) m (kig u g i) hi hm1 hs
            rw [show kG (kMin u i) u 0 (u 8 0 - 1) = kmnd u i from rfl] at R4
            have back : mv_u (ky (mv_u z0 79 i 1) m (kmg (kig u g i) (u 0 0) (kG (kMin u i) u) 0 0)) 79 i 0 = ky z0 m (kmg (kig u g i) (u 0 0) (kG (kMin u i) u) 0 0) := by
              rw [ky_u (by decide), mv_uu0 (by rw [e80]; rfl)]
            have e0 : kL (kmds u i) ||| 0 = kL (kmds u i) := by rw [kL_0, kL_or]; apply kL_c; intro j _; simp
            cases hm : kmnd u i with
            | true =>
              rw [hm] at R4 e
              refine mv_iload_n C rfl rfl ?_
              refine mv_aload_n C rfl rfl ?_
              refine mv_getJ C rfl rfl rfl (hn _) ?_
              refine mv_icmp_ge C rfl (fun c34 => ?_) (fun c34 => ?_)
              · exact absurd c34 (nI_ge (by omega) (by omega))
              · refine mv_aload_n C rfl rfl ?_
                refine mv_getR C rfl rfl rfl ?_
                refine mv_iload_n C rfl rfl ?_
                refine mv_zldJ C rfl rfl rfl (by omega) y2 ?_
                refine mv_if_eq C rfl (fun c43 => ?_) (fun c43 => ?_)
                · refine mv_aload_n C rfl rfl ?_
                  refine mv_getR C rfl rfl rfl ?_
                  refine mv_iload_n C rfl rfl ?_
                  refine mv_iconst C rfl ?_
                  refine mv_zst C rfl rfl rfl (by omega) (by simp) ?_
                  refine mv_sto (ky_u (by decide)) ?_
                  refine mv_lload_n C rfl rfl ?_
                  refine mv_aload_n C rfl rfl ?_
                  refine mv_cV C rfl R4 (by decide) rfl rfl rfl (Nat.le_of_ble_eq_true rfl) (Nat.le_refl _) (Nat.le_refl _) rfl ?_
                  refine mv_if_eq C rfl (fun c61 => ?_) (fun c61 => ?_)
                  · exact absurd c61 (by decide)
                  · refine mv_lconst C rfl ?_
                    refine mv_iload_n C rfl rfl ?_
                    refine mv_lshl C rfl ?_
                    refine mv_goto C rfl ?_
                    refine mv_lor C rfl ?_
                    refine mv_ls_n1 C rfl rfl ?_
                    refine mv_aload_n C rfl rfl ?_
                    refine mv_getR C rfl rfl rfl ?_
                    refine mv_iload_n C rfl rfl ?_
                    refine mv_iconst C rfl ?_
                    refine mv_zst C rfl rfl rfl (by omega) (by simp) ?_
                    refine mv_sto back ?_
                    refine mv_inc3 C rfl rfl ?_
                    refine mv_goto C rfl ?_
                    simp only [nI_1]
                    exact e
                · exact absurd rfl c43
            | false =>
              rw [hm] at R4 e
              refine mv_iload_n C rfl rfl ?_
              refine mv_aload_n C rfl rfl ?_
              refine mv_getJ C rfl rfl rfl (hn _) ?_
              refine mv_icmp_ge C rfl (fun c34 => ?_) (fun c34 => ?_)
              · exact absurd c34 (nI_ge (by omega) (by omega))
              · refine mv_aload_n C rfl rfl ?_
                refine mv_getR C rfl rfl rfl ?_
                refine mv_iload_n C rfl rfl ?_
                refine mv_zldJ C rfl rfl rfl (by omega) y2 ?_
                refine mv_if_eq C rfl (fun c43 => ?_) (fun c43 => ?_)
                · refine mv_aload_n C rfl rfl ?_
                  refine mv_getR C rfl rfl rfl ?_
                  refine mv_iload_n C rfl rfl ?_
                  refine mv_iconst C rfl ?_
                  refine mv_zst C rfl rfl rfl (by omega) (by simp) ?_
                  refine mv_sto (ky_u (by decide)) ?_
                  refine mv_lload_n C rfl rfl ?_
                  refine mv_aload_n C rfl rfl ?_
                  refine mv_cV C rfl R4 (by decide) rfl rfl rfl (Nat.le_of_ble_eq_true rfl) (Nat.le_refl _) (Nat.le_refl _) rfl ?_
                  refine mv_if_eq C rfl (fun c61 => ?_) (fun c61 => ?_)
                  · refine mv_lconst C rfl ?_
                    refine mv_lor C rfl ?_
                    refine mv_topL e0 ?_
                    refine mv_ls_n1 C rfl rfl ?_
                    refine mv_aload_n C rfl rfl ?_
                    refine mv_getR C rfl rfl rfl ?_
                    refine mv_iload_n C rfl rfl ?_
                    refine mv_iconst C rfl ?_
                    refine mv_zst C rfl rfl rfl (by omega) (by simp) ?_
                    refine mv_sto back ?_
                    refine mv_inc3 C rfl rfl ?_
                    refine mv_goto C rfl ?_
                    simp only [nI_1]
                    exact e
                  · exact absurd rfl c61
                · exact absurd rfl c43
          | false =>
            rw [ha] at y2 e
            rw [Bool.false_and] at e
            simp only [cond_false] at e
            refine mv_iload_n C rfl rfl ?_
            refine mv_aload_n C rfl rfl ?_
            refine mv_getJ C rfl rfl rfl (hn _) ?_
            refine mv_icmp_ge C rfl (fun c34 => ?_) (fun c34 => ?_)
            · exact absurd c34 (nI_ge (by omega) (by omega))
            · refine mv_aload_n C rfl rfl ?_
              refine mv_getR C rfl rfl rfl ?_
              refine mv_iload_n C rfl rfl ?_
              refine mv_zldJ C rfl rfl rfl (by omega) y2 ?_
              refine mv_if_eq C rfl (fun c43 => ?_) (fun c43 => ?_)
              · exact absurd c43 (by decide)
              · refine mv_goto C rfl ?_
                refine mv_inc3 C rfl rfl ?_
                refine mv_goto C rfl ?_
                simp only [nI_1]
                exact e
      have e := loop (u 9 0) 0 (by omega)
      rw [kmds_0] at e
      refine mv_aload_n C rfl rfl ?_
      refine mv_iconst C rfl ?_
      refine mv_putI C rfl rfl rfl rfl ?_
      rw [hz0]
      refine mv_aload_n C rfl rfl ?_
      refine mv_getJ C rfl rfl rfl h9 ?_
      refine mv_if_ge C rfl (fun c9 => ?_) (fun c9 => ?_)
      · refine mv_aload_n C rfl rfl ?_
        refine mv_cV C rfl R1 (by decide) rfl rfl rfl (Nat.le_of_ble_eq_true rfl) (Nat.le_refl _) (Nat.le_refl _) rfl ?_
        refine mv_if_eq C rfl (fun c18 => ?_) (fun c18 => ?_)
        · refine mv_lconst C rfl ?_
          refine mv_ls_n1 C rfl rfl ?_
          refine mv_iconst C rfl ?_
          refine mv_is_n3 C rfl rfl ?_
          exact e
        · exact absurd rfl c18
      · exact absurd (hge.mpr hs) c9
end

