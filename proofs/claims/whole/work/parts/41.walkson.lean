section
theorem kdp_o {A : Nat → Bool} {u : hM} {G : Nat → Nat → Bool} {r p t : Nat} (h : ¬ u 3 r = u 4 r) : kdp A u G r p t = (decide (u 6 r = 0) && kclr A u r (t + 1) (min (t + u 5 r) 48) && (decide (¬ kot u r p = 0) && (decide (48 ≤ t + u 5 r) || G (t + u 5 r) (kot u r p - 1)))) := by
  unfold kdp kot
  by_cases h3 : u 3 r = p
  · have h4 : ¬ u 4 r = p := fun q => h (by omega)
    simp [h3, h4]
  · by_cases h4 : u 4 r = p <;> simp [h3, h4]
theorem r_mayGo (z : mv_Z) (u : hM) (A : Nat → Bool) (G : Nat → Nat → Bool) (m g : Nat → Int32) (r p t : Nat) (hr : r < u 2 0) (hp : p < 24) (ht : t < 48) (hi : hI u) (hz : mH u A z) (hm : ∀ t1 p1, t < t1 → t1 < 48 → p1 < u 0 0 → g (t1 * 24 + p1) = b1 (G t1 p1)) : mv_Runs 3 136 [.ref 68, .int (nI r), .int (nI p), .int (nI t)] (mv_E (ky z m g)) (some (.int (b1 (kdp A u G r p t)))) (mv_E (ky z m g)) := by
  have h240 := hi.2.2.1
  have h24 := hi.1
  obtain ⟨q1, q2, q3, q4, q5⟩ := hi.2.2.2.1 r hr
  have q6 := hi.2.2.2.2.1 r
  have hz1 := mH_y hz m g
  obtain ⟨y1, y2, y3, y4⟩ := hz1.2.2.2.2.1 r
  have R1 := r_other (ky z m g) u A r p hr (by omega) hi hz1
  have hk := kot_lt (p := p) hi hr
  rw [kdp_o q3]
  by_cases ho : kot u r p = 0
  · rw [ho] at R1
    have ev : b1 (decide (u 6 r = 0) && kclr A u r (t + 1) (min (t + u 5 r) 48) && (decide (¬ kot u r p = 0) && (decide (48 ≤ t + u 5 r) || G (t + u 5 r) (kot u r p - 1)))) = 0 := by rw [b1_0]; simp [ho]
    rw [ev]
    refine mv_start pX11_mayGo (some .boolean) [some (.ref 68), some (.int (nI r)), some (.int (nI p)), some (.int (nI t)), none, none] rfl rfl rfl rfl (fun V C => ?_)
    refine mv_aload_n C rfl rfl ?_
    refine mv_iload_n C rfl rfl ?_
    refine mv_iload_n C rfl rfl ?_
    refine mv_cV C rfl (mv_up R1 rfl) (by decide) rfl rfl rfl (Nat.le_of_ble_eq_true rfl) (Nat.le_refl _) (Nat.le_refl _) rfl ?_
    refine mv_is4 C rfl rfl ?_
    refine mv_iload_n C rfl rfl ?_
    refine mv_aload_n C rfl rfl ?_
    refine mv_getR C rfl rfl rfl ?_
    refine mv_iload_n C rfl rfl ?_
    refine mv_ald C rfl rfl rfl (by omega) ?_
    refine mv_iadd C rfl ?_
    refine mv_is5 C rfl rfl ?_
    refine mv_iload C rfl rfl ?_
    refine mv_if_lt C rfl (fun c20 => ?_) (fun c20 => ?_)
    · refine mv_iconst C rfl ?_
      refine mv_ireturn C rfl mv_okZ0 ?_ ?_
      all_goals rfl
    · exact absurd (by decide) c20
  · obtain ⟨q, hq⟩ : ∃ q, kot u r p = q + 1 := ⟨kot u r p - 1, by omega⟩
    rw [hq] at R1
    rw [hq]
    simp only [Nat.add_sub_cancel, show (¬ q + 1 = 0) = True by simp, decide_true, Bool.true_and]
    by_cases h6 : u 6 r = 0
    · rw [decide_eq_true h6, Bool.true_and]
      have em : (if nI (t + u 5 r) < 48 then nI (t + u 5 r) else 48) = nI (min (t + u 5 r) 48) := by
        rcases Nat.lt_or_ge (t + u 5 r) 48 with q | q
        · rw [if_pos (show nI (t + u 5 r) < (48 : Int32) from nI_lt (b := 48) q (by omega)), Nat.min_eq_left (by omega)]
        · rw [if_neg (show ¬ nI (t + u 5 r) < (48 : Int32) from nI_nlt (b := 48) q (by omega)), Nat.min_eq_right q]; rfl
      have R3 := r_mIsClear (ky z m g) u A r (t + 1) (min (t + u 5 r) 48 - 1) (by omega) (by omega) (by omega) hi hz1
      rw [show min (t + u 5 r) 48 - 1 + 1 = min (t + u 5 r) 48 by omega] at R3
      have hm1 : 1 ≤ min (t + u 5 r) 48 := by omega
      generalize kclr A u r (t + 1) (min (t + u 5 r) 48) = b at *
      cases b with
      | false =>
        refine mv_start pX11_mayGo (some .boolean) [some (.ref 68), some (.int (nI r)), some (.int (nI p)), some (.int (nI t)), none, none] rfl rfl rfl rfl (fun V C => ?_)
        refine mv_aload_n C rfl rfl ?_
        refine mv_iload_n C rfl rfl ?_
        refine mv_iload_n C rfl rfl ?_
        refine mv_cV C rfl (mv_up R1 rfl) (by decide) rfl rfl rfl (Nat.le_of_ble_eq_true rfl) (Nat.le_refl _) (Nat.le_refl _) rfl ?_
        refine mv_is4 C rfl rfl ?_
        refine mv_iload_n C rfl rfl ?_
        refine mv_aload_n C rfl rfl ?_
        refine mv_getR C rfl rfl rfl ?_
        refine mv_iload_n C rfl rfl ?_
        refine mv_aldJ C rfl rfl rfl (by omega) y3 ?_
        refine mv_iadd C rfl ?_
        refine mv_top (nI_add _ _) ?_
        refine mv_is5 C rfl rfl ?_
        refine mv_iload C rfl rfl ?_
        refine mv_if_lt C rfl (fun c20 => ?_) (fun c20 => ?_)
        · exact absurd c20 (nI_pos (by omega))
        · refine mv_aload_n C rfl rfl ?_
          refine mv_getR C rfl rfl rfl ?_
          refine mv_iload_n C rfl rfl ?_
          refine mv_zldJ C rfl rfl rfl (by omega) y4 ?_
          refine mv_if_ne C rfl (fun c29 => ?_) (fun c29 => ?_)
          · exact absurd (by rw [h6]; rfl) c29
          · refine mv_aload_n C rfl rfl ?_
            refine mv_iload_n C rfl rfl ?_
            refine mv_iload_n C rfl rfl ?_
            refine mv_iconst C rfl ?_
            refine mv_iadd C rfl ?_
            refine mv_top (nI_1 _) ?_
            refine mv_bipush C rfl ?_
            refine mv_iload C rfl rfl ?_
            refine mv_mmin C rfl rfl (Nat.le_of_ble_eq_true rfl) ?_
            refine mv_top em ?_
            refine mv_iconst C rfl ?_
            refine mv_isub C rfl ?_
            refine mv_top (pk_sub (b := 1) hm1) ?_
            refine mv_cV C rfl R3 (by decide) rfl rfl rfl (Nat.le_of_ble_eq_true rfl) (Nat.le_refl _) (Nat.le_refl _) rfl ?_
            refine mv_if_eq C rfl (fun c49 => ?_) (fun c49 => ?_)
            · refine mv_iconst C rfl ?_
              refine mv_ireturn C rfl mv_okZ0 ?_ ?_
              all_goals rfl
            · exact absurd rfl c49
      | true =>
        rw [Bool.true_and]
        by_cases h48 : 48 ≤ t + u 5 r
        · rw [decide_eq_true h48, Bool.true_or]
          refine mv_start pX11_mayGo (some .boolean) [some (.ref 68), some (.int (nI r)), some (.int (nI p)), some (.int (nI t)), none, none] rfl rfl rfl rfl (fun V C => ?_)
          refine mv_aload_n C rfl rfl ?_
          refine mv_iload_n C rfl rfl ?_
          refine mv_iload_n C rfl rfl ?_
          refine mv_cV C rfl (mv_up R1 rfl) (by decide) rfl rfl rfl (Nat.le_of_ble_eq_true rfl) (Nat.le_refl _) (Nat.le_refl _) rfl ?_
          refine mv_is4 C rfl rfl ?_
          refine mv_iload_n C rfl rfl ?_
          refine mv_aload_n C rfl rfl ?_
          refine mv_getR C rfl rfl rfl ?_
          refine mv_iload_n C rfl rfl ?_
          refine mv_aldJ C rfl rfl rfl (by omega) y3 ?_
          refine mv_iadd C rfl ?_
          refine mv_top (nI_add _ _) ?_
          refine mv_is5 C rfl rfl ?_
          refine mv_iload C rfl rfl ?_
          refine mv_if_lt C rfl (fun c20 => ?_) (fun c20 => ?_)
          · exact absurd c20 (nI_pos (by omega))
          · refine mv_aload_n C rfl rfl ?_
            refine mv_getR C rfl rfl rfl ?_
            refine mv_iload_n C rfl rfl ?_
            refine mv_zldJ C rfl rfl rfl (by omega) y4 ?_
            refine mv_if_ne C rfl (fun c29 => ?_) (fun c29 => ?_)
            · exact absurd (by rw [h6]; rfl) c29
            · refine mv_aload_n C rfl rfl ?_
              refine mv_iload_n C rfl rfl ?_
              refine mv_iload_n C rfl rfl ?_
              refine mv_iconst C rfl ?_
              refine mv_iadd C rfl ?_
              refine mv_top (nI_1 _) ?_
              refine mv_bipush C rfl ?_
              refine mv_iload C rfl rfl ?_
              refine mv_mmin C rfl rfl (Nat.le_of_ble_eq_true rfl) ?_
              refine mv_top em ?_
              refine mv_iconst C rfl ?_
              refine mv_isub C rfl ?_
              refine mv_top (pk_sub (b := 1) hm1) ?_
              refine mv_cV C rfl R3 (by decide) rfl rfl rfl (Nat.le_of_ble_eq_true rfl) (Nat.le_refl _) (Nat.le_refl _) rfl ?_
              refine mv_if_eq C rfl (fun c49 => ?_) (fun c49 => ?_)
              · exact absurd c49 (by decide)
              · refine mv_iload C rfl rfl ?_
                refine mv_bipush C rfl ?_
                refine mv_icmp_ge C rfl (fun c56 => ?_) (fun c56 => ?_)
                · refine mv_iconst C rfl ?_
                  refine mv_goto C rfl ?_
                  refine mv_ireturn C rfl mv_okZ1 ?_ ?_
                  all_goals rfl
                · exact absurd (nI_le (a := 48) h48 (by omega)) c56
        · rw [decide_eq_false h48, Bool.false_or]
          have R2 := r_cell (ky z m g) (t + u 5 r) q
          have y5 : (ky z m g).1 81 ((t + u 5 r) * 24 + q) = b1 (G (t + u 5 r) q) := hm _ _ (by omega) (by omega) (by omega)
          cases hG : G (t + u 5 r) q with
          | true =>
            rw [hG] at y5
            refine mv_start pX11_mayGo (some .boolean) [some (.ref 68), some (.int (nI r)), some (.int (nI p)), some (.int (nI t)), none, none] rfl rfl rfl rfl (fun V C => ?_)
            refine mv_aload_n C rfl rfl ?_
            refine mv_iload_n C rfl rfl ?_
            refine mv_iload_n C rfl rfl ?_
            refine mv_cV C rfl (mv_up R1 rfl) (by decide) rfl rfl rfl (Nat.le_of_ble_eq_true rfl) (Nat.le_refl _) (Nat.le_refl _) rfl ?_
            refine mv_is4 C rfl rfl ?_
            refine mv_iload_n C rfl rfl ?_
            refine mv_aload_n C rfl rfl ?_
            refine mv_getR C rfl rfl rfl ?_
            refine mv_iload_n C rfl rfl ?_
            refine mv_aldJ C rfl rfl rfl (by omega) y3 ?_
            refine mv_iadd C rfl ?_
            refine mv_top (nI_add _ _) ?_
            refine mv_is5 C rfl rfl ?_
            refine mv_iload C rfl rfl ?_
            refine mv_if_lt C rfl (fun c20 => ?_) (fun c20 => ?_)
            · exact absurd c20 (nI_pos (by omega))
            · refine mv_aload_n C rfl rfl ?_
              refine mv_getR C rfl rfl rfl ?_
              refine mv_iload_n C rfl rfl ?_
              refine mv_zldJ C rfl rfl rfl (by omega) y4 ?_
              refine mv_if_ne C rfl (fun c29 => ?_) (fun c29 => ?_)
              · exact absurd (by rw [h6]; rfl) c29
              · refine mv_aload_n C rfl rfl ?_
                refine mv_iload_n C rfl rfl ?_
                refine mv_iload_n C rfl rfl ?_
                refine mv_iconst C rfl ?_
                refine mv_iadd C rfl ?_
                refine mv_top (nI_1 _) ?_
                refine mv_bipush C rfl ?_
                refine mv_iload C rfl rfl ?_
                refine mv_mmin C rfl rfl (Nat.le_of_ble_eq_true rfl) ?_
                refine mv_top em ?_
                refine mv_iconst C rfl ?_
                refine mv_isub C rfl ?_
                refine mv_top (pk_sub (b := 1) hm1) ?_
                refine mv_cV C rfl R3 (by decide) rfl rfl rfl (Nat.le_of_ble_eq_true rfl) (Nat.le_refl _) (Nat.le_refl _) rfl ?_
                refine mv_if_eq C rfl (fun c49 => ?_) (fun c49 => ?_)
                · exact absurd c49 (by decide)
                · refine mv_iload C rfl rfl ?_
                  refine mv_bipush C rfl ?_
                  refine mv_icmp_ge C rfl (fun c56 => ?_) (fun c56 => ?_)
                  · exact absurd c56 (nI_ge (b := 48) (by omega) (by decide))
                  · refine mv_aload_n C rfl rfl ?_
                    refine mv_getR C rfl rfl rfl ?_
                    refine mv_iload C rfl rfl ?_
                    refine mv_iload C rfl rfl ?_
                    refine mv_cS C rfl (mv_up R2 rfl) (by decide) rfl (Nat.le_of_ble_eq_true rfl) (Nat.le_refl _) (Nat.le_refl _) rfl ?_
                    refine mv_zldJ C rfl rfl rfl (by omega) y5 ?_
                    refine mv_if_eq C rfl (fun c71 => ?_) (fun c71 => ?_)
                    · exact absurd c71 (by decide)
                    · refine mv_iconst C rfl ?_
                      refine mv_goto C rfl ?_
                      refine mv_ireturn C rfl mv_okZ1 ?_ ?_
                      all_goals rfl
          | false =>
            rw [hG] at y5
            refine mv_start pX11_mayGo (some .boolean) [some (.ref 68), some (.int (nI r)), some (.int (nI p)), some (.int (nI t)), none, none] rfl rfl rfl rfl (fun V C => ?_)
            refine mv_aload_n C rfl rfl ?_
            refine mv_iload_n C rfl rfl ?_
            refine mv_iload_n C rfl rfl ?_
            refine mv_cV C rfl (mv_up R1 rfl) (by decide) rfl rfl rfl (Nat.le_of_ble_eq_true rfl) (Nat.le_refl _) (Nat.le_refl _) rfl ?_
            refine mv_is4 C rfl rfl ?_
            refine mv_iload_n C rfl rfl ?_
            refine mv_aload_n C rfl rfl ?_
            refine mv_getR C rfl rfl rfl ?_
            refine mv_iload_n C rfl rfl ?_
            refine mv_aldJ C rfl rfl rfl (by omega) y3 ?_
            refine mv_iadd C rfl ?_
            refine mv_top (nI_add _ _) ?_
            refine mv_is5 C rfl rfl ?_
            refine mv_iload C rfl rfl ?_
            refine mv_if_lt C rfl (fun c20 => ?_) (fun c20 => ?_)
            · exact absurd c20 (nI_pos (by omega))
            · refine mv_aload_n C rfl rfl ?_
              refine mv_getR C rfl rfl rfl ?_
              refine mv_iload_n C rfl rfl ?_
              refine mv_zldJ C rfl rfl rfl (by omega) y4 ?_
              refine mv_if_ne C rfl (fun c29 => ?_) (fun c29 => ?_)
              · exact absurd (by rw [h6]; rfl) c29
              · refine mv_aload_n C rfl rfl ?_
                refine mv_iload_n C rfl rfl ?_
                refine mv_iload_n C rfl rfl ?_
                refine mv_iconst C rfl ?_
                refine mv_iadd C rfl ?_
                refine mv_top (nI_1 _) ?_
                refine mv_bipush C rfl ?_
                refine mv_iload C rfl rfl ?_
                refine mv_mmin C rfl rfl (Nat.le_of_ble_eq_true rfl) ?_
                refine mv_top em ?_
                refine mv_iconst C rfl ?_
                refine mv_isub C rfl ?_
                refine mv_top (pk_sub (b := 1) hm1) ?_
                refine mv_cV C rfl R3 (by decide) rfl rfl rfl (Nat.le_of_ble_eq_true rfl) (Nat.le_refl _) (Nat.le_refl _) rfl ?_
                refine mv_if_eq C rfl (fun c49 => ?_) (fun c49 => ?_)
                · exact absurd c49 (by decide)
                · refine mv_iload C rfl rfl ?_
                  refine mv_bipush C rfl ?_
                  refine mv_icmp_ge C rfl (fun c56 => ?_) (fun c56 => ?_)
                  · exact absurd c56 (nI_ge (b := 48) (by omega) (by decide))
                  · refine mv_aload_n C rfl rfl ?_
                    refine mv_getR C rfl rfl rfl ?_
                    refine mv_iload C rfl rfl ?_
                    refine mv_iload C rfl rfl ?_
                    refine mv_cS C rfl (mv_up R2 rfl) (by decide) rfl (Nat.le_of_ble_eq_true rfl) (Nat.le_refl _) (Nat.le_refl _) rfl ?_
                    refine mv_zldJ C rfl rfl rfl (by omega) y5 ?_
                    refine mv_if_eq C rfl (fun c71 => ?_) (fun c71 => ?_)
                    · refine mv_iconst C rfl ?_
                      refine mv_ireturn C rfl mv_okZ0 ?_ ?_
                      all_goals rfl
                    · exact absurd rfl c71
    · rw [decide_eq_false h6, Bool.false_and, Bool.false_and]
      have h61 : u 6 r = 1 := by omega
      refine mv_start pX11_mayGo (some .boolean) [some (.ref 68), some (.int (nI r)), some (.int (nI p)), some (.int (nI t)), none, none] rfl rfl rfl rfl (fun V C => ?_)
      refine mv_aload_n C rfl rfl ?_
      refine mv_iload_n C rfl rfl ?_
      refine mv_iload_n C rfl rfl ?_
      refine mv_cV C rfl (mv_up R1 rfl) (by decide) rfl rfl rfl (Nat.le_of_ble_eq_true rfl) (Nat.le_refl _) (Nat.le_refl _) rfl ?_
      refine mv_is4 C rfl rfl ?_
      refine mv_iload_n C rfl rfl ?_
      refine mv_aload_n C rfl rfl ?_
      refine mv_getR C rfl rfl rfl ?_
      refine mv_iload_n C rfl rfl ?_
      refine mv_aldJ C rfl rfl rfl (by omega) y3 ?_
      refine mv_iadd C rfl ?_
      refine mv_is5 C rfl rfl ?_
      refine mv_iload C rfl rfl ?_
      refine mv_if_lt C rfl (fun c20 => ?_) (fun c20 => ?_)
      · exact absurd c20 (nI_pos (by omega))
      · refine mv_aload_n C rfl rfl ?_
        refine mv_getR C rfl rfl rfl ?_
        refine mv_iload_n C rfl rfl ?_
        refine mv_zldJ C rfl rfl rfl (by omega) y4 ?_
        refine mv_if_ne C rfl (fun c29 => ?_) (fun c29 => ?_)
        · refine mv_iconst C rfl ?_
          refine mv_ireturn C rfl mv_okZ0 ?_ ?_
          all_goals rfl
        · (rw [h61] at c29; exact absurd c29 (by decide))
/-- a table filled from the last hour down -/
def kmg (g : Nat → Int32) (n : Nat) (G : Nat → Nat → Bool) (j p : Nat) : Nat → Int32 := fun i => if i % 24 < n ∧ i / 24 < 48 ∧ (j ≤ i / 24 ∨ i / 24 + 1 = j ∧ i % 24 < p) then b1 (G (i / 24) (i % 24)) else g i
theorem kmg_s (g : Nat → Int32) (n : Nat) (G : Nat → Nat → Bool) (s p : Nat) (hs : s < 48) (hp : p < n) (hn : n ≤ 24) : upd (kmg g n G (s + 1) p) (s * 24 + p) (b1 (G s p)) = kmg g n G (s + 1) (p + 1) := by
  funext i
  unfold upd kmg
  by_cases e : i = s * 24 + p
  · rw [if_pos e, if_pos (by omega), show i / 24 = s by omega, show i % 24 = p by omega]
  · rw [if_neg e]
    by_cases h : i % 24 < n ∧ i / 24 < 48 ∧ (s + 1 ≤ i / 24 ∨ i / 24 + 1 = s + 1 ∧ i % 24 < p)
    · rw [if_pos h, if_pos (by omega)]
    · rw [if_neg h, if_neg (by omega)]
theorem kmg_n (g : Nat → Int32) (n : Nat) (G : Nat → Nat → Bool) (s : Nat) : kmg g n G (s + 1) n = kmg g n G s 0 := by
  funext i
  unfold kmg
  by_cases h : i % 24 < n ∧ i / 24 < 48 ∧ (s + 1 ≤ i / 24 ∨ i / 24 + 1 = s + 1 ∧ i % 24 < n)
  · rw [if_pos h, if_pos (by omega)]
  · rw [if_neg h, if_neg (by omega)]
theorem kmg_0 (g : Nat → Int32) (n : Nat) (G : Nat → Nat → Bool) : kmg g n G 48 0 = g := by
  funext i; unfold kmg; rw [if_neg (by omega)]
theorem kmg_i {g : Nat → Int32} {n : Nat} {G : Nat → Nat → Bool} {j p t1 p1 : Nat} (hn : n ≤ 24) (h1 : p1 < n) (h48 : t1 < 48) (h : j ≤ t1) : kmg g n G j p (t1 * 24 + p1) = b1 (G t1 p1) := by
  unfold kmg
  rw [if_pos (by omega), show (t1 * 24 + p1) / 24 = t1 by omega, show (t1 * 24 + p1) % 24 = p1 by omega]
theorem r_walksOn (z : mv_Z) (u : hM) (A : Nat → Bool) (m g : Nat → Int32) (hi : hI u) (hz : mH u A z) : mv_Runs 4 135 [.ref 68] (mv_E (ky z m g)) none (mv_E (ky z m (kmg g (u 0 0) (kG A u) 0 0))) := by
  have h24 := hi.1
  have h240 := hi.2.2.1
  have hrd : ∀ r, r < u 2 0 → 1 ≤ u 5 r := fun r hr => (hi.2.2.2.1 r hr).2.2.2.1
  have hn : ∀ g, (ky z m g).1 68 1 = nI (u 0 0) := fun m => hz.1
  have hr : ∀ g, (ky z m g).1 68 4 = nI (u 2 0) := fun m => hz.2.1
  generalize hG : kG A u = G
  refine mv_start pX11_walksOn none [some (.ref 68), none, none, none, none] rfl rfl rfl rfl (fun V C => ?_)
  have outer : ∀ (j : Nat), j ≤ 48 → ∀ w2 w3 w4 : Option Value, V 3 [some (.ref 68), some (.int (hst j)), w2, w3, w4] [] (mv_E (ky z m (kmg g (u 0 0) G j 0))) := by
    intro j
    induction j with
    | zero =>
      intro hj w2 w3 w4
      refine mv_iload_n C rfl rfl ?_
      refine mv_if_lt C rfl (fun c4 => ?_) (fun c4 => ?_)
      · refine mv_return_ C rfl rfl ?_ ?_
        all_goals rfl
      · exact absurd (by decide) c4
    | succ t ih =>
      intro hj w2 w3 w4
      have e := ih (by omega)
      rw [← kmg_n] at e
      have e48 : (if t = 47 then true else false) = decide (t = 47) := by by_cases h : t = 47 <;> simp [h]
      have ploop : ∀ (k p : Nat), p + k = u 0 0 → ∀ w3 w4 : Option Value, V 9 [some (.ref 68), some (.int (nI t)), some (.int (nI p)), w3, w4] [] (mv_E (ky z m (kmg g (u 0 0) G (t + 1) p))) := by
        intro k
        induction k with
        | zero =>
          intro p hp w3 w4
          obtain rfl : p = u 0 0 := by omega
          refine mv_iload_n C rfl rfl ?_
          refine mv_aload_n C rfl rfl ?_
          refine mv_getJ C rfl rfl rfl (hn _) ?_
          refine mv_icmp_ge C rfl (fun c14 => ?_) (fun c14 => ?_)
          · refine mv_inc1 C rfl rfl ?_
            refine mv_goto C rfl ?_
            rw [show nI t + (-1) = hst t from hst_dec t]
            exact e _ _ _
          · exact absurd (nI_le (by omega) (by omega)) c14
        | succ k ihp =>
          intro p hp w3 w4
          have e1 := ihp (p + 1) (by omega)
          rw [← kmg_s _ _ _ _ _ (by omega) (by omega) h24] at e1
          have hz1 : mH u A (ky z m (kmg g (u 0 0) G (t + 1) p)) := mH_y hz _ _
          have hm1 : ∀ t1 p1, t < t1 → t1 < 48 → p1 < u 0 0 → kmg g (u 0 0) G (t + 1) p (t1 * 24 + p1) = b1 (G t1 p1) := fun t1 p1 h1 h2 h3 => kmg_i h24 h3 h2 (by omega)
          have R1 := r_cell (ky z m (kmg g (u 0 0) G (t + 1) p)) t p
          have R2 := r_letsIn (ky z m (kmg g (u 0 0) G (t + 1) p)) u A p t (by omega) (by omega) hi hz1
          have hGt : G t p = kgo A u G t p := by rw [← hG]; exact kG_eq A u p (by omega) hrd
          generalize hx : (decide (t = 47) || G (t + 1) p) = x
          have hks : G t p = ((x || kany (fun r => kdp A u G r p t) (u 2 0)) && klet A u p t) := by
            rw [hGt, ← hx]; unfold kgo; rw [Bool.or_assoc]
          have store : ∀ (y : Bool) (w4 : Option Value), y = (x || kany (fun r => kdp A u G r p t) (u 2 0)) → V 75 [some (.ref 68), some (.int (nI t)), some (.int (nI p)), some (.int (b1 y)), w4] [] (mv_E (ky z m (kmg g (u 0 0) G (t + 1) p))) := by
            intro y w4 hy
            rw [← hy] at hks
            have fin : ∀ v : Int32, v = b1 (G t p) → V 102 [some (.ref 68), some (.int (nI t)), some (.int (nI p)), some (.int (b1 y)), w4] [.int v, .int (nI (t * 24 + p)), .ref 81] (mv_E (ky z m (kmg g (u 0 0) G (t + 1) p))) := by
              intro v hv
              subst hv
              refine mv_zst C rfl rfl rfl (by omega) b1_1 ?_
              refine mv_sto ky_u81 ?_
              refine mv_inc2 C rfl rfl ?_
              refine mv_goto C rfl ?_
              simp only [nI_1]
              exact e1 _ _
            rw [hks] at fin
            cases y with
            | false =>
              refine mv_aload_n C rfl rfl ?_
              refine mv_getR C rfl rfl rfl ?_
              refine mv_iload_n C rfl rfl ?_
              refine mv_iload_n C rfl rfl ?_
              refine mv_cS C rfl (mv_up R1 rfl) (by decide) rfl (Nat.le_of_ble_eq_true rfl) (Nat.le_refl _) (Nat.le_refl _) rfl ?_
              refine mv_iload_n C rfl rfl ?_
              refine mv_if_eq C rfl (fun c85 => ?_) (fun c85 => ?_)
              · refine mv_iconst C rfl ?_
                exact fin _ rfl
              · exact absurd rfl c85
            | true =>
              cases hl : klet A u p t with
              | false =>
                rw [hl] at R2
                refine mv_aload_n C rfl rfl ?_
                refine mv_getR C rfl rfl rfl ?_
                refine mv_iload_n C rfl rfl ?_
                refine mv_iload_n C rfl rfl ?_
                refine mv_cS C rfl (mv_up R1 rfl) (by decide) rfl (Nat.le_of_ble_eq_true rfl) (Nat.le_refl _) (Nat.le_refl _) rfl ?_
                refine mv_iload_n C rfl rfl ?_
                refine mv_if_eq C rfl (fun c85 => ?_) (fun c85 => ?_)
                · exact absurd c85 (by decide)
                · refine mv_aload_n C rfl rfl ?_
                  refine mv_iload_n C rfl rfl ?_
                  refine mv_iload_n C rfl rfl ?_
                  refine mv_cV C rfl (mv_up R2 rfl) (by decide) rfl rfl rfl (Nat.le_of_ble_eq_true rfl) (Nat.le_refl _) (Nat.le_refl _) rfl ?_
                  refine mv_if_eq C rfl (fun c94 => ?_) (fun c94 => ?_)
                  · refine mv_iconst C rfl ?_
                    exact fin _ (by rw [hl]; rfl)
                  · exact absurd rfl c94
              | true =>
                rw [hl] at R2
                refine mv_aload_n C rfl rfl ?_
                refine mv_getR C rfl rfl rfl ?_
                refine mv_iload_n C rfl rfl ?_
                refine mv_iload_n C rfl rfl ?_
                refine mv_cS C rfl (mv_up R1 rfl) (by decide) rfl (Nat.le_of_ble_eq_true rfl) (Nat.le_refl _) (Nat.le_refl _) rfl ?_
                refine mv_iload_n C rfl rfl ?_
                refine mv_if_eq C rfl (fun c85 => ?_) (fun c85 => ?_)
                · exact absurd c85 (by decide)
                · refine mv_aload_n C rfl rfl ?_
                  refine mv_iload_n C rfl rfl ?_
                  refine mv_iload_n C rfl rfl ?_
                  refine mv_cV C rfl (mv_up R2 rfl) (by decide) rfl rfl rfl (Nat.le_of_ble_eq_true rfl) (Nat.le_refl _) (Nat.le_refl _) rfl ?_
                  refine mv_if_eq C rfl (fun c94 => ?_) (fun c94 => ?_)
                  · exact absurd c94 (by decide)
                  · refine mv_iconst C rfl ?_
                    refine mv_goto C rfl ?_
                    exact fin _ (by rw [hl]; rfl)
          have rl : ∀ (k i : Nat), i + k = u 2 0 → V 47 [some (.ref 68), some (.int (nI t)), some (.int (nI p)), some (.int (b1 (x || kany (fun r => kdp A u G r p t) i))), some (.int (nI i))] [] (mv_E (ky z m (kmg g (u 0 0) G (t + 1) p))) := by
            intro k
            induction k with
            | zero =>
              intro i hi2
              obtain rfl : i = u 2 0 := by omega
              refine mv_iload C rfl rfl ?_
              refine mv_aload_n C rfl rfl ?_
              refine mv_getJ C rfl rfl rfl (hr _) ?_
              refine mv_icmp_ge C rfl (fun c53 => ?_) (fun c53 => ?_)
              · exact store _ _ rfl
              · exact absurd (nI_le (by omega) (by omega)) c53
            | succ k ihr =>
              intro i hi2
              have e2 := ihr (i + 1) (by omega)
              have R3 := r_mayGo z u A G m (kmg g (u 0 0) G (t + 1) p) i p t (by omega) (by omega) (by omega) hi hz hm1
              cases hb : (x || kany (fun r => kdp A u G r p t) i) with
              | true =>
                have hb2 : true = (x || kany (fun r => kdp A u G r p t) (u 2 0)) := by
                  symm
                  rcases Bool.or_eq_true _ _ ▸ hb with q | q
                  · rw [q]; rfl
                  · obtain ⟨j, hj, q2⟩ := kany_t.mp q
                    rw [kany_t.mpr ⟨j, by omega, q2⟩, Bool.or_true]
                refine mv_iload C rfl rfl ?_
                refine mv_aload_n C rfl rfl ?_
                refine mv_getJ C rfl rfl rfl (hr _) ?_
                refine mv_icmp_ge C rfl (fun c53 => ?_) (fun c53 => ?_)
                · exact absurd c53 (nI_ge (by omega) (by omega))
                · refine mv_iload_n C rfl rfl ?_
                  refine mv_if_ne C rfl (fun c57 => ?_) (fun c57 => ?_)
                  · exact store true _ hb2
                  · exact absurd c57 (by decide)
              | false =>
                have e3 : (x || kany (fun r => kdp A u G r p t) (i + 1)) = kdp A u G i p t := by
                  simp only [kany]; rw [← Bool.or_assoc, hb, Bool.false_or]
                rw [e3] at e2
                refine mv_iload C rfl rfl ?_
                refine mv_aload_n C rfl rfl ?_
                refine mv_getJ C rfl rfl rfl (hr _) ?_
                refine mv_icmp_ge C rfl (fun c53 => ?_) (fun c53 => ?_)
                · exact absurd c53 (nI_ge (by omega) (by omega))
                · refine mv_iload_n C rfl rfl ?_
                  refine mv_if_ne C rfl (fun c57 => ?_) (fun c57 => ?_)
                  · exact absurd rfl c57
                  · refine mv_aload_n C rfl rfl ?_
                    refine mv_iload C rfl rfl ?_
                    refine mv_iload_n C rfl rfl ?_
                    refine mv_iload_n C rfl rfl ?_
                    refine mv_cV C rfl R3 (by decide) rfl rfl rfl (Nat.le_of_ble_eq_true rfl) (Nat.le_refl _) (Nat.le_refl _) rfl ?_
                    refine mv_is_n3 C rfl rfl ?_
                    refine mv_inc4 C rfl rfl ?_
                    refine mv_goto C rfl ?_
                    simp only [nI_1]
                    exact e2
          have e2 := rl (u 2 0) 0 (by omega)
          rw [show kany (fun r => kdp A u G r p t) 0 = false from rfl, Bool.or_false, ← hx] at e2
          by_cases h0 : t = 47
          · rw [decide_eq_true h0, Bool.true_or] at e2
            refine mv_iload_n C rfl rfl ?_
            refine mv_aload_n C rfl rfl ?_
            refine mv_getJ C rfl rfl rfl (hn _) ?_
            refine mv_icmp_ge C rfl (fun c14 => ?_) (fun c14 => ?_)
            · exact absurd c14 (nI_ge (by omega) (by omega))
            · refine mv_iload_n C rfl rfl ?_
              refine mv_bipush C rfl ?_
              refine mv_icmp_eq C rfl (fun c20 => ?_) (fun c20 => ?_)
              · refine mv_iconst C rfl ?_
                refine mv_goto C rfl ?_
                refine mv_is_n3 C rfl rfl ?_
                refine mv_iconst C rfl ?_
                refine mv_is4 C rfl rfl ?_
                exact e2
              · exact absurd (by rw [h0]; rfl) c20
          · rw [decide_eq_false h0, Bool.false_or] at e2
            have R4 := r_cell (ky z m (kmg g (u 0 0) G (t + 1) p)) (t + 1) p
            have y1 : (ky z m (kmg g (u 0 0) G (t + 1) p)).1 81 ((t + 1) * 24 + p) = b1 (G (t + 1) p) := hm1 _ _ (by omega) (by omega) (by omega)
            cases hg : G (t + 1) p with
            | true =>
              rw [hg] at y1 e2
              refine mv_iload_n C rfl rfl ?_
              refine mv_aload_n C rfl rfl ?_
              refine mv_getJ C rfl rfl rfl (hn _) ?_
              refine mv_icmp_ge C rfl (fun c14 => ?_) (fun c14 => ?_)
              · exact absurd c14 (nI_ge (by omega) (by omega))
              · refine mv_iload_n C rfl rfl ?_
                refine mv_bipush C rfl ?_
                refine mv_icmp_eq C rfl (fun c20 => ?_) (fun c20 => ?_)
                · exact absurd ((nI_eq (b := 47) (by omega) (by decide)).mp c20) h0
                · refine mv_aload_n C rfl rfl ?_
                  refine mv_getR C rfl rfl rfl ?_
                  refine mv_iload_n C rfl rfl ?_
                  refine mv_iconst C rfl ?_
                  refine mv_iadd C rfl ?_
                  refine mv_top (nI_1 _) ?_
                  refine mv_iload_n C rfl rfl ?_
                  refine mv_cS C rfl (mv_up R4 rfl) (by decide) rfl (Nat.le_of_ble_eq_true rfl) (Nat.le_refl _) (Nat.le_refl _) rfl ?_
                  refine mv_zldJ C rfl rfl rfl (by omega) y1 ?_
                  refine mv_if_eq C rfl (fun c35 => ?_) (fun c35 => ?_)
                  · exact absurd c35 (by decide)
                  · refine mv_iconst C rfl ?_
                    refine mv_goto C rfl ?_
                    refine mv_is_n3 C rfl rfl ?_
                    refine mv_iconst C rfl ?_
                    refine mv_is4 C rfl rfl ?_
                    exact e2
            | false =>
              rw [hg] at y1 e2
              refine mv_iload_n C rfl rfl ?_
              refine mv_aload_n C rfl rfl ?_
              refine mv_getJ C rfl rfl rfl (hn _) ?_
              refine mv_icmp_ge C rfl (fun c14 => ?_) (fun c14 => ?_)
              · exact absurd c14 (nI_ge (by omega) (by omega))
              · refine mv_iload_n C rfl rfl ?_
                refine mv_bipush C rfl ?_
                refine mv_icmp_eq C rfl (fun c20 => ?_) (fun c20 => ?_)
                · exact absurd ((nI_eq (b := 47) (by omega) (by decide)).mp c20) h0
                · refine mv_aload_n C rfl rfl ?_
                  refine mv_getR C rfl rfl rfl ?_
                  refine mv_iload_n C rfl rfl ?_
                  refine mv_iconst C rfl ?_
                  refine mv_iadd C rfl ?_
                  refine mv_top (nI_1 _) ?_
                  refine mv_iload_n C rfl rfl ?_
                  refine mv_cS C rfl (mv_up R4 rfl) (by decide) rfl (Nat.le_of_ble_eq_true rfl) (Nat.le_refl _) (Nat.le_refl _) rfl ?_
                  refine mv_zldJ C rfl rfl rfl (by omega) y1 ?_
                  refine mv_if_eq C rfl (fun c35 => ?_) (fun c35 => ?_)
                  · refine mv_iconst C rfl ?_
                    refine mv_is_n3 C rfl rfl ?_
                    refine mv_iconst C rfl ?_
                    refine mv_is4 C rfl rfl ?_
                    exact e2
                  · exact absurd rfl c35
      refine mv_iload_n C rfl rfl ?_
      refine mv_if_lt C rfl (fun c4 => ?_) (fun c4 => ?_)
      · exact absurd c4 (nI_pos (by omega))
      · refine mv_iconst C rfl ?_
        refine mv_is_n2 C rfl rfl ?_
        exact ploop (u 0 0) 0 (by omega) _ _
  have e := outer 48 (by omega) none none none
  rw [kmg_0] at e
  refine mv_bipush C rfl ?_
  refine mv_is_n1 C rfl rfl ?_
  exact e
end

