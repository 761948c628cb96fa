section
def kB (A : Nat → Bool) (u : hM) (B f : Nat) : Bool := A f && decide (u 12 f ≤ B)
theorem kB_clr (A : Nat → Bool) (u : hM) (B r a t : Nat) (ht : 1 ≤ t) : kclr (kB A u B) u r a t = kclr A u r a (min B (t - 1) + 1) := by
  unfold kclr
  rw [kany_c (fun f _ => ?_)]
  simp only [kbc, kB]
  rw [Bool.and_assoc]
  congr 1
  rw [Bool.eq_iff_iff]
  simp only [Bool.and_eq_true, decide_eq_true_eq]
  omega
theorem kB_let (A : Nat → Bool) (u : hM) (B p t : Nat) : klet (kB A u B) u p t = (decide (B < t) || klet A u p t) := by
  unfold klet
  by_cases h : B < t
  · rw [decide_eq_true h, Bool.true_or, show kany (kbl (kB A u B) u p t) (u 9 0) = false from kany_f.mpr (fun f _ => ?_)]
    · rfl
    · simp only [kbl, kB]
      by_cases e : u 12 f = t
      · rw [decide_eq_false (show ¬ u 12 f ≤ B by omega)]; simp
      · simp [e]
  · rw [decide_eq_false h, Bool.false_or, kany_c (fun f _ => ?_)]
    simp only [kbl, kB]
    by_cases e : u 12 f = t
    · rw [decide_eq_true (show u 12 f ≤ B by omega), Bool.and_true]
    · simp [e]
theorem kcm_o {A : Nat → Bool} {u : hM} {R : Nat → Nat → Bool} {r p t : Nat} (h : ¬ u 3 r = u 4 r) : kcm A u R r p t = (decide (u 6 r = 0 ∧ 1 ≤ u 5 r ∧ u 5 r ≤ t) && (decide (¬ kot u r p = 0) && R (t - u 5 r) (kot u r p - 1)) && kclr A u r (t - u 5 r + 1) t) := by
  unfold kcm kot
  by_cases h3 : u 3 r = p
  · have h4 : ¬ u 4 r = p := fun q => h (by omega)
    simp [h3, h4]
  · by_cases h4 : u 4 r = p <;> simp [h3, h4]
theorem kot_lt {u : hM} {r p : Nat} (hi : hI u) (hr : r < u 2 0) : kot u r p ≤ u 0 0 := by
  obtain ⟨q1, q2, q3, q4, q5⟩ := hi.2.2.2.1 r hr
  unfold kot
  split
  · omega
  · split <;> omega
theorem r_mayCome (z : mv_Z) (u : hM) (A : Nat → Bool) (R : Nat → Nat → Bool) (m g : Nat → Int32) (r p t B : Nat) (hr : r < u 2 0) (hp : p < 24) (ht : t < 48) (hB : B ≤ 48) (hi : hI u) (hz : mH u A z) (hm : ∀ t1 p1, t1 < t → p1 < u 0 0 → m (t1 * 24 + p1) = b1 (R t1 p1)) : mv_Runs 3 133 [.ref 68, .int (nI r), .int (nI p), .int (nI t), .int (nI B)] (mv_E (ky z m g)) (some (.int (b1 (kcm (kB A u B) u R r p t)))) (mv_E (ky z m g)) := by
  have h240 := hi.2.2.1
  have h24 := hi.1
  obtain ⟨q1, q2, q3, q4, q5⟩ := hi.2.2.2.1 r hr
  have q6 := hi.2.2.2.2.1 r
  have hz1 := mH_y hz m g
  obtain ⟨y1, y2, y3, y4⟩ := hz1.2.2.2.2.1 r
  have R1 := r_other (ky z m g) u A r p hr (by omega) hi hz1
  have hk := kot_lt (p := p) hi hr
  rw [kcm_o q3]
  by_cases ho : kot u r p = 0
  · rw [ho] at R1
    have ev : b1 (decide (u 6 r = 0 ∧ 1 ≤ u 5 r ∧ u 5 r ≤ t) && (decide (¬ kot u r p = 0) && R (t - u 5 r) (kot u r p - 1)) && kclr (kB A u B) u r (t - u 5 r + 1) t) = 0 := by rw [b1_0]; simp [ho]
    rw [ev]
    refine mv_start pX11_mayCome (some .boolean) [some (.ref 68), some (.int (nI r)), some (.int (nI p)), some (.int (nI t)), some (.int (nI B)), none, none] rfl rfl rfl rfl (fun V C => ?_)
    refine mv_aload_n C rfl rfl ?_
    refine mv_iload_n C rfl rfl ?_
    refine mv_iload_n C rfl rfl ?_
    refine mv_cV C rfl (mv_up R1 rfl) (by decide) rfl rfl rfl (Nat.le_of_ble_eq_true rfl) (Nat.le_refl _) (Nat.le_refl _) rfl ?_
    refine mv_is5 C rfl rfl ?_
    refine mv_iload_n C rfl rfl ?_
    refine mv_aload_n C rfl rfl ?_
    refine mv_getR C rfl rfl rfl ?_
    refine mv_iload_n C rfl rfl ?_
    refine mv_ald C rfl rfl rfl (by omega) ?_
    refine mv_isub C rfl ?_
    refine mv_is6 C rfl rfl ?_
    refine mv_iload C rfl rfl ?_
    refine mv_if_lt C rfl (fun c20 => ?_) (fun c20 => ?_)
    · refine mv_iconst C rfl ?_
      refine mv_ireturn C rfl mv_okZ0 ?_ ?_
      all_goals rfl
    · exact absurd (by decide) c20
  · obtain ⟨q, hq⟩ : ∃ q, kot u r p = q + 1 := ⟨kot u r p - 1, by omega⟩
    rw [hq] at R1
    rw [hq]
    simp only [Nat.add_sub_cancel, show (¬ q + 1 = 0) = True by simp, decide_true, Bool.true_and]
    by_cases h6 : u 6 r = 0
    · by_cases h5 : u 5 r ≤ t
      · rw [decide_eq_true (⟨h6, q4, h5⟩ : u 6 r = 0 ∧ 1 ≤ u 5 r ∧ u 5 r ≤ t), Bool.true_and]
        have R2 := r_cell (ky z m g) (t - u 5 r) q
        have y5 : (ky z m g).1 80 ((t - u 5 r) * 24 + q) = b1 (R (t - u 5 r) q) := hm _ _ (by omega) (by omega)
        cases hR : R (t - u 5 r) q with
        | false =>
          rw [hR] at y5
          refine mv_start pX11_mayCome (some .boolean) [some (.ref 68), some (.int (nI r)), some (.int (nI p)), some (.int (nI t)), some (.int (nI B)), none, none] rfl rfl rfl rfl (fun V C => ?_)
          refine mv_aload_n C rfl rfl ?_
          refine mv_iload_n C rfl rfl ?_
          refine mv_iload_n C rfl rfl ?_
          refine mv_cV C rfl (mv_up R1 rfl) (by decide) rfl rfl rfl (Nat.le_of_ble_eq_true rfl) (Nat.le_refl _) (Nat.le_refl _) rfl ?_
          refine mv_is5 C rfl rfl ?_
          refine mv_iload_n C rfl rfl ?_
          refine mv_aload_n C rfl rfl ?_
          refine mv_getR C rfl rfl rfl ?_
          refine mv_iload_n C rfl rfl ?_
          refine mv_aldJ C rfl rfl rfl (by omega) y3 ?_
          refine mv_isub C rfl ?_
          refine mv_top (pk_sub h5) ?_
          refine mv_is6 C rfl rfl ?_
          refine mv_iload C rfl rfl ?_
          refine mv_if_lt C rfl (fun c20 => ?_) (fun c20 => ?_)
          · exact absurd c20 (nI_pos (by omega))
          · refine mv_aload_n C rfl rfl ?_
            refine mv_getR C rfl rfl rfl ?_
            refine mv_iload_n C rfl rfl ?_
            refine mv_zldJ C rfl rfl rfl (by omega) y4 ?_
            refine mv_if_ne C rfl (fun c29 => ?_) (fun c29 => ?_)
            · exact absurd (by rw [h6]; rfl) c29
            · refine mv_iload C rfl rfl ?_
              refine mv_if_lt C rfl (fun c34 => ?_) (fun c34 => ?_)
              · exact absurd c34 (nI_pos (by omega))
              · refine mv_aload_n C rfl rfl ?_
                refine mv_getR C rfl rfl rfl ?_
                refine mv_iload C rfl rfl ?_
                refine mv_iload C rfl rfl ?_
                refine mv_cS C rfl (mv_up R2 rfl) (by decide) rfl (Nat.le_of_ble_eq_true rfl) (Nat.le_refl _) (Nat.le_refl _) rfl ?_
                refine mv_zldJ C rfl rfl rfl (by omega) y5 ?_
                refine mv_if_eq C rfl (fun c49 => ?_) (fun c49 => ?_)
                · refine mv_iconst C rfl ?_
                  refine mv_ireturn C rfl mv_okZ0 ?_ ?_
                  all_goals rfl
                · exact absurd rfl c49
        | true =>
          rw [hR] at y5
          rw [kB_clr A u B r _ t (by omega), Bool.true_and]
          have R3 := r_mIsClear (ky z m g) u A r (t - u 5 r + 1) (min B (t - 1)) (by omega) (by omega) (by omega) hi hz1
          have em : (if nI (t - 1) < nI B then nI (t - 1) else nI B) = nI (min B (t - 1)) := by
            rcases Nat.lt_or_ge (t - 1) B with q | q
            · rw [if_pos (nI_lt q (by omega)), Nat.min_eq_right (by omega)]
            · rw [if_neg (nI_nlt q (by omega)), Nat.min_eq_left q]
          generalize kclr A u r (t - u 5 r + 1) (min B (t - 1) + 1) = b at *
          cases b with
          | true =>
            refine mv_start pX11_mayCome (some .boolean) [some (.ref 68), some (.int (nI r)), some (.int (nI p)), some (.int (nI t)), some (.int (nI B)), none, none] rfl rfl rfl rfl (fun V C => ?_)
            refine mv_aload_n C rfl rfl ?_
            refine mv_iload_n C rfl rfl ?_
            refine mv_iload_n C rfl rfl ?_
            refine mv_cV C rfl (mv_up R1 rfl) (by decide) rfl rfl rfl (Nat.le_of_ble_eq_true rfl) (Nat.le_refl _) (Nat.le_refl _) rfl ?_
            refine mv_is5 C rfl rfl ?_
            refine mv_iload_n C rfl rfl ?_
            refine mv_aload_n C rfl rfl ?_
            refine mv_getR C rfl rfl rfl ?_
            refine mv_iload_n C rfl rfl ?_
            refine mv_aldJ C rfl rfl rfl (by omega) y3 ?_
            refine mv_isub C rfl ?_
            refine mv_top (pk_sub h5) ?_
            refine mv_is6 C rfl rfl ?_
            refine mv_iload C rfl rfl ?_
            refine mv_if_lt C rfl (fun c20 => ?_) (fun c20 => ?_)
            · exact absurd c20 (nI_pos (by omega))
            · refine mv_aload_n C rfl rfl ?_
              refine mv_getR C rfl rfl rfl ?_
              refine mv_iload_n C rfl rfl ?_
              refine mv_zldJ C rfl rfl rfl (by omega) y4 ?_
              refine mv_if_ne C rfl (fun c29 => ?_) (fun c29 => ?_)
              · exact absurd (by rw [h6]; rfl) c29
              · refine mv_iload C rfl rfl ?_
                refine mv_if_lt C rfl (fun c34 => ?_) (fun c34 => ?_)
                · exact absurd c34 (nI_pos (by omega))
                · refine mv_aload_n C rfl rfl ?_
                  refine mv_getR C rfl rfl rfl ?_
                  refine mv_iload C rfl rfl ?_
                  refine mv_iload C rfl rfl ?_
                  refine mv_cS C rfl (mv_up R2 rfl) (by decide) rfl (Nat.le_of_ble_eq_true rfl) (Nat.le_refl _) (Nat.le_refl _) rfl ?_
                  refine mv_zldJ C rfl rfl rfl (by omega) y5 ?_
                  refine mv_if_eq C rfl (fun c49 => ?_) (fun c49 => ?_)
                  · exact absurd c49 (by decide)
                  · refine mv_aload_n C rfl rfl ?_
                    refine mv_iload_n C rfl rfl ?_
                    refine mv_iload C rfl rfl ?_
                    refine mv_iconst C rfl ?_
                    refine mv_iadd C rfl ?_
                    refine mv_top (nI_1 _) ?_
                    refine mv_iload C rfl rfl ?_
                    refine mv_iload_n C rfl rfl ?_
                    refine mv_iconst C rfl ?_
                    refine mv_isub C rfl ?_
                    refine mv_top (pk_sub (b := 1) (by omega)) ?_
                    refine mv_mmin C rfl rfl (Nat.le_of_ble_eq_true rfl) ?_
                    refine mv_top em ?_
                    refine mv_cV C rfl R3 (by decide) rfl rfl rfl (Nat.le_of_ble_eq_true rfl) (Nat.le_refl _) (Nat.le_refl _) rfl ?_
                    refine mv_if_eq C rfl (fun c69 => ?_) (fun c69 => ?_)
                    · exact absurd c69 (by decide)
                    · refine mv_iconst C rfl ?_
                      refine mv_goto C rfl ?_
                      refine mv_ireturn C rfl mv_okZ1 ?_ ?_
                      all_goals rfl
          | false =>
            refine mv_start pX11_mayCome (some .boolean) [some (.ref 68), some (.int (nI r)), some (.int (nI p)), some (.int (nI t)), some (.int (nI B)), none, none] rfl rfl rfl rfl (fun V C => ?_)
            refine mv_aload_n C rfl rfl ?_
            refine mv_iload_n C rfl rfl ?_
            refine mv_iload_n C rfl rfl ?_
            refine mv_cV C rfl (mv_up R1 rfl) (by decide) rfl rfl rfl (Nat.le_of_ble_eq_true rfl) (Nat.le_refl _) (Nat.le_refl _) rfl ?_
            refine mv_is5 C rfl rfl ?_
            refine mv_iload_n C rfl rfl ?_
            refine mv_aload_n C rfl rfl ?_
            refine mv_getR C rfl rfl rfl ?_
            refine mv_iload_n C rfl rfl ?_
            refine mv_aldJ C rfl rfl rfl (by omega) y3 ?_
            refine mv_isub C rfl ?_
            refine mv_top (pk_sub h5) ?_
            refine mv_is6 C rfl rfl ?_
            refine mv_iload C rfl rfl ?_
            refine mv_if_lt C rfl (fun c20 => ?_) (fun c20 => ?_)
            · exact absurd c20 (nI_pos (by omega))
            · refine mv_aload_n C rfl rfl ?_
              refine mv_getR C rfl rfl rfl ?_
              refine mv_iload_n C rfl rfl ?_
              refine mv_zldJ C rfl rfl rfl (by omega) y4 ?_
              refine mv_if_ne C rfl (fun c29 => ?_) (fun c29 => ?_)
              · exact absurd (by rw [h6]; rfl) c29
              · refine mv_iload C rfl rfl ?_
                refine mv_if_lt C rfl (fun c34 => ?_) (fun c34 => ?_)
                · exact absurd c34 (nI_pos (by omega))
                · refine mv_aload_n C rfl rfl ?_
                  refine mv_getR C rfl rfl rfl ?_
                  refine mv_iload C rfl rfl ?_
                  refine mv_iload C rfl rfl ?_
                  refine mv_cS C rfl (mv_up R2 rfl) (by decide) rfl (Nat.le_of_ble_eq_true rfl) (Nat.le_refl _) (Nat.le_refl _) rfl ?_
                  refine mv_zldJ C rfl rfl rfl (by omega) y5 ?_
                  refine mv_if_eq C rfl (fun c49 => ?_) (fun c49 => ?_)
                  · exact absurd c49 (by decide)
                  · refine mv_aload_n C rfl rfl ?_
                    refine mv_iload_n C rfl rfl ?_
                    refine mv_iload C rfl rfl ?_
                    refine mv_iconst C rfl ?_
                    refine mv_iadd C rfl ?_
                    refine mv_top (nI_1 _) ?_
                    refine mv_iload C rfl rfl ?_
                    refine mv_iload_n C rfl rfl ?_
                    refine mv_iconst C rfl ?_
                    refine mv_isub C rfl ?_
                    refine mv_top (pk_sub (b := 1) (by omega)) ?_
                    refine mv_mmin C rfl rfl (Nat.le_of_ble_eq_true rfl) ?_
                    refine mv_top em ?_
                    refine mv_cV C rfl R3 (by decide) rfl rfl rfl (Nat.le_of_ble_eq_true rfl) (Nat.le_refl _) (Nat.le_refl _) rfl ?_
                    refine mv_if_eq C rfl (fun c69 => ?_) (fun c69 => ?_)
                    · refine mv_iconst C rfl ?_
                      refine mv_ireturn C rfl mv_okZ0 ?_ ?_
                      all_goals rfl
                    · exact absurd rfl c69
      · rw [decide_eq_false (fun q : u 6 r = 0 ∧ 1 ≤ u 5 r ∧ u 5 r ≤ t => h5 q.2.2), Bool.false_and, Bool.false_and]
        refine mv_start pX11_mayCome (some .boolean) [some (.ref 68), some (.int (nI r)), some (.int (nI p)), some (.int (nI t)), some (.int (nI B)), none, none] rfl rfl rfl rfl (fun V C => ?_)
        refine mv_aload_n C rfl rfl ?_
        refine mv_iload_n C rfl rfl ?_
        refine mv_iload_n C rfl rfl ?_
        refine mv_cV C rfl (mv_up R1 rfl) (by decide) rfl rfl rfl (Nat.le_of_ble_eq_true rfl) (Nat.le_refl _) (Nat.le_refl _) rfl ?_
        refine mv_is5 C rfl rfl ?_
        refine mv_iload_n C rfl rfl ?_
        refine mv_aload_n C rfl rfl ?_
        refine mv_getR C rfl rfl rfl ?_
        refine mv_iload_n C rfl rfl ?_
        refine mv_aldJ C rfl rfl rfl (by omega) y3 ?_
        refine mv_isub C rfl ?_
        refine mv_is6 C rfl rfl ?_
        refine mv_iload C rfl rfl ?_
        refine mv_if_lt C rfl (fun c20 => ?_) (fun c20 => ?_)
        · exact absurd c20 (nI_pos (by omega))
        · refine mv_aload_n C rfl rfl ?_
          refine mv_getR C rfl rfl rfl ?_
          refine mv_iload_n C rfl rfl ?_
          refine mv_zldJ C rfl rfl rfl (by omega) y4 ?_
          refine mv_if_ne C rfl (fun c29 => ?_) (fun c29 => ?_)
          · exact absurd (by rw [h6]; rfl) c29
          · refine mv_iload C rfl rfl ?_
            refine mv_if_lt C rfl (fun c34 => ?_) (fun c34 => ?_)
            · refine mv_iconst C rfl ?_
              refine mv_ireturn C rfl mv_okZ0 ?_ ?_
              all_goals rfl
            · exact absurd (nI_neg t ht (u 5 r) (by omega) (by omega)) c34
    · rw [decide_eq_false (fun q : u 6 r = 0 ∧ 1 ≤ u 5 r ∧ u 5 r ≤ t => h6 q.1), Bool.false_and, Bool.false_and]
      have h61 : u 6 r = 1 := by omega
      refine mv_start pX11_mayCome (some .boolean) [some (.ref 68), some (.int (nI r)), some (.int (nI p)), some (.int (nI t)), some (.int (nI B)), none, none] rfl rfl rfl rfl (fun V C => ?_)
      refine mv_aload_n C rfl rfl ?_
      refine mv_iload_n C rfl rfl ?_
      refine mv_iload_n C rfl rfl ?_
      refine mv_cV C rfl (mv_up R1 rfl) (by decide) rfl rfl rfl (Nat.le_of_ble_eq_true rfl) (Nat.le_refl _) (Nat.le_refl _) rfl ?_
      refine mv_is5 C rfl rfl ?_
      refine mv_iload_n C rfl rfl ?_
      refine mv_aload_n C rfl rfl ?_
      refine mv_getR C rfl rfl rfl ?_
      refine mv_iload_n C rfl rfl ?_
      refine mv_aldJ C rfl rfl rfl (by omega) y3 ?_
      refine mv_isub C rfl ?_
      refine mv_is6 C rfl rfl ?_
      refine mv_iload C rfl rfl ?_
      refine mv_if_lt C rfl (fun c20 => ?_) (fun c20 => ?_)
      · exact absurd c20 (nI_pos (by omega))
      · refine mv_aload_n C rfl rfl ?_
        refine mv_getR C rfl rfl rfl ?_
        refine mv_iload_n C rfl rfl ?_
        refine mv_zldJ C rfl rfl rfl (by omega) y4 ?_
        refine mv_if_ne C rfl (fun c29 => ?_) (fun c29 => ?_)
        · refine mv_iconst C rfl ?_
          refine mv_ireturn C rfl mv_okZ0 ?_ ?_
          all_goals rfl
        · (rw [h61] at c29; exact absurd c29 (by decide))
/-- a table hour by hour, filled up to hour t, parish p -/
def kmt (m : Nat → Int32) (n : Nat) (R : Nat → Nat → Bool) (t p : Nat) : Nat → Int32 := fun i => if i % 24 < n ∧ (i / 24 < t ∨ i / 24 = t ∧ i % 24 < p) then b1 (R (i / 24) (i % 24)) else m i
theorem kmt_s (m : Nat → Int32) (n : Nat) (R : Nat → Nat → Bool) (t p : Nat) (hp : p < n) (hn : n ≤ 24) : upd (kmt m n R t p) (t * 24 + p) (b1 (R t p)) = kmt m n R t (p + 1) := by
  funext i
  unfold upd kmt
  by_cases e : i = t * 24 + p
  · rw [if_pos e, if_pos (by omega), show i / 24 = t by omega, show i % 24 = p by omega]
  · rw [if_neg e]
    by_cases h : i % 24 < n ∧ (i / 24 < t ∨ i / 24 = t ∧ i % 24 < p)
    · rw [if_pos h, if_pos (by omega)]
    · rw [if_neg h, if_neg (by omega)]
theorem kmt_n (m : Nat → Int32) (n : Nat) (R : Nat → Nat → Bool) (t : Nat) : kmt m n R t n = kmt m n R (t + 1) 0 := by
  funext i
  unfold kmt
  by_cases h : i % 24 < n ∧ (i / 24 < t ∨ i / 24 = t ∧ i % 24 < n)
  · rw [if_pos h, if_pos (by omega)]
  · rw [if_neg h, if_neg (by omega)]
theorem kmt_0 (m : Nat → Int32) (n : Nat) (R : Nat → Nat → Bool) : kmt m n R 0 0 = m := by
  funext i; unfold kmt; rw [if_neg (by omega)]
theorem kmt_i {m : Nat → Int32} {n : Nat} {R : Nat → Nat → Bool} {t p t1 p1 : Nat} (hn : n ≤ 24) (h1 : p1 < n) (h : t1 < t ∨ t1 = t ∧ p1 < p) : kmt m n R t p (t1 * 24 + p1) = b1 (R t1 p1) := by
  unfold kmt
  rw [if_pos (by omega), show (t1 * 24 + p1) / 24 = t1 by omega, show (t1 * 24 + p1) % 24 = p1 by omega]
end

