section
def kbw (w : Nat → Bool) (B U t p : Nat) : Bool := w p && decide (B ≤ t ∧ t ≤ U)
theorem hb_01 (x : Int32) : x &&& 1 = 0 ∨ x &&& 1 = 1 := by
  cases h : hbit x 0 with
  | true => exact Or.inr (hb_ext (fun i hi => by rw [hb_and, hb_1 i hi]; by_cases e : i = 0 <;> simp [e, h]))
  | false => exact Or.inl (hb_ext (fun i hi => by rw [hb_and, hb_1 i hi, hb_0]; by_cases e : i = 0 <;> simp [e, h]))
theorem nI_hst {p s : Nat} (hp : p < 100) (hs : s < 100) : nI p = hst s ↔ s = p + 1 := by
  cases s with
  | zero => simp only [hst]; exact ⟨fun h => absurd h (nI_nm1 (by omega)), fun h => by omega⟩
  | succ n => simp only [hst]; rw [nI_eq (by omega) (by omega)]; omega
theorem k_bit1 {g : Nat → Bool} {p : Nat} (hp : p < 32) : (kb g >>> (nI p &&& 31)) &&& 1 = b1 (g p) := by
  have h1 := kb_has (g := g) hp
  have h2 := hb_01 (kb g >>> (nI p &&& 31))
  cases hg : g p with
  | true => rw [hg] at h1; exact h2.resolve_left (fun q => absurd (h1.mp q) (by decide))
  | false => exact h1.mpr hg
theorem kst_0 {A : Nat → Bool} {u : hM} {R : Nat → Nat → Bool} {p : Nat} (b : Bool) : (b || kany (fun r => kcm A u R r p 0) (u 2 0)) = b := by
  rw [show kany (fun r => kcm A u R r p 0) (u 2 0) = false from kany_f.mpr (fun r _ => ?_), Bool.or_false]
  unfold kcm; rw [decide_eq_false (by omega)]; rfl
theorem r_walks (z : mv_Z) (u : hM) (A w : Nat → Bool) (m g : Nat → Int32) (B U : Nat) (hB : B ≤ 48) (hU : U < 48) (hi : hI u) (hz : mH u A z) : mv_Runs 4 134 [.ref 68, .int (nI B), .int (kb w), .int (nI U)] (mv_E (ky z m g)) none (mv_E (ky z (kmt m (u 0 0) (kR (kB A u B) u (kbw w B U)) 48 0) g)) := by
  have h24 := hi.1
  have h240 := hi.2.2.1
  have hn : ∀ m, (ky z m g).1 68 1 = nI (u 0 0) := fun m => hz.1
  have hr : ∀ m, (ky z m g).1 68 4 = nI (u 2 0) := fun m => hz.2.1
  have hs : ∀ m, (ky z m g).1 68 9 = hst (u 8 0) := fun m => hz.2.2.2.1
  have hst8 : u 8 0 ≤ u 0 0 := hi.2.2.2.2.2.2.1
  generalize hR : kR (kB A u B) u (kbw w B U) = R
  refine mv_start pX11_walks none [some (.ref 68), some (.int (nI B)), some (.int (kb w)), some (.int (nI U)), none, none, none, none] rfl rfl rfl rfl (fun V C => ?_)
  have outer : ∀ (k t : Nat), t + k = 48 → ∀ w5 w6 w7 : Option Value, V 3 [some (.ref 68), some (.int (nI B)), some (.int (kb w)), some (.int (nI U)), some (.int (nI t)), w5, w6, w7] [] (mv_E (ky z (kmt m (u 0 0) R t 0) g)) := by
    intro k
    induction k with
    | zero =>
      intro t ht w5 w6 w7
      obtain rfl : t = 48 := by omega
      refine mv_iload C rfl rfl ?_
      refine mv_bipush C rfl ?_
      refine mv_icmp_ge C rfl (fun c7 => ?_) (fun c7 => ?_)
      · refine mv_return_ C rfl rfl ?_ ?_
        all_goals rfl
      · exact absurd (nI_le (a := 48) (by omega) (by omega)) c7
    | succ k ih =>
      intro t ht w5 w6 w7
      have e := ih (t + 1) (by omega)
      rw [← kmt_n] at e
      have ploop : ∀ (k p : Nat), p + k = u 0 0 → ∀ w6 w7 : Option Value, V 13 [some (.ref 68), some (.int (nI B)), some (.int (kb w)), some (.int (nI U)), some (.int (nI t)), some (.int (nI p)), w6, w7] [] (mv_E (ky z (kmt m (u 0 0) R t p) g)) := by
        intro k
        induction k with
        | zero =>
          intro p hp w6 w7
          obtain rfl : p = u 0 0 := by omega
          refine mv_iload C rfl rfl ?_
          refine mv_aload_n C rfl rfl ?_
          refine mv_getJ C rfl rfl rfl (hn _) ?_
          refine mv_icmp_ge C rfl (fun c19 => ?_) (fun c19 => ?_)
          · refine mv_inc4 C rfl rfl ?_
            refine mv_goto C rfl ?_
            simp only [nI_1]
            exact e _ _ _
          · exact absurd (nI_le (by omega) (by omega)) c19
        | succ k ihp =>
          intro p hp w6 w7
          have e1 := ihp (p + 1) (by omega)
          rw [← kmt_s _ _ _ _ _ (by omega) h24] at e1
          have hz1 : mH u A (ky z (kmt m (u 0 0) R t p) g) := mH_y hz _ _
          have hm1 : ∀ t1 p1, t1 < t → p1 < u 0 0 → kmt m (u 0 0) R t p (t1 * 24 + p1) = b1 (R t1 p1) := fun t1 p1 h1 h2 => kmt_i h24 h2 (Or.inl h1)
          have R1 := r_cell (ky z (kmt m (u 0 0) R t p) g) t p
          have R2 := r_letsIn (ky z (kmt m (u 0 0) R t p) g) u A p t (by omega) (by omega) hi hz1
          have hRt : R t p = (kst (kB A u B) u R t p && !kbw w B U t p) := by rw [← hR]; exact kR_eq _ _ _ _ _
          generalize hx : (if t = 0 then decide (u 8 0 = p + 1) else R (t - 1) p) = x
          have hks : kst (kB A u B) u R t p = ((x || kany (fun r => kcm (kB A u B) u R r p t) (u 2 0)) && (decide (B < t) || klet A u p t)) := by
            unfold kst
            rw [kB_let, ← hx]
            by_cases h0 : t = 0
            · subst h0; rw [if_pos rfl, if_pos rfl, kst_0]
            · rw [if_neg h0, if_neg h0]
          have store : ∀ (y : Bool) (w7 : Option Value), y = kst (kB A u B) u R t p → V 125 [some (.ref 68), some (.int (nI B)), some (.int (kb w)), some (.int (nI U)), some (.int (nI t)), some (.int (nI p)), some (.int (b1 y)), w7] [] (mv_E (ky z (kmt m (u 0 0) R t p) g)) := by
            intro y w7 hy
            have fin : ∀ v : Int32, v = b1 (R t p) → V 168 [some (.ref 68), some (.int (nI B)), some (.int (kb w)), some (.int (nI U)), some (.int (nI t)), some (.int (nI p)), some (.int (b1 y)), w7] [.int v, .int (nI (t * 24 + p)), .ref 80] (mv_E (ky z (kmt m (u 0 0) R t p) g)) := by
              intro v hv
              subst hv
              refine mv_zst C rfl rfl rfl (by omega) b1_1 ?_
              refine mv_sto ky_u80 ?_
              refine mv_inc5 C rfl rfl ?_
              refine mv_goto C rfl ?_
              simp only [nI_1]
              exact e1 _ _
            rw [hRt, ← hy] at fin
            clear hks hRt ihp e1 hm1 R2 hz1
            cases y with
            | false =>
              refine mv_aload_n C rfl rfl ?_
              refine mv_getR C rfl rfl rfl ?_
              refine mv_iload C rfl rfl ?_
              refine mv_iload C rfl rfl ?_
              refine mv_cS C rfl (mv_up R1 rfl) (by decide) rfl (Nat.le_of_ble_eq_true rfl) (Nat.le_refl _) (Nat.le_refl _) rfl ?_
              refine mv_iload C rfl rfl ?_
              refine mv_if_eq C rfl (fun c138 => ?_) (fun c138 => ?_)
              · refine mv_iconst C rfl ?_
                exact fin _ rfl
              · exact absurd rfl c138
            | true =>
              cases hw : w p with
              | false =>
                refine mv_aload_n C rfl rfl ?_
                refine mv_getR C rfl rfl rfl ?_
                refine mv_iload C rfl rfl ?_
                refine mv_iload C rfl rfl ?_
                refine mv_cS C rfl (mv_up R1 rfl) (by decide) rfl (Nat.le_of_ble_eq_true rfl) (Nat.le_refl _) (Nat.le_refl _) rfl ?_
                refine mv_iload C rfl rfl ?_
                refine mv_if_eq C rfl (fun c138 => ?_) (fun c138 => ?_)
                · exact absurd c138 (by decide)
                · refine mv_iload_n C rfl rfl ?_
                  refine mv_iload C rfl rfl ?_
                  refine mv_ishr C rfl ?_
                  refine mv_iconst C rfl ?_
                  refine mv_iand C rfl ?_
                  refine mv_top (k_bit1 (by omega)) ?_
                  rw [hw]
                  refine mv_iconst C rfl ?_
                  refine mv_icmp_ne C rfl (fun c148 => ?_) (fun c148 => ?_)
                  · refine mv_iconst C rfl ?_
                    refine mv_goto C rfl ?_
                    exact fin _ (by simp [kbw, hw]; rfl)
                  · exact absurd c148 (by decide)
              | true =>
                refine mv_aload_n C rfl rfl ?_
                refine mv_getR C rfl rfl rfl ?_
                refine mv_iload C rfl rfl ?_
                refine mv_iload C rfl rfl ?_
                refine mv_cS C rfl (mv_up R1 rfl) (by decide) rfl (Nat.le_of_ble_eq_true rfl) (Nat.le_refl _) (Nat.le_refl _) rfl ?_
                refine mv_iload C rfl rfl ?_
                refine mv_if_eq C rfl (fun c138 => ?_) (fun c138 => ?_)
                · exact absurd c138 (by decide)
                · try simp only [b01, b10, Classical.not_not] at c138
                  try simp (disch := omega) only [lit_0, lit_1, lit_2, lit_3, lit_4, lit_5, lit_6, lit_7, lit_8, lit_9, lit_10, lit_11, lit_12, lit_23, lit_24, lit_30, lit_31, lit_32, lit_39, lit_40, lit_41, lit_46, lit_47, lit_48, lit_96, lit_99, lit_100, lit_255, lit_999, lit_1000, lit_2024, lit_32767, lit_1000000, nI_ltI, nI_leI, nI_eq, Nat.not_lt, Nat.not_le] at c138
                  try simp only [unl_0, unl_1, unl_2, unl_3, unl_4, unl_5, unl_6, unl_7, unl_8, unl_9, unl_10, unl_11, unl_12, unl_23, unl_24, unl_30, unl_31, unl_32, unl_39, unl_40, unl_41, unl_46, unl_47, unl_48, unl_96, unl_99, unl_100, unl_255, unl_999, unl_1000, unl_2024, unl_32767, unl_1000000] at c138
                  refine mv_iload_n C rfl rfl ?_
                  refine mv_iload C rfl rfl ?_
                  refine mv_ishr C rfl ?_
                  refine mv_iconst C rfl ?_
                  refine mv_iand C rfl ?_
                  refine mv_top (k_bit1 (by omega)) ?_
                  rw [hw]
                  refine mv_iconst C rfl ?_
                  refine mv_icmp_ne C rfl (fun c148 => ?_) (fun c148 => ?_)
                  · exact absurd rfl c148
                  · try simp only [b01, b10, Classical.not_not] at c148
                    try simp (disch := omega) only [lit_0, lit_1, lit_2, lit_3, lit_4, lit_5, lit_6, lit_7, lit_8, lit_9, lit_10, lit_11, lit_12, lit_23, lit_24, lit_30, lit_31, lit_32, lit_39, lit_40, lit_41, lit_46, lit_47, lit_48, lit_96, lit_99, lit_100, lit_255, lit_999, lit_1000, lit_2024, lit_32767, lit_1000000, nI_ltI, nI_leI, nI_eq, Nat.not_lt, Nat.not_le] at c148
                    try simp only [unl_0, unl_1, unl_2, unl_3, unl_4, unl_5, unl_6, unl_7, unl_8, unl_9, unl_10, unl_11, unl_12, unl_23, unl_24, unl_30, unl_31, unl_32, unl_39, unl_40, unl_41, unl_46, unl_47, unl_48, unl_96, unl_99, unl_100, unl_255, unl_999, unl_1000, unl_2024, unl_32767, unl_1000000] at c148
                    refine mv_iload C rfl rfl ?_
                    refine mv_iload_n C rfl rfl ?_
                    refine mv_icmp_lt C rfl (fun c154 => ?_) (fun c154 => ?_)
                    · try simp only [b01, b10, Classical.not_not] at c154
                      try simp (disch := omega) only [lit_0, lit_1, lit_2, lit_3, lit_4, lit_5, lit_6, lit_7, lit_8, lit_9, lit_10, lit_11, lit_12, lit_23, lit_24, lit_30, lit_31, lit_32, lit_39, lit_40, lit_41, lit_46, lit_47, lit_48, lit_96, lit_99, lit_100, lit_255, lit_999, lit_1000, lit_2024, lit_32767, lit_1000000, nI_ltI, nI_leI, nI_eq, Nat.not_lt, Nat.not_le] at c154
                      try simp only [unl_0, unl_1, unl_2, unl_3, unl_4, unl_5, unl_6, unl_7, unl_8, unl_9, unl_10, unl_11, unl_12, unl_23, unl_24, unl_30, unl_31, unl_32, unl_39, unl_40, unl_41, unl_46, unl_47, unl_48, unl_96, unl_99, unl_100, unl_255, unl_999, unl_1000, unl_2024, unl_32767, unl_1000000] at c154
                      refine mv_iconst C rfl ?_
                      refine mv_goto C rfl ?_
                      refine fin _ ?_
                      simp only [kbw, hw, Bool.true_and]
                      first | (rw [decide_eq_true (show B ≤ t ∧ t ≤ U by omega)]; rfl) | (rw [decide_eq_false (show ¬ (B ≤ t ∧ t ≤ U) by omega)]; rfl)
                    · try simp only [b01, b10, Classical.not_not] at c154
                      try simp (disch := omega) only [lit_0, lit_1, lit_2, lit_3, lit_4, lit_5, lit_6, lit_7, lit_8, lit_9, lit_10, lit_11, lit_12, lit_23, lit_24, lit_30, lit_31, lit_32, lit_39, lit_40, lit_41, lit_46, lit_47, lit_48, lit_96, lit_99, lit_100, lit_255, lit_999, lit_1000, lit_2024, lit_32767, lit_1000000, nI_ltI, nI_leI, nI_eq, Nat.not_lt, Nat.not_le] at c154
                      try simp only [unl_0, unl_1, unl_2, unl_3, unl_4, unl_5, unl_6, unl_7, unl_8, unl_9, unl_10, unl_11, unl_12, unl_23, unl_24, unl_30, unl_31, unl_32, unl_39, unl_40, unl_41, unl_46, unl_47, unl_48, unl_96, unl_99, unl_100, unl_255, unl_999, unl_1000, unl_2024, unl_32767, unl_1000000] at c154
                      refine mv_iload C rfl rfl ?_
                      refine mv_iload_n C rfl rfl ?_
                      refine mv_icmp_le C rfl (fun c160 => ?_) (fun c160 => ?_)
                      · try simp only [b01, b10, Classical.not_not] at c160
                        try simp (disch := omega) only [lit_0, lit_1, lit_2, lit_3, lit_4, lit_5, lit_6, lit_7, lit_8, lit_9, lit_10, lit_11, lit_12, lit_23, lit_24, lit_30, lit_31, lit_32, lit_39, lit_40, lit_41, lit_46, lit_47, lit_48, lit_96, lit_99, lit_100, lit_255, lit_999, lit_1000, lit_2024, lit_32767, lit_1000000, nI_ltI, nI_leI, nI_eq, Nat.not_lt, Nat.not_le] at c160
                        try simp only [unl_0, unl_1, unl_2, unl_3, unl_4, unl_5, unl_6, unl_7, unl_8, unl_9, unl_10, unl_11, unl_12, unl_23, unl_24, unl_30, unl_31, unl_32, unl_39, unl_40, unl_41, unl_46, unl_47, unl_48, unl_96, unl_99, unl_100, unl_255, unl_999, unl_1000, unl_2024, unl_32767, unl_1000000] at c160
                        refine mv_iconst C rfl ?_
                        refine fin _ ?_
                        simp only [kbw, hw, Bool.true_and]
                        first | (rw [decide_eq_true (show B ≤ t ∧ t ≤ U by omega)]; rfl) | (rw [decide_eq_false (show ¬ (B ≤ t ∧ t ≤ U) by omega)]; rfl)
                      · try simp only [b01, b10, Classical.not_not] at c160
                        try simp (disch := omega) only [lit_0, lit_1, lit_2, lit_3, lit_4, lit_5, lit_6, lit_7, lit_8, lit_9, lit_10, lit_11, lit_12, lit_23, lit_24, lit_30, lit_31, lit_32, lit_39, lit_40, lit_41, lit_46, lit_47, lit_48, lit_96, lit_99, lit_100, lit_255, lit_999, lit_1000, lit_2024, lit_32767, lit_1000000, nI_ltI, nI_leI, nI_eq, Nat.not_lt, Nat.not_le] at c160
                        try simp only [unl_0, unl_1, unl_2, unl_3, unl_4, unl_5, unl_6, unl_7, unl_8, unl_9, unl_10, unl_11, unl_12, unl_23, unl_24, unl_30, unl_31, unl_32, unl_39, unl_40, unl_41, unl_46, unl_47, unl_48, unl_96, unl_99, unl_100, unl_255, unl_999, unl_1000, unl_2024, unl_32767, unl_1000000] at c160
                        refine mv_iconst C rfl ?_
                        refine mv_goto C rfl ?_
                        refine fin _ ?_
                        simp only [kbw, hw, Bool.true_and]
                        first | (rw [decide_eq_true (show B ≤ t ∧ t ≤ U by omega)]; rfl) | (rw [decide_eq_false (show ¬ (B ≤ t ∧ t ≤ U) by omega)]; rfl)
          have lets : ∀ (y : Bool) (w7 : Option Value), y = (x || kany (fun r => kcm (kB A u B) u R r p t) (u 2 0)) → V 96 [some (.ref 68), some (.int (nI B)), some (.int (kb w)), some (.int (nI U)), some (.int (nI t)), some (.int (nI p)), some (.int (b1 y)), w7] [] (mv_E (ky z (kmt m (u 0 0) R t p) g)) := by
            intro y w7 hy
            rw [← hy] at hks
            cases y with
            | false =>
              refine mv_iload C rfl rfl ?_
              refine mv_if_eq C rfl (fun c98 => ?_) (fun c98 => ?_)
              · refine mv_iconst C rfl ?_
                refine mv_is6 C rfl rfl ?_
                exact store false _ (by rw [hks]; rfl)
              · exact absurd rfl c98
            | true =>
              by_cases hb : B < t
              · refine mv_iload C rfl rfl ?_
                refine mv_if_eq C rfl (fun c98 => ?_) (fun c98 => ?_)
                · exact absurd c98 (by decide)
                · refine mv_iload C rfl rfl ?_
                  refine mv_iload_n C rfl rfl ?_
                  refine mv_icmp_gt C rfl (fun c104 => ?_) (fun c104 => ?_)
                  · refine mv_iconst C rfl ?_
                    refine mv_goto C rfl ?_
                    refine mv_is6 C rfl rfl ?_
                    exact store true _ (by rw [hks]; simp [hb])
                  · exact absurd (nI_lt hb (by omega)) c104
              · cases hl : klet A u p t with
                | false =>
                  rw [hl] at R2
                  refine mv_iload C rfl rfl ?_
                  refine mv_if_eq C rfl (fun c98 => ?_) (fun c98 => ?_)
                  · exact absurd c98 (by decide)
                  · refine mv_iload C rfl rfl ?_
                    refine mv_iload_n C rfl rfl ?_
                    refine mv_icmp_gt C rfl (fun c104 => ?_) (fun c104 => ?_)
                    · exact absurd ((nI_ltI (by omega) (by omega)).mp c104) hb
                    · refine mv_aload_n C rfl rfl ?_
                      refine mv_iload C rfl rfl ?_
                      refine mv_iload C rfl rfl ?_
                      refine mv_cV C rfl (mv_up R2 rfl) (by decide) rfl rfl rfl (Nat.le_of_ble_eq_true rfl) (Nat.le_refl _) (Nat.le_refl _) rfl ?_
                      refine mv_if_eq C rfl (fun c115 => ?_) (fun c115 => ?_)
                      · refine mv_iconst C rfl ?_
                        refine mv_is6 C rfl rfl ?_
                        exact store false _ (by rw [hks]; simp [hb, hl])
                      · exact absurd rfl c115
                | true =>
                  rw [hl] at R2
                  refine mv_iload C rfl rfl ?_
                  refine mv_if_eq C rfl (fun c98 => ?_) (fun c98 => ?_)
                  · exact absurd c98 (by decide)
                  · refine mv_iload C rfl rfl ?_
                    refine mv_iload_n C rfl rfl ?_
                    refine mv_icmp_gt C rfl (fun c104 => ?_) (fun c104 => ?_)
                    · exact absurd ((nI_ltI (by omega) (by omega)).mp c104) hb
                    · refine mv_aload_n C rfl rfl ?_
                      refine mv_iload C rfl rfl ?_
                      refine mv_iload C rfl rfl ?_
                      refine mv_cV C rfl (mv_up R2 rfl) (by decide) rfl rfl rfl (Nat.le_of_ble_eq_true rfl) (Nat.le_refl _) (Nat.le_refl _) rfl ?_
                      refine mv_if_eq C rfl (fun c115 => ?_) (fun c115 => ?_)
                      · exact absurd c115 (by decide)
                      · refine mv_iconst C rfl ?_
                        refine mv_goto C rfl ?_
                        refine mv_is6 C rfl rfl ?_
                        exact store true _ (by rw [hks]; simp [hb, hl])
          have rl : ∀ (k i : Nat), i + k = u 2 0 → V 63 [some (.ref 68), some (.int (nI B)), some (.int (kb w)), some (.int (nI U)), some (.int (nI t)), some (.int (nI p)), some (.int (b1 (x || kany (fun r => kcm (kB A u B) u R r p t) i))), some (.int (nI i))] [] (mv_E (ky z (kmt m (u 0 0) R t p) g)) := by
            intro k
            induction k with
            | zero =>
              intro i hi2
              obtain rfl : i = u 2 0 := by omega
              refine mv_iload C rfl rfl ?_
              refine mv_aload_n C rfl rfl ?_
              refine mv_getJ C rfl rfl rfl (hr _) ?_
              refine mv_icmp_ge C rfl (fun c69 => ?_) (fun c69 => ?_)
              · exact lets _ _ rfl
              · exact absurd (nI_le (by omega) (by omega)) c69
            | succ k ihr =>
              intro i hi2
              have e2 := ihr (i + 1) (by omega)
              have R3 := r_mayCome z u A R (kmt m (u 0 0) R t p) g i p t B (by omega) (by omega) (by omega) hB hi hz hm1
              cases hb : (x || kany (fun r => kcm (kB A u B) u R r p t) i) with
              | true =>
                have hb2 : true = (x || kany (fun r => kcm (kB A u B) u R r p t) (u 2 0)) := by
                  symm
                  rcases Bool.or_eq_true _ _ ▸ hb with q | q
                  · rw [q]; rfl
                  · obtain ⟨j, hj, q2⟩ := kany_t.mp q
                    rw [kany_t.mpr ⟨j, by omega, q2⟩, Bool.or_true]
                refine mv_iload C rfl rfl ?_
                refine mv_aload_n C rfl rfl ?_
                refine mv_getJ C rfl rfl rfl (hr _) ?_
                refine mv_icmp_ge C rfl (fun c69 => ?_) (fun c69 => ?_)
                · exact absurd c69 (nI_ge (by omega) (by omega))
                · refine mv_iload C rfl rfl ?_
                  refine mv_if_ne C rfl (fun c74 => ?_) (fun c74 => ?_)
                  · exact lets true _ hb2
                  · exact absurd c74 (by decide)
              | false =>
                have e3 : (x || kany (fun r => kcm (kB A u B) u R r p t) (i + 1)) = kcm (kB A u B) u R i p t := by
                  simp only [kany]; rw [← Bool.or_assoc, hb, Bool.false_or]
                rw [e3] at e2
                refine mv_iload C rfl rfl ?_
                refine mv_aload_n C rfl rfl ?_
                refine mv_getJ C rfl rfl rfl (hr _) ?_
                refine mv_icmp_ge C rfl (fun c69 => ?_) (fun c69 => ?_)
                · exact absurd c69 (nI_ge (by omega) (by omega))
                · refine mv_iload C rfl rfl ?_
                  refine mv_if_ne C rfl (fun c74 => ?_) (fun c74 => ?_)
                  · exact absurd rfl c74
                  · refine mv_aload_n C rfl rfl ?_
                    refine mv_iload C rfl rfl ?_
                    refine mv_iload C rfl rfl ?_
                    refine mv_iload C rfl rfl ?_
                    refine mv_iload_n C rfl rfl ?_
                    refine mv_cV C rfl R3 (by decide) rfl rfl rfl (Nat.le_of_ble_eq_true rfl) (Nat.le_refl _) (Nat.le_refl _) rfl ?_
                    refine mv_is6 C rfl rfl ?_
                    refine mv_inc7 C rfl rfl ?_
                    refine mv_goto C rfl ?_
                    simp only [nI_1]
                    exact e2
          have e2 := rl (u 2 0) 0 (by omega)
          rw [show kany (fun r => kcm (kB A u B) u R r p t) 0 = false from rfl, Bool.or_false] at e2
          by_cases h0 : t = 0
          · rw [if_pos h0] at hx
            by_cases h8 : u 8 0 = p + 1
            · rw [← hx, decide_eq_true h8] at e2
              refine mv_iload C rfl rfl ?_
              refine mv_aload_n C rfl rfl ?_
              refine mv_getJ C rfl rfl rfl (hn _) ?_
              refine mv_icmp_ge C rfl (fun c19 => ?_) (fun c19 => ?_)
              · exact absurd c19 (nI_ge (by omega) (by omega))
              · refine mv_iload C rfl rfl ?_
                refine mv_if_ne C rfl (fun c24 => ?_) (fun c24 => ?_)
                · exact absurd (by rw [h0]; rfl) c24
                · refine mv_iload C rfl rfl ?_
                  refine mv_aload_n C rfl rfl ?_
                  refine mv_getJ C rfl rfl rfl (hs _) ?_
                  refine mv_icmp_ne C rfl (fun c33 => ?_) (fun c33 => ?_)
                  · exact absurd ((nI_hst (by omega) (by omega)).mpr h8) c33
                  · refine mv_iconst C rfl ?_
                    refine mv_goto C rfl ?_
                    refine mv_is6 C rfl rfl ?_
                    refine mv_iconst C rfl ?_
                    refine mv_is7 C rfl rfl ?_
                    exact e2
            · rw [← hx, decide_eq_false h8] at e2
              refine mv_iload C rfl rfl ?_
              refine mv_aload_n C rfl rfl ?_
              refine mv_getJ C rfl rfl rfl (hn _) ?_
              refine mv_icmp_ge C rfl (fun c19 => ?_) (fun c19 => ?_)
              · exact absurd c19 (nI_ge (by omega) (by omega))
              · refine mv_iload C rfl rfl ?_
                refine mv_if_ne C rfl (fun c24 => ?_) (fun c24 => ?_)
                · exact absurd (by rw [h0]; rfl) c24
                · refine mv_iload C rfl rfl ?_
                  refine mv_aload_n C rfl rfl ?_
                  refine mv_getJ C rfl rfl rfl (hs _) ?_
                  refine mv_icmp_ne C rfl (fun c33 => ?_) (fun c33 => ?_)
                  · refine mv_iconst C rfl ?_
                    refine mv_goto C rfl ?_
                    refine mv_is6 C rfl rfl ?_
                    refine mv_iconst C rfl ?_
                    refine mv_is7 C rfl rfl ?_
                    exact e2
                  · exact absurd ((nI_hst (by omega) (by omega)).mp c33) h8
          · rw [if_neg h0] at hx
            have R4 := r_cell (ky z (kmt m (u 0 0) R t p) g) (t - 1) p
            have y1 : (ky z (kmt m (u 0 0) R t p) g).1 80 ((t - 1) * 24 + p) = b1 x := by rw [← hx]; exact hm1 _ _ (by omega) (by omega)
            refine mv_iload C rfl rfl ?_
            refine mv_aload_n C rfl rfl ?_
            refine mv_getJ C rfl rfl rfl (hn _) ?_
            refine mv_icmp_ge C rfl (fun c19 => ?_) (fun c19 => ?_)
            · exact absurd c19 (nI_ge (by omega) (by omega))
            · refine mv_iload C rfl rfl ?_
              refine mv_if_ne C rfl (fun c24 => ?_) (fun c24 => ?_)
              · refine mv_aload_n C rfl rfl ?_
                refine mv_getR C rfl rfl rfl ?_
                refine mv_iload C rfl rfl ?_
                refine mv_iconst C rfl ?_
                refine mv_isub C rfl ?_
                refine mv_top (pk_sub (b := 1) (by omega)) ?_
                refine mv_iload C rfl rfl ?_
                refine mv_cS C rfl (mv_up R4 rfl) (by decide) rfl (Nat.le_of_ble_eq_true rfl) (Nat.le_refl _) (Nat.le_refl _) rfl ?_
                refine mv_zldJ C rfl rfl rfl (by omega) y1 ?_
                refine mv_is6 C rfl rfl ?_
                refine mv_iconst C rfl ?_
                refine mv_is7 C rfl rfl ?_
                exact e2
              · exact absurd ((nI_eq (b := 0) (by omega) (by decide)).mp c24) h0
      refine mv_iload C rfl rfl ?_
      refine mv_bipush C rfl ?_
      refine mv_icmp_ge C rfl (fun c7 => ?_) (fun c7 => ?_)
      · exact absurd c7 (nI_ge (b := 48) (by omega) (by decide))
      · refine mv_iconst C rfl ?_
        refine mv_is5 C rfl rfl ?_
        exact ploop (u 0 0) 0 (by omega) _ _
  have e := outer 48 0 (by omega) none none none
  rw [kmt_0] at e
  refine mv_iconst C rfl ?_
  refine mv_is4 C rfl rfl ?_
  exact e
end

