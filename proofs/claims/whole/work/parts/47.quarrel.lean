section
theorem nI_max0 : ∀ h, h < 48 → ∀ s, s < 13 → (if 0 < nI h - nI s + 1 then nI h - nI s + 1 else 0) = nI (h + 1 - s) := by decide +kernel
theorem kb_ne {g : Nat → Bool} : ¬ kb g = 0 ↔ ∃ p, p < 32 ∧ g p = true := by
  rw [kb_z]
  constructor
  · intro h
    apply Classical.byContradiction
    intro q
    apply h
    intro i hi
    cases hg : g i with
    | false => rfl
    | true => exact absurd ⟨i, hi, hg⟩ q
  · rintro ⟨p, hp, hg⟩ h
    rw [h p hp] at hg; cases hg
theorem r_isUnderWay (z : mv_Z) (u : hM) (A : Nat → Bool) (R G : Nat → Nat → Bool) (a : Nat → Int32) (b : Nat → Int64) (c d : Nat → Int32) (h : Nat) (x : Bool) (hi : hI u) (hz : rX u z) (hh : h < 48) (ok : kOK A u a b) (hc : ∀ t1, t1 < 48 → c t1 = kb (R t1)) (hd : ∀ t1, t1 < 48 → d t1 = kb (G t1)) (hRl : ∀ t p, R t p = true → p < 32) (hx : x = true ↔ ∃ r left p, r < u 2 0 ∧ left < h ∧ h < left + u 5 r ∧ R left p = true ∧ kdp A u G r p left = true) : mv_Runs 3 17 [.ref 2, .int (nI h)] (mv_E (kz z a b c d)) (some (.int (b1 x))) (mv_E (kz z a b c d)) := by
  have hr40 := hi.2.2.1
  have hr : (kz z a b c d).1 3 7 = nI (u 2 0) := rX_s hz 3 7 2 (by decide)
  refine mv_start pX1_isUnderWay (some .boolean) [some (.ref 2), some (.int (nI h)), none, none] rfl rfl rfl rfl (fun V C => ?_)
  have outer : ∀ (k i : Nat), i + k = u 2 0 → (∀ r left p, r < i → left < h → h < left + u 5 r → R left p = true → kdp A u G r p left = true → False) → ∀ w3 : Option Value, V 2 [some (.ref 2), some (.int (nI h)), some (.int (nI i)), w3] [] (mv_E (kz z a b c d)) := by
    intro k
    induction k with
    | zero =>
      intro i hi2 hno w3
      have ex : x = false := by
        cases hx1 : x with
        | false => rfl
        | true =>
          obtain ⟨r, left, p, q1, q2, q3, q4, q5⟩ := hx.mp hx1
          exact absurd (hno r left p (by omega) q2 q3 q4 q5) id
      subst ex
      refine mv_iload_n C rfl rfl ?_
      refine mv_aload_n C rfl rfl ?_
      refine mv_getR C rfl rfl rfl ?_
      refine mv_getJ C rfl rfl rfl hr ?_
      refine mv_icmp_ge C rfl (fun c10 => ?_) (fun c10 => ?_)
      · refine mv_iconst C rfl ?_
        refine mv_ireturn C rfl mv_okZ0 ?_ ?_
        all_goals rfl
      · exact absurd (nI_le (by omega) (by omega)) c10
    | succ k ih =>
      intro i hi2 hno w3
      obtain ⟨q1, q2, q3, q4, q5⟩ := hi.2.2.2.1 i (by omega)
      have e := ih (i + 1) (by omega)
      have y1 : (kz z a b c d).1 8 i = nI (u 5 i) := rX_a hz 8 5 (by decide) i
      have inner : ∀ (k j : Nat), j + k = h → h + 1 - u 5 i ≤ j → (∀ left p, h + 1 - u 5 i ≤ left → left < j → R left p = true → kdp A u G i p left = true → False) → V 31 [some (.ref 2), some (.int (nI h)), some (.int (nI i)), some (.int (nI j))] [] (mv_E (kz z a b c d)) := by
        intro k
        induction k with
        | zero =>
          intro j hj hlo hno2
          have e2 := e (fun r left p g1 g2 g3 g4 g5 => by
            by_cases er : r = i
            · subst er; exact hno2 left p (by omega) (by omega) g4 g5
            · exact hno r left p (by omega) g2 g3 g4 g5) (some (.int (nI j)))
          refine mv_iload_n C rfl rfl ?_
          refine mv_iload_n C rfl rfl ?_
          refine mv_icmp_ge C rfl (fun c33 => ?_) (fun c33 => ?_)
          · refine mv_inc2 C rfl rfl ?_
            refine mv_goto C rfl ?_
            simp only [nI_1]
            exact e2
          · exact absurd (nI_le (by omega) (by omega)) c33
        | succ k ihk =>
          intro j hj hlo hno2
          have R1 := r_departuresBy z u A G a b c d i j hi hz (by omega) (by omega) ok (fun t1 g1 g2 => hd t1 g2)
          have y2 : (kz z a b c d).1 17 j = kb (R j) := hc j (by omega)
          have ev := kb_and (R j) (fun p => kdp A u G i p j)
          by_cases hq : ∃ p, p < 32 ∧ (R j p && kdp A u G i p j) = true
          · have hb := kb_ne.mpr hq
            have ex : x = true := by
              obtain ⟨p, hp, g⟩ := hq
              rw [Bool.and_eq_true] at g
              exact hx.mpr ⟨i, j, p, by omega, by omega, by omega, g.1, g.2⟩
            subst ex
            refine mv_iload_n C rfl rfl ?_
            refine mv_iload_n C rfl rfl ?_
            refine mv_icmp_ge C rfl (fun c33 => ?_) (fun c33 => ?_)
            · exact absurd c33 (nI_ge (by omega) (by omega))
            · refine mv_aload_n C rfl rfl ?_
              refine mv_getR C rfl rfl rfl ?_
              refine mv_iload_n C rfl rfl ?_
              refine mv_aldJ C rfl rfl rfl (by omega) y2 ?_
              refine mv_aload_n C rfl rfl ?_
              refine mv_iload_n C rfl rfl ?_
              refine mv_iload_n C rfl rfl ?_
              refine mv_cV C rfl R1 (by decide) rfl rfl rfl (Nat.le_of_ble_eq_true rfl) (Nat.le_refl _) (Nat.le_refl _) rfl ?_
              refine mv_iand C rfl ?_
              refine mv_top ev ?_
              refine mv_if_eq C rfl (fun c49 => ?_) (fun c49 => ?_)
              · exact absurd c49 hb
              · refine mv_iconst C rfl ?_
                refine mv_ireturn C rfl mv_okZ1 ?_ ?_
                all_goals rfl
          · have hb : kb (fun p => R j p && kdp A u G i p j) = 0 := Classical.byContradiction (fun q => hq (kb_ne.mp q))
            have e3 := ihk (j + 1) (by omega) (by omega) (fun left p g1 g2 g3 g4 => by
              by_cases el : left = j
              · subst el; exact hq ⟨p, hRl _ _ g3, by rw [g3, g4]; rfl⟩
              · exact hno2 left p g1 (by omega) g3 g4)
            refine mv_iload_n C rfl rfl ?_
            refine mv_iload_n C rfl rfl ?_
            refine mv_icmp_ge C rfl (fun c33 => ?_) (fun c33 => ?_)
            · exact absurd c33 (nI_ge (by omega) (by omega))
            · refine mv_aload_n C rfl rfl ?_
              refine mv_getR C rfl rfl rfl ?_
              refine mv_iload_n C rfl rfl ?_
              refine mv_aldJ C rfl rfl rfl (by omega) y2 ?_
              refine mv_aload_n C rfl rfl ?_
              refine mv_iload_n C rfl rfl ?_
              refine mv_iload_n C rfl rfl ?_
              refine mv_cV C rfl R1 (by decide) rfl rfl rfl (Nat.le_of_ble_eq_true rfl) (Nat.le_refl _) (Nat.le_refl _) rfl ?_
              refine mv_iand C rfl ?_
              refine mv_top ev ?_
              refine mv_if_eq C rfl (fun c49 => ?_) (fun c49 => ?_)
              · refine mv_inc3 C rfl rfl ?_
                refine mv_goto C rfl ?_
                simp only [nI_1]
                exact e3
              · exact absurd hb c49
      have e4 := inner (h - (h + 1 - u 5 i)) (h + 1 - u 5 i) (by omega) (Nat.le_refl _) (fun left p g1 g2 => absurd g1 (by omega))
      refine mv_iload_n C rfl rfl ?_
      refine mv_aload_n C rfl rfl ?_
      refine mv_getR C rfl rfl rfl ?_
      refine mv_getJ C rfl rfl rfl hr ?_
      refine mv_icmp_ge C rfl (fun c10 => ?_) (fun c10 => ?_)
      · exact absurd c10 (nI_ge (by omega) (by omega))
      · refine mv_iconst C rfl ?_
        refine mv_iload_n C rfl rfl ?_
        refine mv_aload_n C rfl rfl ?_
        refine mv_getR C rfl rfl rfl ?_
        refine mv_getR C rfl rfl rfl ?_
        refine mv_iload_n C rfl rfl ?_
        refine mv_aldJ C rfl rfl rfl (by omega) y1 ?_
        refine mv_isub C rfl ?_
        refine mv_iconst C rfl ?_
        refine mv_iadd C rfl ?_
        refine mv_mmax C rfl rfl (Nat.le_of_ble_eq_true rfl) ?_
        refine mv_top (nI_max0 h hh (u 5 i) (by omega)) ?_
        refine mv_is_n3 C rfl rfl ?_
        exact e4
  refine mv_iconst C rfl ?_
  refine mv_is_n2 C rfl rfl ?_
  exact outer (u 2 0) 0 (by omega) (fun r _ _ g => absurd g (by omega)) _
/-- without fact f some journey agrees -/
def kmnd (u : hM) (f : Nat) : Bool := kG (kMin u f) u 0 (u 8 0 - 1)
theorem r_mends (z : mv_Z) (u : hM) (a : Nat → Int32) (b : Nat → Int64) (c d : Nat → Int32) (f : Nat) (hi : hI u) (hz : rX u z) (hf : f < u 9 0) (hs : ¬ u 8 0 = 0) (hc : ∀ t1, t1 < 48 → c t1 = kb (kR (kAll u) u kW t1)) (hd : ∀ t1, t1 < 48 → d t1 = kb (kG (kAll u) u t1)) : mv_Runs 4 16 [.ref 2, .int (nI f)] (mv_E (kz z a b c d)) (some (.int (b1 (kmnd u f)))) (mv_E (kz z (kaa (kA u 47 (nI f)) u a) (kbb (kA u 47 (nI f)) u b) c d)) := by
  have h40 : u 9 0 ≤ 40 := hi.2.2.2.2.2.2.2.1
  obtain ⟨g1, g2, g3, g4⟩ := hi.2.2.2.2.2.2.2.2.1 f hf
  have R1 := r_heed z u a b c d 47 (nI f) (by decide) hi hz
  have ok := kOK_of (kA u 47 (nI f)) u a b
  generalize kaa (kA u 47 (nI f)) u a = a1 at *
  generalize kbb (kA u 47 (nI f)) u b = b1' at *
  have R2 := r_cameAt z u (kA u 47 (nI f)) (kR (kAll u) u kW) a1 b1' c d (u 12 f) hi hz g2 ok (fun t1 q => hc t1 (by omega))
  have R3 := r_goesOnAt z u (kA u 47 (nI f)) (kG (kAll u) u) a1 b1' c d (u 12 f) hi hz g2 ok (fun t1 _ q => hd t1 q)
  have eA : ∀ i, i < u 9 0 → kA u 47 (nI f) i = kMin u f i := fun i h => by
    have := (hi.2.2.2.2.2.2.2.2.1 i h).2.1
    unfold kA kMin kAll
    rw [Bool.eq_iff_iff]
    simp only [decide_eq_true_eq, Bool.and_eq_true, Bool.not_eq_true', decide_eq_false_iff_not]
    rw [nI_eq (by omega) (by omega)]
    exact ⟨fun q => ⟨q.1, q.2.1⟩, fun q => ⟨q.1, q.2, by omega⟩⟩
  have hrd : ∀ r, r < u 2 0 → 1 ≤ u 5 r := fun r hr => (hi.2.2.2.1 r hr).2.2.2.1
  have hk : kmnd u f = kG (kA u 47 (nI f)) u 0 (u 8 0 - 1) := by
    unfold kmnd
    exact kG_A hrd 48 0 _ (by decide) (by decide) (fun i h _ => (eA i h).symm)
  have hY := (kX (A := kA u 47 (nI f)) hi (s := u 8 0 - 1) (by omega) g2).trans (kY_A (A := kAll u) hi g2 (fun i h1 h2 => by
    rw [eA i h1]; unfold kMin
    have : ¬ i = f := fun e => h2 (by rw [e])
    rw [decide_eq_false this]; simp))
  rw [← hk] at hY
  have y1 : ∀ a b, (kz z a b c d).1 13 f = nI (u 12 f) := fun a b => rX_a hz 13 12 (by decide) f
  have hRl : ∀ t p, kR (kAll u) u kW t p = true → p < 32 := fun t p q => by
    have := kR_lt hi (t + 1) t p (by omega) q
    have := hi.1
    omega
  have hst : ∀ t p, kst (kA u 47 (nI f)) u (kR (kAll u) u kW) t p = true → p < 32 := fun t p q => by
    have h24 := hi.1
    have h8 : u 8 0 ≤ u 0 0 := hi.2.2.2.2.2.2.1
    unfold kst at q
    simp only [Bool.and_eq_true] at q
    have q1 := q.1
    by_cases h0 : t = 0
    · rw [if_pos h0] at q1
      have := of_decide_eq_true q1
      omega
    · rw [if_neg h0, Bool.or_eq_true] at q1
      rcases q1 with q1 | q1
      · exact hRl _ _ q1
      · obtain ⟨r, hr, q2⟩ := kany_t.mp q1
        obtain ⟨e1, e2, e3, -⟩ := hi.2.2.2.1 r hr
        have := (kcm_ends q2 e3).1
        omega
  have ev := kb_and (fun p => kst (kA u 47 (nI f)) u (kR (kAll u) u kW) (u 12 f) p) (fun p => kgo (kA u 47 (nI f)) u (kG (kAll u) u) (u 12 f) p)
  by_cases hq : ∃ p, p < 32 ∧ (kst (kA u 47 (nI f)) u (kR (kAll u) u kW) (u 12 f) p && kgo (kA u 47 (nI f)) u (kG (kAll u) u) (u 12 f) p) = true
  · have hb := kb_ne.mpr hq
    have hm : kmnd u f = true := by
      obtain ⟨p, -, g⟩ := hq
      rw [Bool.and_eq_true] at g
      exact hY.mpr (Or.inl ⟨p, g.1, g.2⟩)
    rw [hm]
    refine mv_start pX1_mends (some .boolean) [some (.ref 2), some (.int (nI f)), none] rfl rfl rfl rfl (fun V C => ?_)
    refine mv_aload_n C rfl rfl ?_
    refine mv_bipush C rfl ?_
    refine mv_iload_n C rfl rfl ?_
    refine mv_cV C rfl R1 (by decide) rfl rfl rfl (Nat.le_of_ble_eq_true rfl) (Nat.le_refl _) (Nat.le_refl _) rfl ?_
    refine mv_aload_n C rfl rfl ?_
    refine mv_getR C rfl rfl rfl ?_
    refine mv_getR C rfl rfl rfl ?_
    refine mv_iload_n C rfl rfl ?_
    refine mv_aldJ C rfl rfl rfl (by omega) (y1 _ _) ?_
    refine mv_is_n2 C rfl rfl ?_
    refine mv_aload_n C rfl rfl ?_
    refine mv_iload_n C rfl rfl ?_
    refine mv_cV C rfl R2 (by decide) rfl rfl rfl (Nat.le_of_ble_eq_true rfl) (Nat.le_refl _) (Nat.le_refl _) rfl ?_
    refine mv_aload_n C rfl rfl ?_
    refine mv_iload_n C rfl rfl ?_
    refine mv_cV C rfl R3 (by decide) rfl rfl rfl (Nat.le_of_ble_eq_true rfl) (Nat.le_refl _) (Nat.le_refl _) rfl ?_
    refine mv_iand C rfl ?_
    refine mv_top ev ?_
    refine mv_if_ne C rfl (fun c28 => ?_) (fun c28 => ?_)
    · refine mv_iconst C rfl ?_
      refine mv_goto C rfl ?_
      refine mv_ireturn C rfl mv_okZ1 ?_ ?_
      all_goals rfl
    · exact absurd c28 hb
  · have hb : kb (fun p => kst (kA u 47 (nI f)) u (kR (kAll u) u kW) (u 12 f) p && kgo (kA u 47 (nI f)) u (kG (kAll u) u) (u 12 f) p) = 0 := Classical.byContradiction (fun q => hq (kb_ne.mp q))
    have hx : kmnd u f = true ↔ ∃ r left p, r < u 2 0 ∧ left < u 12 f ∧ u 12 f < left + u 5 r ∧ kR (kAll u) u kW left p = true ∧ kdp (kA u 47 (nI f)) u (kG (kAll u) u) r p left = true := by
      rw [hY]
      constructor
      · rintro (⟨p, q1, q2⟩ | q)
        · exact absurd ⟨p, hst _ _ q1, by rw [q1, q2]; rfl⟩ hq
        · exact q
      · exact Or.inr
    have R4 := r_isUnderWay z u (kA u 47 (nI f)) (kR (kAll u) u kW) (kG (kAll u) u) a1 b1' c d (u 12 f) (kmnd u f) hi hz g2 ok hc hd hRl hx
    cases hm : kmnd u f with
    | true =>
      rw [hm] at R4
      refine mv_start pX1_mends (some .boolean) [some (.ref 2), some (.int (nI f)), none] rfl rfl rfl rfl (fun V C => ?_)
      refine mv_aload_n C rfl rfl ?_
      refine mv_bipush C rfl ?_
      refine mv_iload_n C rfl rfl ?_
      refine mv_cV C rfl R1 (by decide) rfl rfl rfl (Nat.le_of_ble_eq_true rfl) (Nat.le_refl _) (Nat.le_refl _) rfl ?_
      refine mv_aload_n C rfl rfl ?_
      refine mv_getR C rfl rfl rfl ?_
      refine mv_getR C rfl rfl rfl ?_
      refine mv_iload_n C rfl rfl ?_
      refine mv_aldJ C rfl rfl rfl (by omega) (y1 _ _) ?_
      refine mv_is_n2 C rfl rfl ?_
      refine mv_aload_n C rfl rfl ?_
      refine mv_iload_n C rfl rfl ?_
      refine mv_cV C rfl R2 (by decide) rfl rfl rfl (Nat.le_of_ble_eq_true rfl) (Nat.le_refl _) (Nat.le_refl _) rfl ?_
      refine mv_aload_n C rfl rfl ?_
      refine mv_iload_n C rfl rfl ?_
      refine mv_cV C rfl R3 (by decide) rfl rfl rfl (Nat.le_of_ble_eq_true rfl) (Nat.le_refl _) (Nat.le_refl _) rfl ?_
      refine mv_iand C rfl ?_
      refine mv_top ev ?_
      refine mv_if_ne C rfl (fun c28 => ?_) (fun c28 => ?_)
      · exact absurd hb c28
      · refine mv_aload_n C rfl rfl ?_
        refine mv_iload_n C rfl rfl ?_
        refine mv_cV C rfl R4 (by decide) rfl rfl rfl (Nat.le_of_ble_eq_true rfl) (Nat.le_refl _) (Nat.le_refl _) rfl ?_
        refine mv_if_eq C rfl (fun c36 => ?_) (fun c36 => ?_)
        · exact absurd c36 (by decide)
        · refine mv_iconst C rfl ?_
          refine mv_goto C rfl ?_
          refine mv_ireturn C rfl mv_okZ1 ?_ ?_
          all_goals rfl
    | false =>
      rw [hm] at R4
      refine mv_start pX1_mends (some .boolean) [some (.ref 2), some (.int (nI f)), none] rfl rfl rfl rfl (fun V C => ?_)
      refine mv_aload_n C rfl rfl ?_
      refine mv_bipush C rfl ?_
      refine mv_iload_n C rfl rfl ?_
      refine mv_cV C rfl R1 (by decide) rfl rfl rfl (Nat.le_of_ble_eq_true rfl) (Nat.le_refl _) (Nat.le_refl _) rfl ?_
      refine mv_aload_n C rfl rfl ?_
      refine mv_getR C rfl rfl rfl ?_
      refine mv_getR C rfl rfl rfl ?_
      refine mv_iload_n C rfl rfl ?_
      refine mv_aldJ C rfl rfl rfl (by omega) (y1 _ _) ?_
      refine mv_is_n2 C rfl rfl ?_
      refine mv_aload_n C rfl rfl ?_
      refine mv_iload_n C rfl rfl ?_
      refine mv_cV C rfl R2 (by decide) rfl rfl rfl (Nat.le_of_ble_eq_true rfl) (Nat.le_refl _) (Nat.le_refl _) rfl ?_
      refine mv_aload_n C rfl rfl ?_
      refine mv_iload_n C rfl rfl ?_
      refine mv_cV C rfl R3 (by decide) rfl rfl rfl (Nat.le_of_ble_eq_true rfl) (Nat.le_refl _) (Nat.le_refl _) rfl ?_
      refine mv_iand C rfl ?_
      refine mv_top ev ?_
      refine mv_if_ne C rfl (fun c28 => ?_) (fun c28 => ?_)
      · exact absurd hb c28
      · refine mv_aload_n C rfl rfl ?_
        refine mv_iload_n C rfl rfl ?_
        refine mv_cV C rfl R4 (by decide) rfl rfl rfl (Nat.le_of_ble_eq_true rfl) (Nat.le_refl _) (Nat.le_refl _) rfl ?_
        refine mv_if_eq C rfl (fun c36 => ?_) (fun c36 => ?_)
        · refine mv_iconst C rfl ?_
          refine mv_ireturn C rfl mv_okZ0 ?_ ?_
          all_goals rfl
        · exact absurd rfl c36
def kmds (u : hM) (n f : Nat) : Bool := decide (f < n) && (kAll u f && kmnd u f)
theorem kmds_s (u : hM) (n : Nat) (hn : n < 64) : kL (kmds u (n + 1)) = bif kAll u n && kmnd u n then kL (kmds u n) ||| (1 <<< ((nI n).toInt64 &&& 63)) else kL (kmds u n) := by
  cases hb : kAll u n && kmnd u n with
  | true =>
    rw [cond_true, kL_bit hn, kL_or]
    apply kL_c
    intro i _
    unfold kmds
    by_cases e : i = n
    · subst e; rw [hb, decide_eq_true (show i < i + 1 by omega)]; simp
    · rw [decide_eq_false e, Bool.or_false, show decide (i < n + 1) = decide (i < n) from decide_eq_decide.mpr (by omega)]
  | false =>
    rw [cond_false]
    apply kL_c
    intro i _
    unfold kmds
    by_cases e : i = n
    · subst e; rw [hb, Bool.and_false, Bool.and_false]
    · rw [show decide (i < n + 1) = decide (i < n) from decide_eq_decide.mpr (by omega)]
theorem kmds_0 (u : hM) : kL (kmds u 0) = 0 := by rw [kL_0]; apply kL_c; intro i _; simp [kmds]
def kia (u : hM) (a : Nat → Int32) : Nat → (Nat → Int32)
  | 0 => a
  | i + 1 => bif kAll u i then kaa (kA u 47 (nI i)) u (kia u a i) else kia u a i
def kib (u : hM) (b : Nat → Int64) : Nat → (Nat → Int64)
  | 0 => b
  | i + 1 => bif kAll u i then kbb (kA u 47 (nI i)) u (kib u b i) else kib u b i
theorem r_menders (z : mv_Z) (u : hM) (hi : hI u) (hz : rX u z) (hs : ¬ u 8 0 = 0) : ∃ a b c d, mv_Runs 5 15 [.ref 2] (mv_E z) (some (.long (kL (kmds u (u 9 0))))) (mv_E (kz z a b c d)) := by
  have h40 : u 9 0 ≤ 40 := hi.2.2.2.2.2.2.2.1
  have R1 := r_heed z u (z.1 15) (z.2 16) (z.1 17) (z.1 18) 47 (-1) (by decide) hi hz
  rw [kz_self] at R1
  have ok := kOK_of (kA u 47 (-1)) u (z.1 15) (z.2 16)
  have R2 := r_spread z u (kA u 47 (-1)) kW (fun _ => false) _ _ (z.1 17) (z.1 18) 0 48 (nI 47) hi hz (by omega) (by omega) ok (nI_ltb (by decide)) (fun _ _ _ _ => rfl) (fun _ h => absurd h (by omega))
  rw [← kb_0] at R2
  have R3 := r_lookOnward z u (kA u 47 (-1)) _ _ (kfr (z.1 17) (fun t1 => kb (kR (kA u 47 (-1)) u kW t1)) 0 48) (z.1 18) 0 hi hz (by decide) ok
  have hc : ∀ t1, t1 < 48 → kfr (z.1 17) (fun t1 => kb (kR (kA u 47 (-1)) u kW t1)) 0 48 t1 = kb (kR (kAll u) u kW t1) := fun t1 h1 => by
    rw [kfr_i ⟨by omega, by omega⟩]
    apply kb_c; intro p _; exact kA_R hi kW (by omega)
  have hd : ∀ t1, t1 < 48 → kfr (z.1 18) (fun t1 => kb (kG (kA u 47 (-1)) u t1)) 0 48 t1 = kb (kG (kAll u) u t1) := fun t1 h1 => by
    rw [kfr_i ⟨by omega, by omega⟩]
    apply kb_c; intro p _; exact kA_G hi h1
  generalize kaa (kA u 47 (-1)) u (z.1 15) = a at *
  generalize kbb (kA u 47 (-1)) u (z.2 16) = b at *
  generalize kfr (z.1 17) (fun t1 => kb (kR (kA u 47 (-1)) u kW t1)) 0 48 = c at *
  generalize kfr (z.1 18) (fun t1 => kb (kG (kA u 47 (-1)) u t1)) 0 48 = d at *
  have hn : ∀ a b, (kz z a b c d).1 10 4 = nI (u 9 0) := fun a b => rX_s hz 10 4 9 (by decide)
  have y1 : ∀ a b f, (kz z a b c d).1 14 f = nI (u 13 f) := fun a b f => rX_a hz 14 13 (by decide) f
  have hall : ∀ f, u 13 f ≤ 1 := fun f => (hi.2.2.2.2.2.2.2.2.2.1 f).1
  refine ⟨kia u a (u 9 0), kib u b (u 9 0), c, d, ?_⟩
  refine mv_start pX1_menders (some .long) [some (.ref 2), none, none, none] rfl rfl rfl rfl (fun V C => ?_)
  have loop : ∀ (k i : Nat), i + k = u 9 0 → V 24 [some (.ref 2), some (.long (kL (kmds u i))), none, some (.int (nI i))] [] (mv_E (kz z (kia u a i) (kib u b i) c d)) := by
    intro k
    induction k with
    | zero =>
      intro i hi2
      obtain rfl : i = u 9 0 := by omega
      refine mv_iload_n C rfl rfl ?_
      refine mv_aload_n C rfl rfl ?_
      refine mv_getR C rfl rfl rfl ?_
      refine mv_getJ C rfl rfl rfl (hn _ _) ?_
      refine mv_icmp_ge C rfl (fun c32 => ?_) (fun c32 => ?_)
      · refine mv_lload_n C rfl rfl ?_
        refine mv_lreturn C rfl rfl ?_ ?_
        all_goals rfl
      · exact absurd (nI_le (by omega) (by omega)) c32
    | succ k ih =>
      intro i hi2
      have e := ih (i + 1) (by omega)
      rw [kmds_s u i (by omega)] at e
      simp only [kia, kib] at e
      have R4 := r_mends z u (kia u a i) (kib u b i) c d i hi hz (by omega) hs hc hd
      have y2 := y1 (kia u a i) (kib u b i) i
      by_cases h13 : u 13 i = 0
      · have ha : kAll u i = true := decide_eq_true h13
        rw [ha, Bool.true_and] at e
        simp only [cond_true] at e
        rw [h13] at y2
        cases hm : kmnd u i with
        | true =>
          rw [hm] at R4 e
          refine mv_iload_n C rfl rfl ?_
          refine mv_aload_n C rfl rfl ?_
          refine mv_getR C rfl rfl rfl ?_
          refine mv_getJ C rfl rfl rfl (hn _ _) ?_
          refine mv_icmp_ge C rfl (fun c32 => ?_) (fun c32 => ?_)
          · exact absurd c32 (nI_ge (by omega) (by omega))
          · refine mv_aload_n C rfl rfl ?_
            refine mv_getR C rfl rfl rfl ?_
            refine mv_getR C rfl rfl rfl ?_
            refine mv_iload_n C rfl rfl ?_
            refine mv_zldJ C rfl rfl rfl (by omega) y2 ?_
            refine mv_if_ne C rfl (fun c44 => ?_) (fun c44 => ?_)
            · exact absurd rfl c44
            · refine mv_aload_n C rfl rfl ?_
              refine mv_iload_n C rfl rfl ?_
              refine mv_cV C rfl R4 (by decide) rfl rfl rfl (Nat.le_of_ble_eq_true rfl) (Nat.le_refl _) (Nat.le_refl _) rfl ?_
              refine mv_if_eq C rfl (fun c52 => ?_) (fun c52 => ?_)
              · exact absurd c52 (by decide)
              · refine mv_lload_n C rfl rfl ?_
                refine mv_lconst C rfl ?_
                refine mv_iload_n C rfl rfl ?_
                refine mv_lshl C rfl ?_
                refine mv_lor C rfl ?_
                refine mv_ls_n1 C rfl rfl ?_
                refine mv_inc3 C rfl rfl ?_
                refine mv_goto C rfl ?_
                simp only [nI_1]
                exact e
        | false =>
          rw [hm] at R4 e
          refine mv_iload_n C rfl rfl ?_
          refine mv_aload_n C rfl rfl ?_
          refine mv_getR C rfl rfl rfl ?_
          refine mv_getJ C rfl rfl rfl (hn _ _) ?_
          refine mv_icmp_ge C rfl (fun c32 => ?_) (fun c32 => ?_)
          · exact absurd c32 (nI_ge (by omega) (by omega))
          · refine mv_aload_n C rfl rfl ?_
            refine mv_getR C rfl rfl rfl ?_
            refine mv_getR C rfl rfl rfl ?_
            refine mv_iload_n C rfl rfl ?_
            refine mv_zldJ C rfl rfl rfl (by omega) y2 ?_
            refine mv_if_ne C rfl (fun c44 => ?_) (fun c44 => ?_)
            · exact absurd rfl c44
            · refine mv_aload_n C rfl rfl ?_
              refine mv_iload_n C rfl rfl ?_
              refine mv_cV C rfl R4 (by decide) rfl rfl rfl (Nat.le_of_ble_eq_true rfl) (Nat.le_refl _) (Nat.le_refl _) rfl ?_
              refine mv_if_eq C rfl (fun c52 => ?_) (fun c52 => ?_)
              · refine mv_inc3 C rfl rfl ?_
                refine mv_goto C rfl ?_
                simp only [nI_1]
                exact e
              · exact absurd rfl c52
      · have ha : kAll u i = false := decide_eq_false h13
        have h1 : u 13 i = 1 := by have := hall i; omega
        rw [ha, Bool.false_and] at e
        simp only [cond_false] at e
        rw [h1] at y2
        refine mv_iload_n C rfl rfl ?_
        refine mv_aload_n C rfl rfl ?_
        refine mv_getR C rfl rfl rfl ?_
        refine mv_getJ C rfl rfl rfl (hn _ _) ?_
        refine mv_icmp_ge C rfl (fun c32 => ?_) (fun c32 => ?_)
        · exact absurd c32 (nI_ge (by omega) (by omega))
        · refine mv_aload_n C rfl rfl ?_
          refine mv_getR C rfl rfl rfl ?_
          refine mv_getR C rfl rfl rfl ?_
          refine mv_iload_n C rfl rfl ?_
          refine mv_zldJ C rfl rfl rfl (by omega) y2 ?_
          refine mv_if_ne C rfl (fun c44 => ?_) (fun c44 => ?_)
          · refine mv_inc3 C rfl rfl ?_
            refine mv_goto C rfl ?_
            simp only [nI_1]
            exact e
          · exact absurd c44 (by decide)
  have e := loop (u 9 0) 0 (by omega)
  rw [kmds_0] at e
  refine mv_aload_n C rfl rfl ?_
  refine mv_bipush C rfl ?_
  refine mv_iconst C rfl ?_
  refine mv_cV C rfl (mv_up R1 rfl) (by decide) rfl rfl rfl (Nat.le_of_ble_eq_true rfl) (Nat.le_refl _) (Nat.le_refl _) rfl ?_
  refine mv_aload_n C rfl rfl ?_
  refine mv_iconst C rfl ?_
  refine mv_bipush C rfl ?_
  refine mv_iconst C rfl ?_
  refine mv_cV C rfl R2 (by decide) rfl rfl rfl (Nat.le_of_ble_eq_true rfl) (Nat.le_refl _) (Nat.le_refl _) rfl ?_
  refine mv_aload_n C rfl rfl ?_
  refine mv_iconst C rfl ?_
  refine mv_cV C rfl R3 (by decide) rfl rfl rfl (Nat.le_of_ble_eq_true rfl) (Nat.le_refl _) (Nat.le_refl _) rfl ?_
  refine mv_lconst C rfl ?_
  refine mv_ls_n1 C rfl rfl ?_
  refine mv_iconst C rfl ?_
  refine mv_is_n3 C rfl rfl ?_
  exact e
theorem r_someAgrees (z : mv_Z) (u : hM) (hi : hI u) (hz : rX u z) (hs : ¬ u 8 0 = 0) : ∃ a b d, mv_Runs 5 14 [.ref 2] (mv_E z) (some (.int (b1 (kG (kAll u) u 0 (u 8 0 - 1))))) (mv_E (kz z a b (z.1 17) d)) := by
  have h24 := hi.1
  have h8 : u 8 0 ≤ u 0 0 := hi.2.2.2.2.2.2.1
  have R1 := r_heed z u (z.1 15) (z.2 16) (z.1 17) (z.1 18) 47 (-1) (by decide) hi hz
  rw [kz_self] at R1
  have ok := kOK_of (kA u 47 (-1)) u (z.1 15) (z.2 16)
  have R3 := r_lookOnward z u (kA u 47 (-1)) _ _ (z.1 17) (z.1 18) 0 hi hz (by decide) ok
  have e2 : kfr (z.1 18) (fun t1 => kb (kG (kA u 47 (-1)) u t1)) 0 48 0 = kb (kG (kAll u) u 0) := by
    rw [kfr_i ⟨by omega, by omega⟩]
    apply kb_c; intro p _; exact kA_G hi (by decide)
  generalize kaa (kA u 47 (-1)) u (z.1 15) = a at *
  generalize kbb (kA u 47 (-1)) u (z.2 16) = b at *
  generalize kfr (z.1 18) (fun t1 => kb (kG (kA u 47 (-1)) u t1)) 0 48 = d at *
  refine ⟨a, b, d, ?_⟩
  have R4 := r_startBit (kz z a b (z.1 17) d)
  obtain ⟨s, hs1⟩ : ∃ s, u 8 0 = s + 1 := ⟨u 8 0 - 1, by omega⟩
  have e9 : (kz z a b (z.1 17) d).1 3 9 = nI s := by
    show z.1 3 9 = nI s
    rw [show z.1 3 9 = hst (u 8 0) from hz.2.2.1, hs1]; rfl
  rw [e9, if_neg (nI_nm1 (by omega)), kb_bit (by omega)] at R4
  rw [hs1, Nat.add_sub_cancel]
  have ev := kb_and (kG (kAll u) u 0) (fun i => decide (i = s))
  cases hk : kG (kAll u) u 0 s with
  | true =>
    have hb : ¬ kb (fun i => kG (kAll u) u 0 i && decide (i = s)) = 0 := kb_ne.mpr ⟨s, by omega, by rw [hk]; simp⟩
    refine mv_start pX1_someAgrees (some .boolean) [some (.ref 2)] rfl rfl rfl rfl (fun V C => ?_)
    refine mv_aload_n C rfl rfl ?_
    refine mv_bipush C rfl ?_
    refine mv_iconst C rfl ?_
    refine mv_cV C rfl (mv_up R1 rfl) (by decide) rfl rfl rfl (Nat.le_of_ble_eq_true rfl) (Nat.le_refl _) (Nat.le_refl _) rfl ?_
    refine mv_aload_n C rfl rfl ?_
    refine mv_iconst C rfl ?_
    refine mv_cV C rfl R3 (by decide) rfl rfl rfl (Nat.le_of_ble_eq_true rfl) (Nat.le_refl _) (Nat.le_refl _) rfl ?_
    refine mv_aload_n C rfl rfl ?_
    refine mv_getR C rfl rfl rfl ?_
    refine mv_iconst C rfl ?_
    refine mv_aldJ C rfl rfl (show (0 : Int32) = nI 0 from rfl) (by omega) (show _ = kb (kG (kAll u) u 0) from e2) ?_
    refine mv_aload_n C rfl rfl ?_
    refine mv_getR C rfl rfl rfl ?_
    refine mv_cV C rfl (mv_up R4 rfl) (by decide) rfl rfl rfl (Nat.le_of_ble_eq_true rfl) (Nat.le_refl _) (Nat.le_refl _) rfl ?_
    refine mv_iand C rfl ?_
    refine mv_top ev ?_
    refine mv_if_eq C rfl (fun c26 => ?_) (fun c26 => ?_)
    · exact absurd c26 hb
    · refine mv_iconst C rfl ?_
      refine mv_goto C rfl ?_
      refine mv_ireturn C rfl mv_okZ1 ?_ ?_
      all_goals rfl
  | false =>
    have hb : kb (fun i => kG (kAll u) u 0 i && decide (i = s)) = 0 := by
      rw [kb_0]; apply kb_c; intro i _
      by_cases e : i = s
      · rw [e, hk]; rfl
      · rw [decide_eq_false e, Bool.and_false]
    refine mv_start pX1_someAgrees (some .boolean) [some (.ref 2)] rfl rfl rfl rfl (fun V C => ?_)
    refine mv_aload_n C rfl rfl ?_
    refine mv_bipush C rfl ?_
    refine mv_iconst C rfl ?_
    refine mv_cV C rfl (mv_up R1 rfl) (by decide) rfl rfl rfl (Nat.le_of_ble_eq_true rfl) (Nat.le_refl _) (Nat.le_refl _) rfl ?_
    refine mv_aload_n C rfl rfl ?_
    refine mv_iconst C rfl ?_
    refine mv_cV C rfl R3 (by decide) rfl rfl rfl (Nat.le_of_ble_eq_true rfl) (Nat.le_refl _) (Nat.le_refl _) rfl ?_
    refine mv_aload_n C rfl rfl ?_
    refine mv_getR C rfl rfl rfl ?_
    refine mv_iconst C rfl ?_
    refine mv_aldJ C rfl rfl (show (0 : Int32) = nI 0 from rfl) (by omega) (show _ = kb (kG (kAll u) u 0) from e2) ?_
    refine mv_aload_n C rfl rfl ?_
    refine mv_getR C rfl rfl rfl ?_
    refine mv_cV C rfl (mv_up R4 rfl) (by decide) rfl rfl rfl (Nat.le_of_ble_eq_true rfl) (Nat.le_refl _) (Nat.le_refl _) rfl ?_
    refine mv_iand C rfl ?_
    refine mv_top ev ?_
    refine mv_if_eq C rfl (fun c26 => ?_) (fun c26 => ?_)
    · refine mv_iconst C rfl ?_
      refine mv_ireturn C rfl mv_okZ0 ?_ ?_
      all_goals rfl
    · exact absurd hb c26
def a_quarrel (u : hM) : Int64 := if u 8 0 = 0 then 0 else bif kG (kAll u) u 0 (u 8 0 - 1) then -1 else kL (kmds u (u 9 0))
theorem x_quarrel (u : hM) (z : mv_Z) (hi : hI u) (hz : rX u z) : xR 88 [] u z (.long (a_quarrel u)) u := by
  have hs : z.1 3 9 = hst (u 8 0) := hz.2.2.1
  have hs0 := kst0 hi
  unfold a_quarrel
  by_cases h0 : u 8 0 = 0
  · rw [if_pos h0]
    refine ⟨_, mv_up (d := 3) (S1 := mv_E z) ?_ rfl, hz, fX_rf⟩
    refine mv_start pX10_quarrel (some .long) [some (.ref 0)] rfl rfl rfl rfl (fun V C => ?_)
    refine mv_aload_n C rfl rfl ?_
    refine mv_getR C rfl rfl rfl ?_
    refine mv_getJ C rfl rfl rfl hs ?_
    refine mv_iconst C rfl ?_
    refine mv_icmp_ne C rfl (fun c8 => ?_) (fun c8 => ?_)
    · exact absurd h0 (hs0.mp c8)
    · refine mv_lconst C rfl ?_
      refine mv_lreturn C rfl rfl ?_ ?_
      all_goals rfl
  · rw [if_neg h0]
    obtain ⟨a, b, d, R1⟩ := r_someAgrees z u hi hz h0
    cases hk : kG (kAll u) u 0 (u 8 0 - 1) with
    | true =>
      rw [hk] at R1
      refine ⟨_, mv_up (d := 6) (S1 := mv_E (kz z a b (z.1 17) d)) ?_ rfl, kz_rX hz _ _ _ _, kz_fX fX_rf _ _ _ _⟩
      refine mv_start pX10_quarrel (some .long) [some (.ref 0)] rfl rfl rfl rfl (fun V C => ?_)
      refine mv_aload_n C rfl rfl ?_
      refine mv_getR C rfl rfl rfl ?_
      refine mv_getJ C rfl rfl rfl hs ?_
      refine mv_iconst C rfl ?_
      refine mv_icmp_ne C rfl (fun c8 => ?_) (fun c8 => ?_)
      · refine mv_aload_n C rfl rfl ?_
        refine mv_getR C rfl rfl rfl ?_
        refine mv_cV C rfl R1 (by decide) rfl rfl rfl (Nat.le_of_ble_eq_true rfl) (Nat.le_refl _) (Nat.le_refl _) rfl ?_
        refine mv_if_eq C rfl (fun c20 => ?_) (fun c20 => ?_)
        · exact absurd c20 (by decide)
        · refine mv_ldc2_w C rfl ?_
          refine mv_goto C rfl ?_
          refine mv_lreturn C rfl rfl ?_ ?_
          all_goals rfl
      · exact absurd c8 (hs0.mpr h0)
    | false =>
      rw [hk] at R1
      obtain ⟨a2, b2, c2, d2, R2⟩ := r_menders (kz z a b (z.1 17) d) u hi (kz_rX hz _ _ _ _) h0
      refine ⟨_, mv_up (d := 6) (S1 := mv_E (kz (kz z a b (z.1 17) d) a2 b2 c2 d2)) ?_ rfl, kz_rX (kz_rX hz _ _ _ _) _ _ _ _, kz_fX (kz_fX fX_rf _ _ _ _) _ _ _ _⟩
      refine mv_start pX10_quarrel (some .long) [some (.ref 0)] rfl rfl rfl rfl (fun V C => ?_)
      refine mv_aload_n C rfl rfl ?_
      refine mv_getR C rfl rfl rfl ?_
      refine mv_getJ C rfl rfl rfl hs ?_
      refine mv_iconst C rfl ?_
      refine mv_icmp_ne C rfl (fun c8 => ?_) (fun c8 => ?_)
      · refine mv_aload_n C rfl rfl ?_
        refine mv_getR C rfl rfl rfl ?_
        refine mv_cV C rfl R1 (by decide) rfl rfl rfl (Nat.le_of_ble_eq_true rfl) (Nat.le_refl _) (Nat.le_refl _) rfl ?_
        refine mv_if_eq C rfl (fun c20 => ?_) (fun c20 => ?_)
        · refine mv_aload_n C rfl rfl ?_
          refine mv_getR C rfl rfl rfl ?_
          refine mv_cV C rfl R2 (by decide) rfl rfl rfl (Nat.le_of_ble_eq_true rfl) (Nat.le_refl _) (Nat.le_refl _) rfl ?_
          refine mv_lreturn C rfl rfl ?_ ?_
          all_goals rfl
        · exact absurd rfl c20
      · exact absurd c8 (hs0.mpr h0)
end

