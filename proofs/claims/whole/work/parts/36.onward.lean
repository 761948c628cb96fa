section
theorem r_departuresBy (z : mv_Z) (u : hM) (A : Nat → Bool) (G : Nat → Nat → Bool) (a : Nat → Int32) (b : Nat → Int64) (c d : Nat → Int32) (r t : Nat) (hi : hI u) (hz : rX u z) (hr : r < u 2 0) (ht : t < 48) (ok : kOK A u a b) (hd : ∀ t1, t < t1 → t1 < 48 → d t1 = kb (G t1)) : mv_Runs 2 25 [.ref 2, .int (nI r), .int (nI t)] (mv_E (kz z a b c d)) (some (.int (kb (fun p => kdp A u G r p t)))) (mv_E (kz z a b c d)) := by
  have hr40 := hi.2.2.1
  obtain ⟨q1, q2, q3, q4, q5⟩ := hi.2.2.2.1 r hr
  have y1 : (kz z a b c d).1 8 r = nI (u 5 r) := rX_a hz 8 5 (by decide) r
  have R1 := r_isClear z u A a b c d r t (min (t + u 5 r) 48) (by omega) (by omega) hr40 hr (ok.2 r hr)
  have em : (if 48 < nI (t + u 5 r) then 48 else nI (t + u 5 r)) = nI (min (t + u 5 r) 48) := by
    rcases Nat.lt_or_ge 48 (t + u 5 r) with q | q
    · rw [if_pos (show (48 : Int32) < nI (t + u 5 r) from nI_lt (a := 48) q (by omega)), Nat.min_eq_right (by omega)]; rfl
    · rw [if_neg (show ¬ (48 : Int32) < nI (t + u 5 r) from nI_nlt (a := 48) q (by decide)), Nat.min_eq_left q]
  cases hk : kclr A u r (t + 1) (min (t + u 5 r) 48) with
  | false =>
    rw [hk] at R1
    have ev : kb (fun p => kdp A u G r p t) = 0 := by
      rw [kb_0]; apply kb_c; intro p _; simp [kdp, hk]
    rw [ev]
    refine mv_start pX1_departuresBy (some .int) [some (.ref 2), some (.int (nI r)), some (.int (nI t)), none] rfl rfl rfl rfl (fun V C => ?_)
    refine mv_iload_n C rfl rfl ?_
    refine mv_aload_n C rfl rfl ?_
    refine mv_getR C rfl rfl rfl ?_
    refine mv_getR C rfl rfl rfl ?_
    refine mv_iload_n C rfl rfl ?_
    refine mv_aldJ C rfl rfl rfl (by omega) y1 ?_
    refine mv_iadd C rfl ?_
    refine mv_top (nI_add _ _) ?_
    refine mv_bipush C rfl ?_
    refine mv_mmin C rfl rfl (Nat.le_of_ble_eq_true rfl) ?_
    refine mv_top em ?_
    refine mv_is_n3 C rfl rfl ?_
    refine mv_aload_n C rfl rfl ?_
    refine mv_iload_n C rfl rfl ?_
    refine mv_iload_n C rfl rfl ?_
    refine mv_iload_n C rfl rfl ?_
    refine mv_cV C rfl R1 (by decide) rfl rfl rfl (Nat.le_of_ble_eq_true rfl) (Nat.le_refl _) (Nat.le_refl _) rfl ?_
    refine mv_if_ne C rfl (fun c24 => ?_) (fun c24 => ?_)
    · exact absurd rfl c24
    · refine mv_iconst C rfl ?_
      refine mv_ireturn C rfl mv_okI ?_ ?_
      all_goals rfl
  | true =>
    rw [hk] at R1
    by_cases h48 : 48 ≤ t + u 5 r
    · have e48 : min (t + u 5 r) 48 = 48 := Nat.min_eq_right h48
      rw [e48] at R1 em
      have R2 := r_across z u a b c d r (fun _ => true) hi hz hr
      rw [← kb_m1] at R2
      have ev : kb (fun p => kdp A u G r p t) = kb (kcr u (fun _ => true) r) := by
        apply kb_c; intro p _; simp only [kdp, kcr, hk, decide_eq_true h48, Bool.true_or, Bool.and_true]; rw [Bool.or_comm]
      rw [ev]
      refine mv_start pX1_departuresBy (some .int) [some (.ref 2), some (.int (nI r)), some (.int (nI t)), none] rfl rfl rfl rfl (fun V C => ?_)
      refine mv_iload_n C rfl rfl ?_
      refine mv_aload_n C rfl rfl ?_
      refine mv_getR C rfl rfl rfl ?_
      refine mv_getR C rfl rfl rfl ?_
      refine mv_iload_n C rfl rfl ?_
      refine mv_aldJ C rfl rfl rfl (by omega) y1 ?_
      refine mv_iadd C rfl ?_
      refine mv_top (nI_add _ _) ?_
      refine mv_bipush C rfl ?_
      refine mv_mmin C rfl rfl (Nat.le_of_ble_eq_true rfl) ?_
      refine mv_top em ?_
      refine mv_is_n3 C rfl rfl ?_
      refine mv_aload_n C rfl rfl ?_
      refine mv_iload_n C rfl rfl ?_
      refine mv_iload_n C rfl rfl ?_
      refine mv_iload_n C rfl rfl ?_
      refine mv_cV C rfl R1 (by decide) rfl rfl rfl (Nat.le_of_ble_eq_true rfl) (Nat.le_refl _) (Nat.le_refl _) rfl ?_
      refine mv_if_ne C rfl (fun c24 => ?_) (fun c24 => ?_)
      · refine mv_aload_n C rfl rfl ?_
        refine mv_getR C rfl rfl rfl ?_
        refine mv_iload_n C rfl rfl ?_
        refine mv_iload_n C rfl rfl ?_
        refine mv_bipush C rfl ?_
        refine mv_icmp_ne C rfl (fun c37 => ?_) (fun c37 => ?_)
        · exact absurd rfl c37
        · refine mv_iconst C rfl ?_
          refine mv_goto C rfl ?_
          refine mv_cV C rfl (mv_up R2 rfl) (by decide) rfl rfl rfl (Nat.le_of_ble_eq_true rfl) (Nat.le_refl _) (Nat.le_refl _) rfl ?_
          refine mv_ireturn C rfl mv_okI ?_ ?_
          all_goals rfl
      · exact absurd c24 (by decide)
    · have e48 : min (t + u 5 r) 48 = t + u 5 r := Nat.min_eq_left (by omega)
      rw [e48] at R1 em
      have y2 : (kz z a b c d).1 18 (t + u 5 r) = kb (G (t + u 5 r)) := hd _ (by omega) (by omega)
      have R2 := r_across z u a b c d r (G (t + u 5 r)) hi hz hr
      have ev : kb (fun p => kdp A u G r p t) = kb (kcr u (G (t + u 5 r)) r) := by
        apply kb_c; intro p _; simp only [kdp, kcr, hk, decide_eq_false h48, Bool.false_or, Bool.and_true]; rw [Bool.or_comm]
      rw [ev]
      refine mv_start pX1_departuresBy (some .int) [some (.ref 2), some (.int (nI r)), some (.int (nI t)), none] rfl rfl rfl rfl (fun V C => ?_)
      refine mv_iload_n C rfl rfl ?_
      refine mv_aload_n C rfl rfl ?_
      refine mv_getR C rfl rfl rfl ?_
      refine mv_getR C rfl rfl rfl ?_
      refine mv_iload_n C rfl rfl ?_
      refine mv_aldJ C rfl rfl rfl (by omega) y1 ?_
      refine mv_iadd C rfl ?_
      refine mv_top (nI_add _ _) ?_
      refine mv_bipush C rfl ?_
      refine mv_mmin C rfl rfl (Nat.le_of_ble_eq_true rfl) ?_
      refine mv_top em ?_
      refine mv_is_n3 C rfl rfl ?_
      refine mv_aload_n C rfl rfl ?_
      refine mv_iload_n C rfl rfl ?_
      refine mv_iload_n C rfl rfl ?_
      refine mv_iload_n C rfl rfl ?_
      refine mv_cV C rfl R1 (by decide) rfl rfl rfl (Nat.le_of_ble_eq_true rfl) (Nat.le_refl _) (Nat.le_refl _) rfl ?_
      refine mv_if_ne C rfl (fun c24 => ?_) (fun c24 => ?_)
      · refine mv_aload_n C rfl rfl ?_
        refine mv_getR C rfl rfl rfl ?_
        refine mv_iload_n C rfl rfl ?_
        refine mv_iload_n C rfl rfl ?_
        refine mv_bipush C rfl ?_
        refine mv_icmp_ne C rfl (fun c37 => ?_) (fun c37 => ?_)
        · refine mv_aload_n C rfl rfl ?_
          refine mv_getR C rfl rfl rfl ?_
          refine mv_iload_n C rfl rfl ?_
          refine mv_aldJ C rfl rfl rfl (by omega) y2 ?_
          refine mv_cV C rfl (mv_up R2 rfl) (by decide) rfl rfl rfl (Nat.le_of_ble_eq_true rfl) (Nat.le_refl _) (Nat.le_refl _) rfl ?_
          refine mv_ireturn C rfl mv_okI ?_ ?_
          all_goals rfl
        · exact absurd ((nI_eq (b := 48) (by omega) (by decide)).mp c37) (by omega)
      · exact absurd c24 (by decide)
theorem r_goesOnAt (z : mv_Z) (u : hM) (A : Nat → Bool) (G : Nat → Nat → Bool) (a : Nat → Int32) (b : Nat → Int64) (c d : Nat → Int32) (t : Nat) (hi : hI u) (hz : rX u z) (ht : t < 48) (ok : kOK A u a b) (hd : ∀ t1, t < t1 → t1 < 48 → d t1 = kb (G t1)) : mv_Runs 3 24 [.ref 2, .int (nI t)] (mv_E (kz z a b c d)) (some (.int (kb (fun p => kgo A u G t p)))) (mv_E (kz z a b c d)) := by
  have hr40 := hi.2.2.1
  have hr : (kz z a b c d).1 3 7 = nI (u 2 0) := rX_s hz 3 7 2 (by decide)
  have y1 : (kz z a b c d).1 15 t = kb (fun p => klet A u p t) := ok.1 t ht
  by_cases h0 : t = 47
  · have ev : kb (fun p => kgo A u G t p) = kb (fun p => klet A u p t) := by apply kb_c; intro p _; simp [kgo, h0]
    rw [ev]
    subst h0
    refine mv_start pX1_goesOnAt (some .int) [some (.ref 2), some (.int (nI 47)), none, none] rfl rfl rfl rfl (fun V C => ?_)
    refine mv_iload_n C rfl rfl ?_
    refine mv_bipush C rfl ?_
    refine mv_icmp_ne C rfl (fun c3 => ?_) (fun c3 => ?_)
    · exact absurd rfl c3
    · refine mv_aload_n C rfl rfl ?_
      refine mv_getR C rfl rfl rfl ?_
      refine mv_iload_n C rfl rfl ?_
      refine mv_aldJ C rfl rfl rfl (by omega) y1 ?_
      refine mv_ireturn C rfl mv_okI ?_ ?_
      all_goals rfl
  · have y2 : (kz z a b c d).1 18 (t + 1) = kb (G (t + 1)) := hd _ (by omega) (by omega)
    refine mv_start pX1_goesOnAt (some .int) [some (.ref 2), some (.int (nI t)), none, none] rfl rfl rfl rfl (fun V C => ?_)
    have loop : ∀ (k i : Nat), i + k = u 2 0 → V 24 [some (.ref 2), some (.int (nI t)), some (.int (kb (fun p => G (t + 1) p || kany (fun r => kdp A u G r p t) i))), some (.int (nI i))] [] (mv_E (kz z a b c d)) := by
      intro k
      induction k with
      | zero =>
        intro i hi2
        obtain rfl : i = u 2 0 := by omega
        have e2 : kb (fun p => G (t + 1) p || kany (fun r => kdp A u G r p t) (u 2 0)) &&& kb (fun p => klet A u p t) = kb (fun p => kgo A u G t p) := by rw [kb_and]; apply kb_c; intro p _; simp [kgo, h0]
        refine mv_iload_n C rfl rfl ?_
        refine mv_aload_n C rfl rfl ?_
        refine mv_getR C rfl rfl rfl ?_
        refine mv_getJ C rfl rfl rfl hr ?_
        refine mv_icmp_ge C rfl (fun c32 => ?_) (fun c32 => ?_)
        · refine mv_iload_n C rfl rfl ?_
          refine mv_aload_n C rfl rfl ?_
          refine mv_getR C rfl rfl rfl ?_
          refine mv_iload_n C rfl rfl ?_
          refine mv_aldJ C rfl rfl rfl (by omega) y1 ?_
          refine mv_iand C rfl ?_
          refine mv_top e2 ?_
          refine mv_ireturn C rfl mv_okI ?_ ?_
          all_goals rfl
        · exact absurd (nI_le (by omega) (by omega)) c32
      | succ k ih =>
        intro i hi2
        have e := ih (i + 1) (by omega)
        have R1 := r_departuresBy z u A G a b c d i t hi hz (by omega) ht ok hd
        have ev : kb (fun p => G (t + 1) p || kany (fun r => kdp A u G r p t) i) ||| kb (fun p => kdp A u G i p t) = kb (fun p => G (t + 1) p || kany (fun r => kdp A u G r p t) (i + 1)) := by
          rw [kb_or]; apply kb_c; intro p _; simp only [kany, Bool.or_assoc]
        refine mv_iload_n C rfl rfl ?_
        refine mv_aload_n C rfl rfl ?_
        refine mv_getR C rfl rfl rfl ?_
        refine mv_getJ C rfl rfl rfl hr ?_
        refine mv_icmp_ge C rfl (fun c32 => ?_) (fun c32 => ?_)
        · exact absurd c32 (nI_ge (by omega) (by omega))
        · refine mv_iload_n C rfl rfl ?_
          refine mv_aload_n C rfl rfl ?_
          refine mv_iload_n C rfl rfl ?_
          refine mv_iload_n C rfl rfl ?_
          refine mv_cV C rfl R1 (by decide) rfl rfl rfl (Nat.le_of_ble_eq_true rfl) (Nat.le_refl _) (Nat.le_refl _) rfl ?_
          refine mv_ior C rfl ?_
          refine mv_top ev ?_
          refine mv_is_n2 C rfl rfl ?_
          refine mv_inc3 C rfl rfl ?_
          refine mv_goto C rfl ?_
          simp only [nI_1]
          exact e
    have e := loop (u 2 0) 0 (by omega)
    rw [show kb (fun p => G (t + 1) p || kany (fun r => kdp A u G r p t) 0) = kb (G (t + 1)) by (apply kb_c; intro p _; simp [kany])] at e
    refine mv_iload_n C rfl rfl ?_
    refine mv_bipush C rfl ?_
    refine mv_icmp_ne C rfl (fun c3 => ?_) (fun c3 => ?_)
    · refine mv_aload_n C rfl rfl ?_
      refine mv_getR C rfl rfl rfl ?_
      refine mv_iload_n C rfl rfl ?_
      refine mv_iconst C rfl ?_
      refine mv_iadd C rfl ?_
      refine mv_top (nI_1 _) ?_
      refine mv_aldJ C rfl rfl rfl (by omega) y2 ?_
      refine mv_is_n2 C rfl rfl ?_
      refine mv_iconst C rfl ?_
      refine mv_is_n3 C rfl rfl ?_
      exact e
    · exact absurd ((nI_eq (b := 47) (by omega) (by decide)).mp c3) h0
theorem hst_dec (j : Nat) : hst (j + 1) + (-1) = hst j := by
  cases j with
  | zero => decide
  | succ s =>
    show nI (s + 1) + (-1) = nI s
    rw [← nI_1 s, Int32.add_assoc]
    show nI s + 0 = nI s
    rw [Int32.add_zero]
theorem hst_lt {j f : Nat} (hj : j ≤ 48) (hf : f < 48) : hst j < nI f ↔ j ≤ f := by
  cases j with
  | zero => simp only [hst]; rw [i32_lt, nI_toInt (by omega), i32_m1]; omega
  | succ s => simp only [hst]; rw [nI_ltI (by omega) (by omega)]; omega
theorem r_lookOnward (z : mv_Z) (u : hM) (A : Nat → Bool) (a : Nat → Int32) (b : Nat → Int64) (c d : Nat → Int32) (f : Nat) (hi : hI u) (hz : rX u z) (hf : f < 48) (ok : kOK A u a b) : mv_Runs 4 23 [.ref 2, .int (nI f)] (mv_E (kz z a b c d)) none (mv_E (kz z a b c (kfr d (fun t => kb (kG A u t)) f 48))) := by
  have hrd : ∀ r, r < u 2 0 → 1 ≤ u 5 r := fun r hr => (hi.2.2.2.1 r hr).2.2.2.1
  refine mv_start pX1_lookOnward none [some (.ref 2), some (.int (nI f)), none] rfl rfl rfl rfl (fun V C => ?_)
  have loop : ∀ (k j : Nat), f + k = j → j ≤ 48 → V 3 [some (.ref 2), some (.int (nI f)), some (.int (hst j))] [] (mv_E (kz z a b c (kfr d (fun t => kb (kG A u t)) j 48))) := by
    intro k
    induction k with
    | zero =>
      intro j hj h48
      obtain rfl : f = j := hj
      refine mv_iload_n C rfl rfl ?_
      refine mv_iload_n C rfl rfl ?_
      refine mv_icmp_lt C rfl (fun c5 => ?_) (fun c5 => ?_)
      · refine mv_return_ C rfl rfl ?_ ?_
        all_goals rfl
      · exact absurd ((hst_lt h48 hf).mpr (Nat.le_refl _)) c5
    | succ k ih =>
      intro j hj h48
      obtain ⟨s, rfl⟩ : ∃ s, j = s + 1 := ⟨j - 1, by omega⟩
      have e := ih s (by omega) (by omega)
      rw [← kfr_d _ _ _ _ (by omega)] at e
      have R1 := r_goesOnAt z u A (kG A u) a b c (kfr d (fun t => kb (kG A u t)) (s + 1) 48) s hi hz (by omega) ok (fun t1 h1 h2 => by rw [kfr_i ⟨by omega, h2⟩])
      rw [show kb (fun p => kgo A u (kG A u) s p) = kb (kG A u s) by (apply kb_c; intro p _; rw [kG_eq A u p (by omega) hrd])] at R1
      refine mv_iload_n C rfl rfl ?_
      refine mv_iload_n C rfl rfl ?_
      refine mv_icmp_lt C rfl (fun c5 => ?_) (fun c5 => ?_)
      · exact absurd ((hst_lt h48 hf).mp c5) (by omega)
      · refine mv_aload_n C rfl rfl ?_
        refine mv_getR C rfl rfl rfl ?_
        refine mv_iload_n C rfl rfl ?_
        refine mv_aload_n C rfl rfl ?_
        refine mv_iload_n C rfl rfl ?_
        refine mv_cV C rfl R1 (by decide) rfl rfl rfl (Nat.le_of_ble_eq_true rfl) (Nat.le_refl _) (Nat.le_refl _) rfl ?_
        refine mv_ast C rfl rfl (show hst (s + 1) = nI s from rfl) (by omega) ?_
        refine mv_sto kz_u18 ?_
        refine mv_inc2 C rfl rfl ?_
        refine mv_goto C rfl ?_
        rw [hst_dec]
        exact e
  have e := loop (48 - f) 48 (by omega) (by omega)
  rw [kfr_0 _ _ _ _ (by omega)] at e
  refine mv_bipush C rfl ?_
  refine mv_is_n2 C rfl rfl ?_
  exact e
def kW : Nat → Nat → Bool := fun _ _ => false
/-- as seen with all facts -/
def kAll (u : hM) (f : Nat) : Bool := decide (u 13 f = 0)
theorem kA_R {u : hM} (hi : hI u) {L : Nat} (W : Nat → Nat → Bool) {t p : Nat} (h : t ≤ L) : kR (kA u L (-1)) u W t p = kR (kAll u) u W t p := by
  apply kR_A (t + 1) t p (by omega)
  intro f hf hh
  have h40 : u 9 0 ≤ 40 := hi.2.2.2.2.2.2.2.1
  unfold kA kAll
  rw [decide_eq_decide]
  exact ⟨fun q => q.1, fun q => ⟨q, nI_nm1 (by omega), by omega⟩⟩
theorem kA_G {u : hM} (hi : hI u) {t p : Nat} (ht : t < 48) : kG (kA u 47 (-1)) u t p = kG (kAll u) u t p := by
  apply kG_A (fun r hr => (hi.2.2.2.1 r hr).2.2.2.1) 48 t p ht (by omega)
  intro f hf hh
  have h40 : u 9 0 ≤ 40 := hi.2.2.2.2.2.2.2.1
  have := (hi.2.2.2.2.2.2.2.2.1 f hf).2.1
  unfold kA kAll
  rw [decide_eq_decide]
  exact ⟨fun q => q.1, fun q => ⟨q, nI_nm1 (by omega), by omega⟩⟩
/-- where he may be, where he may have been -/
def kMay (u : hM) (t p : Nat) : Bool := kR (kAll u) u kW t p
def kWas (u : hM) (t p : Nat) : Bool := kMay u t p && kG (kAll u) u t p
theorem nI_ltb {t : Nat} (ht : t < 48) : ∀ i, i ≤ 48 → (nI t < nI i ↔ t + 1 ≤ i) := fun i hi => by rw [nI_ltI (by omega) (by omega)]; omega
theorem r_mayBe (z : mv_Z) (u : hM) (t : Nat) (hi : hI u) (hz : rX u z) (ht : t < 48) : ∃ a b c, mv_Runs 5 11 [.ref 2, .int (nI t)] (mv_E z) (some (.int (kb (kMay u t)))) (mv_E (kz z a b c (z.1 18))) ∧ kOK (kA u t (-1)) u a b ∧ ∀ t1, t1 ≤ t → c t1 = kb (kMay u t1) := by
  have R1 := r_heed z u (z.1 15) (z.2 16) (z.1 17) (z.1 18) t (-1) ht hi hz
  rw [kz_self] at R1
  have ok := kOK_of (kA u t (-1)) u (z.1 15) (z.2 16)
  have R2 := r_spread z u (kA u t (-1)) kW (fun _ => false) _ _ (z.1 17) (z.1 18) 0 (t + 1) (nI t) hi hz (by omega) (by omega) ok (nI_ltb ht) (fun _ _ _ _ => rfl) (fun _ h => absurd h (by omega))
  rw [← kb_0] at R2
  have ec : ∀ t1, t1 ≤ t → kfr (z.1 17) (fun t1 => kb (kR (kA u t (-1)) u kW t1)) 0 (t + 1) t1 = kb (kMay u t1) := fun t1 h1 => by
    rw [kfr_i ⟨by omega, by omega⟩]
    apply kb_c; intro p _; exact kA_R hi kW h1
  refine ⟨kaa (kA u t (-1)) u (z.1 15), kbb (kA u t (-1)) u (z.2 16), kfr (z.1 17) (fun t1 => kb (kR (kA u t (-1)) u kW t1)) 0 (t + 1), ?_, ok, ec⟩
  refine mv_start pX1_mayBe (some .int) [some (.ref 2), some (.int (nI t))] rfl rfl rfl rfl (fun V C => ?_)
  refine mv_aload_n C rfl rfl ?_
  refine mv_iload_n C rfl rfl ?_
  refine mv_iconst C rfl ?_
  refine mv_cV C rfl (mv_up R1 rfl) (by decide) rfl rfl rfl (Nat.le_of_ble_eq_true rfl) (Nat.le_refl _) (Nat.le_refl _) rfl ?_
  refine mv_aload_n C rfl rfl ?_
  refine mv_iconst C rfl ?_
  refine mv_iload_n C rfl rfl ?_
  refine mv_iconst C rfl ?_
  refine mv_cV C rfl R2 (by decide) rfl rfl rfl (Nat.le_of_ble_eq_true rfl) (Nat.le_refl _) (Nat.le_refl _) rfl ?_
  refine mv_aload_n C rfl rfl ?_
  refine mv_getR C rfl rfl rfl ?_
  refine mv_iload_n C rfl rfl ?_
  refine mv_aldJ C rfl rfl rfl (by omega) (show _ = kb (kMay u t) from ec t (Nat.le_refl _)) ?_
  refine mv_ireturn C rfl mv_okI ?_ ?_
  all_goals rfl
theorem r_mayHaveBeen (z : mv_Z) (u : hM) (t : Nat) (hi : hI u) (hz : rX u z) (ht : t < 48) : ∃ a b c d, mv_Runs 5 12 [.ref 2, .int (nI t)] (mv_E z) (some (.int (kb (kWas u t)))) (mv_E (kz z a b c d)) := by
  have R1 := r_heed z u (z.1 15) (z.2 16) (z.1 17) (z.1 18) 47 (-1) (by decide) hi hz
  rw [kz_self] at R1
  have ok := kOK_of (kA u 47 (-1)) u (z.1 15) (z.2 16)
  have R2 := r_spread z u (kA u 47 (-1)) kW (fun _ => false) _ _ (z.1 17) (z.1 18) 0 (t + 1) (nI t) hi hz (by omega) (by omega) ok (nI_ltb ht) (fun _ _ _ _ => rfl) (fun _ h => absurd h (by omega))
  rw [← kb_0] at R2
  have R3 := r_lookOnward z u (kA u 47 (-1)) _ _ (kfr (z.1 17) (fun t1 => kb (kR (kA u 47 (-1)) u kW t1)) 0 (t + 1)) (z.1 18) t hi hz ht ok
  have e1 : kfr (z.1 17) (fun t1 => kb (kR (kA u 47 (-1)) u kW t1)) 0 (t + 1) t = kb (kMay u t) := by
    rw [kfr_i ⟨by omega, by omega⟩]
    apply kb_c; intro p _; exact kA_R hi kW (by omega)
  have e2 : kfr (z.1 18) (fun t1 => kb (kG (kA u 47 (-1)) u t1)) t 48 t = kb (kG (kAll u) u t) := by
    rw [kfr_i ⟨by omega, by omega⟩]
    apply kb_c; intro p _; exact kA_G hi ht
  refine ⟨kaa (kA u 47 (-1)) u (z.1 15), kbb (kA u 47 (-1)) u (z.2 16), kfr (z.1 17) (fun t1 => kb (kR (kA u 47 (-1)) u kW t1)) 0 (t + 1), kfr (z.1 18) (fun t1 => kb (kG (kA u 47 (-1)) u t1)) t 48, ?_⟩
  refine mv_start pX1_mayHaveBeen (some .int) [some (.ref 2), some (.int (nI t))] rfl rfl rfl rfl (fun V C => ?_)
  refine mv_aload_n C rfl rfl ?_
  refine mv_bipush C rfl ?_
  refine mv_iconst C rfl ?_
  refine mv_cV C rfl (mv_up R1 rfl) (by decide) rfl rfl rfl (Nat.le_of_ble_eq_true rfl) (Nat.le_refl _) (Nat.le_refl _) rfl ?_
  refine mv_aload_n C rfl rfl ?_
  refine mv_iconst C rfl ?_
  refine mv_iload_n C rfl rfl ?_
  refine mv_iconst C rfl ?_
  refine mv_cV C rfl R2 (by decide) rfl rfl rfl (Nat.le_of_ble_eq_true rfl) (Nat.le_refl _) (Nat.le_refl _) rfl ?_
  refine mv_aload_n C rfl rfl ?_
  refine mv_iload_n C rfl rfl ?_
  refine mv_cV C rfl R3 (by decide) rfl rfl rfl (Nat.le_of_ble_eq_true rfl) (Nat.le_refl _) (Nat.le_refl _) rfl ?_
  refine mv_aload_n C rfl rfl ?_
  refine mv_getR C rfl rfl rfl ?_
  refine mv_iload_n C rfl rfl ?_
  refine mv_aldJ C rfl rfl rfl (by omega) (show _ = kb (kMay u t) from e1) ?_
  refine mv_aload_n C rfl rfl ?_
  refine mv_getR C rfl rfl rfl ?_
  refine mv_iload_n C rfl rfl ?_
  refine mv_aldJ C rfl rfl rfl (by omega) (show _ = kb (kG (kAll u) u t) from e2) ?_
  refine mv_iand C rfl ?_
  refine mv_top (kb_and _ _) ?_
  refine mv_ireturn C rfl mv_okI ?_ ?_
  all_goals rfl
end

