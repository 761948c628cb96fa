section
theorem r_getsOut (z : mv_Z) (u : hM) (m g : Nat → Int32) (B U : Nat) (w : Nat → Bool) (hB : B < 48) (hU : U < 48) (hBU : B ≤ U) (hi : hI u) (hz : mH u (kAll u) z) (hex : ∀ p, z.1 70 p = nI (u 7 p)) : mv_Runs 5 145 [.ref 68, .int (nI B), .int (nI U), .int (kb w)] (mv_E (ky z m g)) (some (.int (b1 (kGO u B U w)))) (mv_E (ky z (kmt m (u 0 0) (kwR u B U w) 48 0) g)) := by
  have h24 := hi.1
  have R1 := r_walks z u (kAll u) w m g B U (by omega) hU hi hz
  rw [show kR (kB (kAll u) u B) u (kbw w B U) = kwR u B U w from rfl] at R1
  have hmt : ∀ t p, t < 48 → p < u 0 0 → kmt m (u 0 0) (kwR u B U w) 48 0 (t * 24 + p) = b1 (kwR u B U w t p) := fun t p lt lp => kmt_i h24 lp (Or.inl lt)
  generalize kmt m (u 0 0) (kwR u B U w) 48 0 = m1 at *
  have hn : (ky z m1 g).1 68 1 = nI (u 0 0) := hz.1
  have h7 : ∀ p, u 7 p ≤ 1 := fun p => (hi.2.2.2.2.2.1 p).1
  generalize hg : (fun t => decide (B ≤ t ∧ t ≤ U) && kany (fun p => decide (u 7 p = 1) && kwR u B U w t p) (u 0 0)) = G
  have hG : kGO u B U w = kany G (U + 1) := by
    unfold kGO; rw [hg, Bool.eq_iff_iff, kany_t, kany_t]
    constructor
    · rintro ⟨t, ht, q⟩
      refine ⟨t, ?_, q⟩
      rw [← hg] at q
      simp only [Bool.and_eq_true, decide_eq_true_eq] at q
      omega
    · rintro ⟨t, ht, q⟩
      exact ⟨t, by omega, q⟩
  rw [hG]
  refine mv_start pX11_getsOut (some .boolean) [some (.ref 68), some (.int (nI B)), some (.int (nI U)), some (.int (kb w)), none, none, none] rfl rfl rfl rfl (fun V C => ?_)
  have outer : ∀ (k t : Nat), t + k = U + 1 → B ≤ t → ∀ w6 : Option Value, V 13 [some (.ref 68), some (.int (nI B)), some (.int (nI U)), some (.int (kb w)), some (.int (b1 (kany G t))), some (.int (nI t)), w6] [] (mv_E (ky z m1 g)) := by
    intro k
    induction k with
    | zero =>
      intro t ht hBt w6
      obtain rfl : t = U + 1 := by omega
      refine mv_iload C rfl rfl ?_
      refine mv_iload_n C rfl rfl ?_
      refine mv_icmp_gt C rfl (fun c16 => ?_) (fun c16 => ?_)
      · refine mv_iload C rfl rfl ?_
        refine mv_ireturn C rfl (mv_okZ b1_1) ?_ ?_
        all_goals rfl
      · exact absurd (nI_lt (by omega) (by omega)) c16
    | succ k ih =>
      intro t ht hBt w6
      have e := ih (t + 1) (by omega) (by omega)
      rw [show kany G (t + 1) = (kany G t || kany (fun p => decide (u 7 p = 1) && kwR u B U w t p) (u 0 0)) from by
        simp only [kany]; rw [← hg]; simp only; rw [decide_eq_true (show B ≤ t ∧ t ≤ U by omega), Bool.true_and]] at e
      generalize kany G t = x at *
      have inner : ∀ (k p : Nat), p + k = u 0 0 → V 22 [some (.ref 68), some (.int (nI B)), some (.int (nI U)), some (.int (kb w)), some (.int (b1 (x || kany (fun p => decide (u 7 p = 1) && kwR u B U w t p) p))), some (.int (nI t)), some (.int (nI p))] [] (mv_E (ky z m1 g)) := by
        intro k
        induction k with
        | zero =>
          intro p hp
          obtain rfl : p = u 0 0 := by omega
          refine mv_iload C rfl rfl ?_
          refine mv_aload_n C rfl rfl ?_
          refine mv_getJ C rfl rfl rfl hn ?_
          refine mv_icmp_ge C rfl (fun c28 => ?_) (fun c28 => ?_)
          · refine mv_inc5 C rfl rfl ?_
            refine mv_goto C rfl ?_
            simp only [nI_1]
            exact e _
          · exact absurd (nI_le (by omega) (by omega)) c28
        | succ k ihp =>
          intro p hp
          have e2 := ihp (p + 1) (by omega)
          rw [show (x || kany (fun p => decide (u 7 p = 1) && kwR u B U w t p) (p + 1)) = ((x || kany (fun p => decide (u 7 p = 1) && kwR u B U w t p) p) || (decide (u 7 p = 1) && kwR u B U w t p)) from by simp only [kany]; rw [Bool.or_assoc]] at e2
          generalize (x || kany (fun p => decide (u 7 p = 1) && kwR u B U w t p) p) = y at *
          have y1 : (ky z m1 g).1 70 p = nI (u 7 p) := hex p
          have y2 : (ky z m1 g).1 80 (t * 24 + p) = b1 (kwR u B U w t p) := hmt _ _ (by omega) (by omega)
          have R2 := r_cell (ky z m1 g) t p
          cases y with
          | true =>
            rw [Bool.true_or] at e2
            refine mv_iload C rfl rfl ?_
            refine mv_aload_n C rfl rfl ?_
            refine mv_getJ C rfl rfl rfl hn ?_
            refine mv_icmp_ge C rfl (fun c28 => ?_) (fun c28 => ?_)
            · exact absurd c28 (nI_ge (by omega) (by omega))
            · refine mv_iload C rfl rfl ?_
              refine mv_if_ne C rfl (fun c33 => ?_) (fun c33 => ?_)
              · refine mv_iconst C rfl ?_
                refine mv_goto C rfl ?_
                refine mv_is4 C rfl rfl ?_
                refine mv_inc6 C rfl rfl ?_
                refine mv_goto C rfl ?_
                simp only [nI_1]
                exact e2
              · exact absurd c33 (by decide)
          | false =>
            rw [Bool.false_or] at e2
            by_cases hu7 : u 7 p = 1
            · rw [decide_eq_true hu7, Bool.true_and] at e2
              rw [hu7] at y1
              cases hr : kwR u B U w t p with
              | true =>
                rw [hr] at y2 e2
                refine mv_iload C rfl rfl ?_
                refine mv_aload_n C rfl rfl ?_
                refine mv_getJ C rfl rfl rfl hn ?_
                refine mv_icmp_ge C rfl (fun c28 => ?_) (fun c28 => ?_)
                · exact absurd c28 (nI_ge (by omega) (by omega))
                · refine mv_iload C rfl rfl ?_
                  refine mv_if_ne C rfl (fun c33 => ?_) (fun c33 => ?_)
                  · exact absurd rfl c33
                  · refine mv_aload_n C rfl rfl ?_
                    refine mv_getR C rfl rfl rfl ?_
                    refine mv_iload C rfl rfl ?_
                    refine mv_zldJ C rfl rfl rfl (by omega) y1 ?_
                    refine mv_if_eq C rfl (fun c43 => ?_) (fun c43 => ?_)
                    · exact absurd c43 (by decide)
                    · refine mv_aload_n C rfl rfl ?_
                      refine mv_getR C rfl rfl rfl ?_
                      refine mv_iload C rfl rfl ?_
                      refine mv_iload C rfl rfl ?_
                      refine mv_cS C rfl (mv_up R2 rfl) (by decide) rfl (Nat.le_of_ble_eq_true rfl) (Nat.le_refl _) (Nat.le_refl _) rfl ?_
                      refine mv_zldJ C rfl rfl rfl (by omega) y2 ?_
                      refine mv_if_eq C rfl (fun c58 => ?_) (fun c58 => ?_)
                      · exact absurd c58 (by decide)
                      · refine mv_iconst C rfl ?_
                        refine mv_goto C rfl ?_
                        refine mv_is4 C rfl rfl ?_
                        refine mv_inc6 C rfl rfl ?_
                        refine mv_goto C rfl ?_
                        simp only [nI_1]
                        exact e2
              | false =>
                rw [hr] at y2 e2
                refine mv_iload C rfl rfl ?_
                refine mv_aload_n C rfl rfl ?_
                refine mv_getJ C rfl rfl rfl hn ?_
                refine mv_icmp_ge C rfl (fun c28 => ?_) (fun c28 => ?_)
                · exact absurd c28 (nI_ge (by omega) (by omega))
                · refine mv_iload C rfl rfl ?_
                  refine mv_if_ne C rfl (fun c33 => ?_) (fun c33 => ?_)
                  · exact absurd rfl c33
                  · refine mv_aload_n C rfl rfl ?_
                    refine mv_getR C rfl rfl rfl ?_
                    refine mv_iload C rfl rfl ?_
                    refine mv_zldJ C rfl rfl rfl (by omega) y1 ?_
                    refine mv_if_eq C rfl (fun c43 => ?_) (fun c43 => ?_)
                    · exact absurd c43 (by decide)
                    · refine mv_aload_n C rfl rfl ?_
                      refine mv_getR C rfl rfl rfl ?_
                      refine mv_iload C rfl rfl ?_
                      refine mv_iload C rfl rfl ?_
                      refine mv_cS C rfl (mv_up R2 rfl) (by decide) rfl (Nat.le_of_ble_eq_true rfl) (Nat.le_refl _) (Nat.le_refl _) rfl ?_
                      refine mv_zldJ C rfl rfl rfl (by omega) y2 ?_
                      refine mv_if_eq C rfl (fun c58 => ?_) (fun c58 => ?_)
                      · refine mv_iconst C rfl ?_
                        refine mv_is4 C rfl rfl ?_
                        refine mv_inc6 C rfl rfl ?_
                        refine mv_goto C rfl ?_
                        simp only [nI_1]
                        exact e2
                      · exact absurd rfl c58
            · have hu0 : u 7 p = 0 := by have := h7 p; omega
              rw [decide_eq_false hu7, Bool.false_and] at e2
              rw [hu0] at y1
              refine mv_iload C rfl rfl ?_
              refine mv_aload_n C rfl rfl ?_
              refine mv_getJ C rfl rfl rfl hn ?_
              refine mv_icmp_ge C rfl (fun c28 => ?_) (fun c28 => ?_)
              · exact absurd c28 (nI_ge (by omega) (by omega))
              · refine mv_iload C rfl rfl ?_
                refine mv_if_ne C rfl (fun c33 => ?_) (fun c33 => ?_)
                · exact absurd rfl c33
                · refine mv_aload_n C rfl rfl ?_
                  refine mv_getR C rfl rfl rfl ?_
                  refine mv_iload C rfl rfl ?_
                  refine mv_zldJ C rfl rfl rfl (by omega) y1 ?_
                  refine mv_if_eq C rfl (fun c43 => ?_) (fun c43 => ?_)
                  · refine mv_iconst C rfl ?_
                    refine mv_is4 C rfl rfl ?_
                    refine mv_inc6 C rfl rfl ?_
                    refine mv_goto C rfl ?_
                    simp only [nI_1]
                    exact e2
                  · exact absurd rfl c43
      have e3 := inner (u 0 0) 0 (by omega)
      rw [show kany (fun p => decide (u 7 p = 1) && kwR u B U w t p) 0 = false from rfl, Bool.or_false] at e3
      refine mv_iload C rfl rfl ?_
      refine mv_iload_n C rfl rfl ?_
      refine mv_icmp_gt C rfl (fun c16 => ?_) (fun c16 => ?_)
      · exact absurd ((nI_ltI (by omega) (by omega)).mp c16) (by omega)
      · refine mv_iconst C rfl ?_
        refine mv_is6 C rfl rfl ?_
        exact e3
  have e := outer (U + 1 - B) B (by omega) (Nat.le_refl _) none
  rw [show kany G B = false from kany_f.mpr (fun t h => by rw [← hg]; simp only; rw [decide_eq_false (by omega), Bool.false_and])] at e
  refine mv_aload_n C rfl rfl ?_
  refine mv_iload_n C rfl rfl ?_
  refine mv_iload_n C rfl rfl ?_
  refine mv_iload_n C rfl rfl ?_
  refine mv_cV C rfl R1 (by decide) rfl rfl rfl (Nat.le_of_ble_eq_true rfl) (Nat.le_refl _) (Nat.le_refl _) rfl ?_
  refine mv_iconst C rfl ?_
  refine mv_is4 C rfl rfl ?_
  refine mv_iload_n C rfl rfl ?_
  refine mv_is5 C rfl rfl ?_
  exact e
def kwr : Option (List Nat) → Int32
  | some l => kb (kset l)
  | none => -1
theorem hb31 {x : Int32} (h : hbit x 31 = false) : ¬ x < 0 := by
  intro q
  rw [i32_lt, i32_0] at q
  have h1 : x.toBitVec.msb = false := by rw [BitVec.msb_eq_getLsbD_last]; exact h
  have h2 : x.toInt = x.toBitVec.toNat := BitVec.toInt_eq_toNat_of_msb h1
  omega
theorem kset_app (l : List Nat) (p x : Nat) : kset (l ++ [p]) x = (kset l x || decide (x = p)) := by
  unfold kset
  rw [List.length_append, List.length_singleton]
  simp only [kany]
  rw [kany_c (h := fun i => decide (kgd l i = x)) (fun i hi => by
    have : kgd (l ++ [p]) i = kgd l i := by unfold kgd; simp [List.getD, List.getElem?_append_left hi]
    rw [this])]
  congr 1
  rw [show kgd (l ++ [p]) l.length = p from by unfold kgd; simp [List.getD]]
  rw [decide_eq_decide]; exact eq_comm
def kl24 (l : List Nat) : Prop := ∀ p, kset l p = true → p < 24
theorem kcl_mem {n : Nat} (hn : n ≤ 24) : ∀ (k m : Nat) (l : List Nat), k ≤ n → kl24 l → ∀ l1, l1 ∈ kcl n m k l → kl24 l1
  | k, 0, l, _, hl, l1, h => by
    simp only [kcl, List.mem_singleton] at h
    rw [h]; exact hl
  | 0, m + 1, l, _, _, l1, h => by simp [kcl] at h
  | k + 1, m + 1, l, hk, hl, l1, h => by
    simp only [kcl, List.mem_append] at h
    rcases h with q | q
    · exact kcl_mem hn k m (l ++ [n - (k + 1)]) (by omega) (fun p hp => by
        rw [kset_app, Bool.or_eq_true] at hp
        rcases hp with q1 | q1
        · exact hl p q1
        · have := of_decide_eq_true q1; omega) l1 q
    · exact kcl_mem hn k (m + 1) l (by omega) hl l1 q
theorem kl24_nn {l : List Nat} (h : kl24 l) : ¬ kb (kset l) < 0 := by
  apply hb31
  rw [kb_b (by decide)]
  cases hk : kset l 31 with
  | false => rfl
  | true => have := h 31 hk; omega
theorem r_watchers (z : mv_Z) (u : hM) (g : Nat → Int32) (B U : Nat) (hB : B < 48) (hU : U < 48) (hBU : B ≤ U) (hi : hI u) (hz : mH u (kAll u) z) (hex : ∀ p, z.1 70 p = nI (u 7 p)) : ∀ (many k : Nat) (l : List Nat) (m : Nat → Int32), many ≤ 3 → k ≤ u 0 0 → kl24 l → ∃ m1, mv_Runs (6 + many) 146 [.ref 68, .int (nI many), .int (nI (u 0 0 - k)), .int (kb (kset l)), .int (nI B), .int (nI U)] (mv_E (ky z m g)) (some (.int (kwr ((kcl (u 0 0) many k l).find? (fun l => !kGO u B U (kset l)))))) (mv_E (ky z m1 g)) := by
  have h24 := hi.1
  intro many
  induction many with
  | zero =>
    intro k l m _ hk hl
    have R1 := r_getsOut z u m g B U (kset l) hB hU hBU hi hz hex
    refine ⟨kmt m (u 0 0) (kwR u B U (kset l)) 48 0, ?_⟩
    cases hg : kGO u B U (kset l) with
    | true =>
      rw [hg] at R1
      rw [show kwr ((kcl (u 0 0) 0 k l).find? (fun l => !kGO u B U (kset l))) = -1 from by simp [kcl, hg, kwr]]
      refine mv_start pX11_watchers (some .int) [some (.ref 68), some (.int (nI 0)), some (.int (nI (u 0 0 - k))), some (.int (kb (kset l))), some (.int (nI B)), some (.int (nI U)), none, none] rfl rfl rfl rfl (fun V C => ?_)
      refine mv_iload_n C rfl rfl ?_
      refine mv_if_ne C rfl (fun c1 => ?_) (fun c1 => ?_)
      · exact absurd rfl c1
      · refine mv_aload_n C rfl rfl ?_
        refine mv_iload C rfl rfl ?_
        refine mv_iload C rfl rfl ?_
        refine mv_iload_n C rfl rfl ?_
        refine mv_cV C rfl R1 (by decide) rfl rfl rfl (Nat.le_of_ble_eq_true rfl) (Nat.le_refl _) (Nat.le_refl _) rfl ?_
        refine mv_if_eq C rfl (fun c13 => ?_) (fun c13 => ?_)
        · exact absurd c13 (by decide)
        · refine mv_iconst C rfl ?_
          refine mv_goto C rfl ?_
          refine mv_ireturn C rfl mv_okI ?_ ?_
          all_goals rfl
    | false =>
      rw [hg] at R1
      rw [show kwr ((kcl (u 0 0) 0 k l).find? (fun l => !kGO u B U (kset l))) = kb (kset l) from by simp [kcl, hg, kwr]]
      refine mv_start pX11_watchers (some .int) [some (.ref 68), some (.int (nI 0)), some (.int (nI (u 0 0 - k))), some (.int (kb (kset l))), some (.int (nI B)), some (.int (nI U)), none, none] rfl rfl rfl rfl (fun V C => ?_)
      refine mv_iload_n C rfl rfl ?_
      refine mv_if_ne C rfl (fun c1 => ?_) (fun c1 => ?_)
      · exact absurd rfl c1
      · refine mv_aload_n C rfl rfl ?_
        refine mv_iload C rfl rfl ?_
        refine mv_iload C rfl rfl ?_
        refine mv_iload_n C rfl rfl ?_
        refine mv_cV C rfl R1 (by decide) rfl rfl rfl (Nat.le_of_ble_eq_true rfl) (Nat.le_refl _) (Nat.le_refl _) rfl ?_
        refine mv_if_eq C rfl (fun c13 => ?_) (fun c13 => ?_)
        · refine mv_iload_n C rfl rfl ?_
          refine mv_ireturn C rfl mv_okI ?_ ?_
          all_goals rfl
        · exact absurd rfl c13
  | succ many ih =>
    intro k0 l m hmany hk0 hl
    have loop : ∀ (k : Nat) (m : Nat → Int32), k ≤ u 0 0 → ∃ m1, ∀ w7 : Option Value, mv_Fr pX11_watchers (some .int) (6 + many) (some (.int (kwr ((kcl (u 0 0) (many + 1) k l).find? (fun l => !kGO u B U (kset l)))))) (mv_E (ky z m1 g)) 25 [some (.ref 68), some (.int (nI (many + 1))), some (.int (nI (u 0 0 - k0))), some (.int (kb (kset l))), some (.int (nI B)), some (.int (nI U)), some (.int (nI (u 0 0 - k))), w7] (mv_E (ky z m g)) := by
      intro k
      induction k with
      | zero =>
        intro m _
        refine ⟨m, fun w7 V C => ?_⟩
        have hn : (ky z m g).1 68 1 = nI (u 0 0) := hz.1
        rw [show kwr ((kcl (u 0 0) (many + 1) 0 l).find? (fun l => !kGO u B U (kset l))) = -1 from by simp [kcl, kwr]] at C
        refine mv_iload C rfl rfl ?_
        refine mv_aload_n C rfl rfl ?_
        refine mv_getJ C rfl rfl rfl hn ?_
        refine mv_icmp_ge C rfl (fun c31 => ?_) (fun c31 => ?_)
        · refine mv_iconst C rfl ?_
          refine mv_ireturn C rfl mv_okI ?_ ?_
          all_goals rfl
        · exact absurd (nI_le (by omega) (by omega)) c31
      | succ k ihk =>
        intro m hk
        have hl2 : kl24 (l ++ [u 0 0 - (k + 1)]) := fun p hp => by
          rw [kset_app, Bool.or_eq_true] at hp
          rcases hp with q1 | q1
          · exact hl p q1
          · have := of_decide_eq_true q1; omega
        obtain ⟨m1, R1⟩ := ih k (l ++ [u 0 0 - (k + 1)]) m (by omega) (by omega) hl2
        have ev : kb (kset l) ||| 1 <<< (nI (u 0 0 - (k + 1)) &&& 31) = kb (kset (l ++ [u 0 0 - (k + 1)])) := by
          rw [kb_bit (by omega), kb_or]; apply kb_c; intro p _; exact (kset_app _ _ _).symm
        have en : nI (u 0 0 - (k + 1)) + 1 = nI (u 0 0 - k) := by rw [nI_1]; congr 1; omega
        have ea : (kcl (u 0 0) (many + 1) (k + 1) l).find? (fun l => !kGO u B U (kset l)) = ((kcl (u 0 0) many k (l ++ [u 0 0 - (k + 1)])).find? (fun l => !kGO u B U (kset l))).or ((kcl (u 0 0) (many + 1) k l).find? (fun l => !kGO u B U (kset l))) := by
          simp only [kcl]; rw [List.find?_append]
        rw [ea]
        have hn : (ky z m g).1 68 1 = nI (u 0 0) := hz.1
        cases hf : (kcl (u 0 0) many k (l ++ [u 0 0 - (k + 1)])).find? (fun l => !kGO u B U (kset l)) with
        | some l1 =>
          rw [hf] at R1
          have hnn := kl24_nn (kcl_mem h24 k many _ (by omega) hl2 l1 (List.mem_of_find?_eq_some hf))
          refine ⟨m1, fun w7 V C => ?_⟩
          have C2 : mv_Clo pX11_watchers (some .int) (mv_Runs (6 + many)) (mv_E (ky z m1 g)).1 (mv_E (ky z m1 g)).2.1 (some (.int (kb (kset l1)))) (mv_E (ky z m1 g)) V := C
          clear C
          have C := C2
          have R2 : mv_Runs (6 + many) 146 [.ref 68, .int (nI many), .int (nI (u 0 0 - k)), .int (kb (kset (l ++ [u 0 0 - (k + 1)]))), .int (nI B), .int (nI U)] (mv_E (ky z m g)) (some (.int (kb (kset l1)))) (mv_E (ky z m1 g)) := R1
          refine mv_iload C rfl rfl ?_
          refine mv_aload_n C rfl rfl ?_
          refine mv_getJ C rfl rfl rfl hn ?_
          refine mv_icmp_ge C rfl (fun c31 => ?_) (fun c31 => ?_)
          · exact absurd c31 (nI_ge (by omega) (by omega))
          · refine mv_aload_n C rfl rfl ?_
            refine mv_iload_n C rfl rfl ?_
            refine mv_iconst C rfl ?_
            refine mv_isub C rfl ?_
            refine mv_top (pk_sub (b := 1) (by omega)) ?_
            rw [Nat.add_sub_cancel]
            refine mv_iload C rfl rfl ?_
            refine mv_iconst C rfl ?_
            refine mv_iadd C rfl ?_
            refine mv_top en ?_
            refine mv_iload_n C rfl rfl ?_
            refine mv_iconst C rfl ?_
            refine mv_iload C rfl rfl ?_
            refine mv_ishl C rfl ?_
            refine mv_ior C rfl ?_
            refine mv_top ev ?_
            refine mv_iload C rfl rfl ?_
            refine mv_iload C rfl rfl ?_
            refine mv_cV C rfl R2 (by decide) rfl rfl rfl (Nat.le_of_ble_eq_true rfl) (Nat.le_refl _) (Nat.le_refl _) rfl ?_
            refine mv_is7 C rfl rfl ?_
            refine mv_iload C rfl rfl ?_
            refine mv_if_lt C rfl (fun c59 => ?_) (fun c59 => ?_)
            · exact absurd c59 hnn
            · refine mv_iload C rfl rfl ?_
              refine mv_ireturn C rfl mv_okI ?_ ?_
              all_goals rfl
        | none =>
          rw [hf] at R1
          obtain ⟨m2, hF⟩ := ihk m1 (by omega)
          refine ⟨m2, fun w7 V C => ?_⟩
          rw [Option.none_or] at C
          have R2 : mv_Runs (6 + many) 146 [.ref 68, .int (nI many), .int (nI (u 0 0 - k)), .int (kb (kset (l ++ [u 0 0 - (k + 1)]))), .int (nI B), .int (nI U)] (mv_E (ky z m g)) (some (.int (-1))) (mv_E (ky z m1 g)) := R1
          refine mv_iload C rfl rfl ?_
          refine mv_aload_n C rfl rfl ?_
          refine mv_getJ C rfl rfl rfl hn ?_
          refine mv_icmp_ge C rfl (fun c31 => ?_) (fun c31 => ?_)
          · exact absurd c31 (nI_ge (by omega) (by omega))
          · refine mv_aload_n C rfl rfl ?_
            refine mv_iload_n C rfl rfl ?_
            refine mv_iconst C rfl ?_
            refine mv_isub C rfl ?_
            refine mv_top (pk_sub (b := 1) (by omega)) ?_
            rw [Nat.add_sub_cancel]
            refine mv_iload C rfl rfl ?_
            refine mv_iconst C rfl ?_
            refine mv_iadd C rfl ?_
            refine mv_top en ?_
            refine mv_iload_n C rfl rfl ?_
            refine mv_iconst C rfl ?_
            refine mv_iload C rfl rfl ?_
            refine mv_ishl C rfl ?_
            refine mv_ior C rfl ?_
            refine mv_top ev ?_
            refine mv_iload C rfl rfl ?_
            refine mv_iload C rfl rfl ?_
            refine mv_cV C rfl R2 (by decide) rfl rfl rfl (Nat.le_of_ble_eq_true rfl) (Nat.le_refl _) (Nat.le_refl _) rfl ?_
            refine mv_is7 C rfl rfl ?_
            refine mv_iload C rfl rfl ?_
            refine mv_if_lt C rfl (fun c59 => ?_) (fun c59 => ?_)
            · refine mv_inc6 C rfl rfl ?_
              refine mv_goto C rfl ?_
              rw [en]
              exact hF _ V C
            · exact absurd (by decide) c59
    obtain ⟨m1, hF⟩ := loop k0 m hk0
    refine ⟨m1, ?_⟩
    show mv_Runs (6 + many + 1) _ _ _ _ _
    refine mv_start pX11_watchers (some .int) [some (.ref 68), some (.int (nI (many + 1))), some (.int (nI (u 0 0 - k0))), some (.int (kb (kset l))), some (.int (nI B)), some (.int (nI U)), none, none] rfl rfl rfl rfl (fun V C => ?_)
    refine mv_iload_n C rfl rfl ?_
    refine mv_if_ne C rfl (fun c1 => ?_) (fun c1 => ?_)
    · refine mv_iload_n C rfl rfl ?_
      refine mv_is6 C rfl rfl ?_
      exact hF _ V C
    · exact absurd ((nI_eq (b := 0) (by omega) (by decide)).mp c1) (by omega)
end

