section
def kwf (u : hM) (B U s : Nat) : Option (List Nat) := (kcl (u 0 0) s (u 0 0) []).find? (fun l => !kGO u B U (kset l))
def kws (u : hM) (B U : Nat) : Nat → Nat → Option (List Nat)
  | 0, _ => none
  | k + 1, s => match kwf u B U s with
    | some l => some l
    | none => kws u B U k (s + 1)
def kan : Option (List Nat) → Int32
  | some l => nI l.length
  | none => -3
theorem kws_big {u : hM} {B U : Nat} (hi : hI u) : ∀ (k s : Nat), s + k = 4 → u 0 0 < s → kws u B U k s = none
  | 0, _, _, _ => rfl
  | k + 1, s, h, hs => by
    have h24 := hi.1
    simp only [kws, kwf]
    rw [kcl_nil h24 (by omega) hs]
    exact kws_big hi k (s + 1) (by omega) (by omega)
def kPo (u : hM) (z : mv_Z) (o : Option (List Nat)) (z1 : mv_Z) : Prop := rX u z1 ∧ fX z z1 ∧ ∀ l, o = some l → ∀ i, i < l.length → z1.1 19 i = nI (kgd l i)
theorem kPo_tr {u : hM} {z z1 z2 : mv_Z} {o : Option (List Nat)} (h : fX z z1) (h2 : kPo u z1 o z2) : kPo u z o z2 := ⟨h2.1, fX_tr h h2.2.1, h2.2.2⟩
theorem kQ_w {u : hM} {B U N : Nat} {z : mv_Z} (h : kQ u B U N z) (F : Nat → Int32) : kQ u B U N (mv_w z 19 F) := ⟨rX_freew h.1 19 F (by decide), h.2.1, h.2.2.1, h.2.2.2.1, h.2.2.2.2.1, h.2.2.2.2.2⟩
theorem kQ_le {u : hM} {B U N M : Nat} {z : mv_Z} (h : kQ u B U N z) (hM : N ≤ M) : kQ u B U M z := by
  obtain ⟨h1, h2, h3, h4, h5, e, h6, h7⟩ := h
  exact ⟨h1, h2, h3, h4, h5, e, by omega, h7⟩
/-- the loop over the rows of one size -/
theorem r_rows (u : hM) (B U s : Nat) (hi : hI u) (hB : B < 48) (hU : U < 48) (hBU : B ≤ U) (hs : s ≤ 3) (hsn : s ≤ u 0 0) (o : Option (List Nat))
    (ihS : ∀ z, kQ u B U ((s + 1) * 2024) z → ∃ z1, kPo u z o z1 ∧ ∀ w4 w5 w6 : Option Value, mv_Fr pX7_fewest (some .int) 5 (some (.int (kan o))) (mv_E z1) 44 [some (.ref 1), some (.int (nI B)), some (.int (nI U)), some (.int (nI (s + 1))), w4, w5, w6] (mv_E z)) :
    ∀ (L : List (List Nat)) (l : List Nat) (c : Nat) (z : mv_Z), kch (u 0 0) s (l :: L) = true → c + 1 + L.length ≤ 2024 → kQ u B U (s * 2024 + c) z → (∀ i, i < s → z.1 19 i = nI (kgd l i)) → ∃ z1, kPo u z (match (l :: L).find? (fun l => !kGO u B U (kset l)) with | some l => some l | none => o) z1 ∧ ∀ w6 : Option Value, mv_Fr pX7_fewest (some .int) 5 (some (.int (kan (match (l :: L).find? (fun l => !kGO u B U (kset l)) with | some l => some l | none => o)))) (mv_E z1) 71 [some (.ref 1), some (.int (nI B)), some (.int (nI U)), some (.int (nI s)), some (.int 1), some (.int (nI c)), w6] (mv_E z) := by
  have h24 := hi.1
  intro L
  induction L with
  | nil =>
    intro l c z hch hc hQ hp
    obtain ⟨hl, hl2, -⟩ := kch_l hch
    have R1 := r_picked z l s hl hs (fun i h => by have := (hl2 i h).1; omega) hp
    have e0 := kch_0 hch
    obtain ⟨x, R2, hx⟩ := kQ_miss u B U _ z (kset l) (by omega) hQ
    obtain ⟨z2, R3, hQ2, hf2, h19⟩ := r_escapes z u B U _ (kset l) hi hB hU hBU (by omega) hQ
    cases hg : kGO u B U (kset l) with
    | false =>
      have hxf : x = false := by
        cases x with
        | false => rfl
        | true => rw [hx rfl] at hg; cases hg
      subst hxf
      rw [hg] at R3
      rw [show List.find? (fun l => !kGO u B U (kset l)) [l] = some l from by simp [hg]]
      dsimp only
      refine ⟨z2, ⟨hQ2.1, hf2, fun l1 h1 i h2 => ?_⟩, fun w6 V C => ?_⟩
      · cases h1; rw [h19]; exact hp i (by omega)
      · have hk : kan (some l) = nI s := by show nI l.length = nI s; rw [hl]
        rw [hk] at C
        refine mv_iload C rfl rfl ?_
        refine mv_sipush C rfl ?_
        refine mv_icmp_ge C rfl (fun c76 => ?_) (fun c76 => ?_)
        · exact absurd c76 (nI_ge (b := 2024) (by omega) (by decide))
        · refine mv_iload C rfl rfl ?_
          refine mv_if_eq C rfl (fun c81 => ?_) (fun c81 => ?_)
          · exact absurd c81 (by decide)
          · refine mv_aload_n C rfl rfl ?_
            refine mv_iload_n C rfl rfl ?_
            refine mv_cV C rfl (mv_up R1 rfl) (by decide) rfl rfl rfl (Nat.le_of_ble_eq_true rfl) (Nat.le_refl _) (Nat.le_refl _) rfl ?_
            refine mv_is6 C rfl rfl ?_
            refine mv_aload_n C rfl rfl ?_
            refine mv_iload C rfl rfl ?_
            refine mv_cV C rfl (mv_up R2 rfl) (by decide) rfl rfl rfl (Nat.le_of_ble_eq_true rfl) (Nat.le_refl _) (Nat.le_refl _) rfl ?_
            refine mv_if_ne C rfl (fun c97 => ?_) (fun c97 => ?_)
            · exact absurd rfl c97
            · refine mv_aload_n C rfl rfl ?_
              refine mv_iload C rfl rfl ?_
              refine mv_cV C rfl R3 (by decide) rfl rfl rfl (Nat.le_of_ble_eq_true rfl) (Nat.le_refl _) (Nat.le_refl _) rfl ?_
              refine mv_if_ne C rfl (fun c106 => ?_) (fun c106 => ?_)
              · exact absurd rfl c106
              · refine mv_iload_n C rfl rfl ?_
                refine mv_ireturn C rfl mv_okI ?_ ?_
                all_goals rfl
    | true =>
      rw [hg] at R3
      rw [show List.find? (fun l => !kGO u B U (kset l)) [l] = none from by simp [hg]]
      dsimp only
      have nxt : ∀ z', kQ u B U (s * 2024 + c + 1) z' → fX z z' → z'.1 19 = z.1 19 → ∃ z1, kPo u z o z1 ∧ ∀ w6 : Option Value, mv_Fr pX7_fewest (some .int) 5 (some (.int (kan o))) (mv_E z1) 111 [some (.ref 1), some (.int (nI B)), some (.int (nI U)), some (.int (nI s)), some (.int 1), some (.int (nI c)), w6] (mv_E z') := by
        intro z' hQ' hf' h19'
        obtain ⟨z1, hP, hF⟩ := ihS z' (kQ_le hQ' (by omega))
        refine ⟨z1, kPo_tr hf' hP, fun w6 V C => ?_⟩
        have R4 := r_pickNext z' (kgd l) (u 0 0) s hs hsn h24 (fun i h => by have := (hl2 i h).1; omega) (rX_s hQ'.1 3 6 0 (by decide)) (fun i h => by rw [h19']; exact hp i h) 0 e0
        simp only [if_true] at R4
        rw [mv_w_self] at R4
        refine mv_aload_n C rfl rfl ?_
        refine mv_iload_n C rfl rfl ?_
        refine mv_cV C rfl (mv_up R4 rfl) (by decide) rfl rfl rfl (Nat.le_of_ble_eq_true rfl) (Nat.le_refl _) (Nat.le_refl _) rfl ?_
        refine mv_is4 C rfl rfl ?_
        refine mv_inc5 C rfl rfl ?_
        refine mv_goto C rfl ?_
        refine mv_iload C rfl rfl ?_
        refine mv_sipush C rfl ?_
        refine mv_icmp_ge C rfl (fun c76 => ?_) (fun c76 => ?_)
        · refine mv_inc3 C rfl rfl ?_
          refine mv_goto C rfl ?_
          simp only [nI_1]
          exact hF _ _ _ V C
        · refine mv_iload C rfl rfl ?_
          refine mv_if_eq C rfl (fun c81 => ?_) (fun c81 => ?_)
          · refine mv_inc3 C rfl rfl ?_
            refine mv_goto C rfl ?_
            simp only [nI_1]
            exact hF _ _ _ V C
          · exact absurd rfl c81
      cases x with
      | true =>
        obtain ⟨z1, hP, hF⟩ := nxt z (kQ_le hQ (by omega)) fX_rf rfl
        refine ⟨z1, hP, fun w6 V C => ?_⟩
        refine mv_iload C rfl rfl ?_
        refine mv_sipush C rfl ?_
        refine mv_icmp_ge C rfl (fun c76 => ?_) (fun c76 => ?_)
        · exact absurd c76 (nI_ge (b := 2024) (by omega) (by decide))
        · refine mv_iload C rfl rfl ?_
          refine mv_if_eq C rfl (fun c81 => ?_) (fun c81 => ?_)
          · exact absurd c81 (by decide)
          · refine mv_aload_n C rfl rfl ?_
            refine mv_iload_n C rfl rfl ?_
            refine mv_cV C rfl (mv_up R1 rfl) (by decide) rfl rfl rfl (Nat.le_of_ble_eq_true rfl) (Nat.le_refl _) (Nat.le_refl _) rfl ?_
            refine mv_is6 C rfl rfl ?_
            refine mv_aload_n C rfl rfl ?_
            refine mv_iload C rfl rfl ?_
            refine mv_cV C rfl (mv_up R2 rfl) (by decide) rfl rfl rfl (Nat.le_of_ble_eq_true rfl) (Nat.le_refl _) (Nat.le_refl _) rfl ?_
            refine mv_if_ne C rfl (fun c97 => ?_) (fun c97 => ?_)
            · exact hF _ V C
            · exact absurd c97 (by decide)
      | false =>
        obtain ⟨z1, hP, hF⟩ := nxt z2 hQ2 hf2 h19
        refine ⟨z1, hP, fun w6 V C => ?_⟩
        refine mv_iload C rfl rfl ?_
        refine mv_sipush C rfl ?_
        refine mv_icmp_ge C rfl (fun c76 => ?_) (fun c76 => ?_)
        · exact absurd c76 (nI_ge (b := 2024) (by omega) (by decide))
        · refine mv_iload C rfl rfl ?_
          refine mv_if_eq C rfl (fun c81 => ?_) (fun c81 => ?_)
          · exact absurd c81 (by decide)
          · refine mv_aload_n C rfl rfl ?_
            refine mv_iload_n C rfl rfl ?_
            refine mv_cV C rfl (mv_up R1 rfl) (by decide) rfl rfl rfl (Nat.le_of_ble_eq_true rfl) (Nat.le_refl _) (Nat.le_refl _) rfl ?_
            refine mv_is6 C rfl rfl ?_
            refine mv_aload_n C rfl rfl ?_
            refine mv_iload C rfl rfl ?_
            refine mv_cV C rfl (mv_up R2 rfl) (by decide) rfl rfl rfl (Nat.le_of_ble_eq_true rfl) (Nat.le_refl _) (Nat.le_refl _) rfl ?_
            refine mv_if_ne C rfl (fun c97 => ?_) (fun c97 => ?_)
            · exact absurd rfl c97
            · refine mv_aload_n C rfl rfl ?_
              refine mv_iload C rfl rfl ?_
              refine mv_cV C rfl R3 (by decide) rfl rfl rfl (Nat.le_of_ble_eq_true rfl) (Nat.le_refl _) (Nat.le_refl _) rfl ?_
              refine mv_if_ne C rfl (fun c106 => ?_) (fun c106 => ?_)
              · exact hF _ V C
              · exact absurd c106 (by decide)
  | cons l1 L ih =>
    intro l c z hch hc hQ hp
    simp only [List.length_cons] at hc
    obtain ⟨hl, hl2, hch2⟩ := kch_l hch
    have R1 := r_picked z l s hl hs (fun i h => by have := (hl2 i h).1; omega) hp
    obtain ⟨j, ej, hnx⟩ := kch_1 hch
    obtain ⟨x, R2, hx⟩ := kQ_miss u B U _ z (kset l) (by omega) hQ
    obtain ⟨z2, R3, hQ2, hf2, h19⟩ := r_escapes z u B U _ (kset l) hi hB hU hBU (by omega) hQ
    cases hg : kGO u B U (kset l) with
    | false =>
      have hxf : x = false := by
        cases x with
        | false => rfl
        | true => rw [hx rfl] at hg; cases hg
      subst hxf
      rw [hg] at R3
      rw [show List.find? (fun l => !kGO u B U (kset l)) (l :: l1 :: L) = some l from by simp [hg]]
      dsimp only
      refine ⟨z2, ⟨hQ2.1, hf2, fun l1 h1 i h2 => ?_⟩, fun w6 V C => ?_⟩
      · cases h1; rw [h19]; exact hp i (by omega)
      · have hk : kan (some l) = nI s := by show nI l.length = nI s; rw [hl]
        rw [hk] at C
        refine mv_iload C rfl rfl ?_
        refine mv_sipush C rfl ?_
        refine mv_icmp_ge C rfl (fun c76 => ?_) (fun c76 => ?_)
        · exact absurd c76 (nI_ge (b := 2024) (by omega) (by decide))
        · refine mv_iload C rfl rfl ?_
          refine mv_if_eq C rfl (fun c81 => ?_) (fun c81 => ?_)
          · exact absurd c81 (by decide)
          · refine mv_aload_n C rfl rfl ?_
            refine mv_iload_n C rfl rfl ?_
            refine mv_cV C rfl (mv_up R1 rfl) (by decide) rfl rfl rfl (Nat.le_of_ble_eq_true rfl) (Nat.le_refl _) (Nat.le_refl _) rfl ?_
            refine mv_is6 C rfl rfl ?_
            refine mv_aload_n C rfl rfl ?_
            refine mv_iload C rfl rfl ?_
            refine mv_cV C rfl (mv_up R2 rfl) (by decide) rfl rfl rfl (Nat.le_of_ble_eq_true rfl) (Nat.le_refl _) (Nat.le_refl _) rfl ?_
            refine mv_if_ne C rfl (fun c97 => ?_) (fun c97 => ?_)
            · exact absurd rfl c97
            · refine mv_aload_n C rfl rfl ?_
              refine mv_iload C rfl rfl ?_
              refine mv_cV C rfl R3 (by decide) rfl rfl rfl (Nat.le_of_ble_eq_true rfl) (Nat.le_refl _) (Nat.le_refl _) rfl ?_
              refine mv_if_ne C rfl (fun c106 => ?_) (fun c106 => ?_)
              · exact absurd rfl c106
              · refine mv_iload_n C rfl rfl ?_
                refine mv_ireturn C rfl mv_okI ?_ ?_
                all_goals rfl
    | true =>
      rw [hg] at R3
      rw [show List.find? (fun l => !kGO u B U (kset l)) (l :: l1 :: L) = List.find? (fun l => !kGO u B U (kset l)) (l1 :: L) from List.find?_cons_of_neg (by simp [hg])]
      have nxt : ∀ z', kQ u B U (s * 2024 + c + 1) z' → fX z z' → z'.1 19 = z.1 19 → ∃ z1, kPo u z (match (l1 :: L).find? (fun l => !kGO u B U (kset l)) with | some l => some l | none => o) z1 ∧ ∀ w6 : Option Value, mv_Fr pX7_fewest (some .int) 5 (some (.int (kan (match (l1 :: L).find? (fun l => !kGO u B U (kset l)) with | some l => some l | none => o)))) (mv_E z1) 111 [some (.ref 1), some (.int (nI B)), some (.int (nI U)), some (.int (nI s)), some (.int 1), some (.int (nI c)), w6] (mv_E z') := by
        intro z' hQ' hf' h19'
        have R4 := r_pickNext z' (kgd l) (u 0 0) s hs hsn h24 (fun i h => by have := (hl2 i h).1; omega) (rX_s hQ'.1 3 6 0 (by decide)) (fun i h => by rw [h19']; exact hp i h) (j + 1) ej
        simp only [show ¬ j + 1 = 0 by omega, if_false, Nat.add_sub_cancel] at R4
        obtain ⟨z1, hP, hF⟩ := ih l1 (c + 1) (mv_w z' 19 (kfl3 (z'.1 19) j (kgd l j + 1) s)) hch2 (by omega) (kQ_le (kQ_w hQ' _) (by omega)) (fun i h => by
          rw [mv_w_get, hnx i h]
          unfold kfl3 knq
          by_cases hj : j ≤ i
          · rw [if_pos ⟨hj, h⟩, show Nat.blt i j = false from by
              cases hb : Nat.blt i j with
              | false => rfl
              | true => have := Nat.blt_eq.mp hb; omega]; rfl
          · rw [if_neg (by omega), Nat.blt_eq.mpr (by omega), cond_true, h19']; exact hp i h)
        refine ⟨z1, kPo_tr (fX_w hf' (by decide)) hP, fun w6 V C => ?_⟩
        refine mv_aload_n C rfl rfl ?_
        refine mv_iload_n C rfl rfl ?_
        refine mv_cV C rfl (mv_up R4 rfl) (by decide) rfl rfl rfl (Nat.le_of_ble_eq_true rfl) (Nat.le_refl _) (Nat.le_refl _) rfl ?_
        refine mv_is4 C rfl rfl ?_
        refine mv_inc5 C rfl rfl ?_
        refine mv_goto C rfl ?_
        simp only [nI_1]
        exact hF _ V C
      cases x with
      | true =>
        obtain ⟨z1, hP, hF⟩ := nxt z (kQ_le hQ (by omega)) fX_rf rfl
        refine ⟨z1, hP, fun w6 V C => ?_⟩
        refine mv_iload C rfl rfl ?_
        refine mv_sipush C rfl ?_
        refine mv_icmp_ge C rfl (fun c76 => ?_) (fun c76 => ?_)
        · exact absurd c76 (nI_ge (b := 2024) (by omega) (by decide))
        · refine mv_iload C rfl rfl ?_
          refine mv_if_eq C rfl (fun c81 => ?_) (fun c81 => ?_)
          · exact absurd c81 (by decide)
          · refine mv_aload_n C rfl rfl ?_
            refine mv_iload_n C rfl rfl ?_
            refine mv_cV C rfl (mv_up R1 rfl) (by decide) rfl rfl rfl (Nat.le_of_ble_eq_true rfl) (Nat.le_refl _) (Nat.le_refl _) rfl ?_
            refine mv_is6 C rfl rfl ?_
            refine mv_aload_n C rfl rfl ?_
            refine mv_iload C rfl rfl ?_
            refine mv_cV C rfl (mv_up R2 rfl) (by decide) rfl rfl rfl (Nat.le_of_ble_eq_true rfl) (Nat.le_refl _) (Nat.le_refl _) rfl ?_
            refine mv_if_ne C rfl (fun c97 => ?_) (fun c97 => ?_)
            · exact hF _ V C
            · exact absurd c97 (by decide)
      | false =>
        obtain ⟨z1, hP, hF⟩ := nxt z2 hQ2 hf2 h19
        refine ⟨z1, hP, fun w6 V C => ?_⟩
        refine mv_iload C rfl rfl ?_
        refine mv_sipush C rfl ?_
        refine mv_icmp_ge C rfl (fun c76 => ?_) (fun c76 => ?_)
        · exact absurd c76 (nI_ge (b := 2024) (by omega) (by decide))
        · refine mv_iload C rfl rfl ?_
          refine mv_if_eq C rfl (fun c81 => ?_) (fun c81 => ?_)
          · exact absurd c81 (by decide)
          · refine mv_aload_n C rfl rfl ?_
            refine mv_iload_n C rfl rfl ?_
            refine mv_cV C rfl (mv_up R1 rfl) (by decide) rfl rfl rfl (Nat.le_of_ble_eq_true rfl) (Nat.le_refl _) (Nat.le_refl _) rfl ?_
            refine mv_is6 C rfl rfl ?_
            refine mv_aload_n C rfl rfl ?_
            refine mv_iload C rfl rfl ?_
            refine mv_cV C rfl (mv_up R2 rfl) (by decide) rfl rfl rfl (Nat.le_of_ble_eq_true rfl) (Nat.le_refl _) (Nat.le_refl _) rfl ?_
            refine mv_if_ne C rfl (fun c97 => ?_) (fun c97 => ?_)
            · exact absurd rfl c97
            · refine mv_aload_n C rfl rfl ?_
              refine mv_iload C rfl rfl ?_
              refine mv_cV C rfl R3 (by decide) rfl rfl rfl (Nat.le_of_ble_eq_true rfl) (Nat.le_refl _) (Nat.le_refl _) rfl ?_
              refine mv_if_ne C rfl (fun c106 => ?_) (fun c106 => ?_)
              · exact hF _ V C
              · exact absurd c106 (by decide)
theorem r_sizes (u : hM) (B U : Nat) (hi : hI u) (hB : B < 48) (hU : U < 48) (hBU : B ≤ U) : ∀ (k s : Nat) (z : mv_Z), s + k = 4 → kQ u B U (s * 2024) z → ∃ z1, kPo u z (kws u B U k s) z1 ∧ ∀ w4 w5 w6 : Option Value, mv_Fr pX7_fewest (some .int) 5 (some (.int (kan (kws u B U k s)))) (mv_E z1) 44 [some (.ref 1), some (.int (nI B)), some (.int (nI U)), some (.int (nI s)), w4, w5, w6] (mv_E z) := by
  have h24 := hi.1
  intro k
  induction k with
  | zero =>
    intro s z hs hQ
    refine ⟨z, ⟨hQ.1, fX_rf, fun l h => by cases h⟩, fun w4 w5 w6 V C => ?_⟩
    have C2 : mv_Clo pX7_fewest (some .int) (mv_Runs 5) (mv_E z).1 (mv_E z).2.1 (some (.int (-3))) (mv_E z) V := C
    clear C
    have C := C2
    refine mv_iload_n C rfl rfl ?_
    refine mv_iconst C rfl ?_
    refine mv_icmp_gt C rfl (fun c46 => ?_) (fun c46 => ?_)
    · refine mv_bipush C rfl ?_
      refine mv_ireturn C rfl mv_okI ?_ ?_
      all_goals rfl
    · exact absurd (nI_lt (a := 3) (by omega) (by omega)) c46
  | succ k ih =>
    intro s z hs hQ
    have hn : z.1 3 6 = nI (u 0 0) := rX_s hQ.1 3 6 0 (by decide)
    by_cases hsn : s ≤ u 0 0
    · obtain ⟨l, L, hL, hid⟩ := kcl_hd h24 (show s ≤ 3 by omega) hsn
      obtain ⟨hch, hlen⟩ := kcl_ch h24 (show s ≤ 3 by omega)
      rw [hL] at hch hlen
      have R1 := r_pickLowest z s (by omega)
      obtain ⟨z1, hP, hF⟩ := r_rows u B U s hi hB hU hBU (by omega) hsn (kws u B U k (s + 1)) (fun z hz => ih (s + 1) z (by omega) hz) L l 0 (mv_w z 19 (kid (z.1 19) s)) hch (by simp only [List.length_cons] at hlen; omega) (kQ_le (kQ_w hQ _) (by omega)) (fun i h => by
        rw [mv_w_get, hid i h]; unfold kid; rw [if_pos h])
      have ek : kws u B U (k + 1) s = (match (l :: L).find? (fun l => !kGO u B U (kset l)) with | some l => some l | none => kws u B U k (s + 1)) := by
        simp only [kws, kwf]; rw [hL]
      rw [ek]
      refine ⟨z1, kPo_tr (fX_w fX_rf (by decide)) hP, fun w4 w5 w6 V C => ?_⟩
      refine mv_iload_n C rfl rfl ?_
      refine mv_iconst C rfl ?_
      refine mv_icmp_gt C rfl (fun c46 => ?_) (fun c46 => ?_)
      · exact absurd ((nI_ltI (a := 3) (by omega) (by omega)).mp c46) (by omega)
      · refine mv_iload_n C rfl rfl ?_
        refine mv_aload_n C rfl rfl ?_
        refine mv_getR C rfl rfl rfl ?_
        refine mv_getJ C rfl rfl rfl hn ?_
        refine mv_icmp_gt C rfl (fun c57 => ?_) (fun c57 => ?_)
        · exact absurd ((nI_ltI (by omega) (by omega)).mp c57) (by omega)
        · refine mv_aload_n C rfl rfl ?_
          refine mv_iload_n C rfl rfl ?_
          refine mv_cV C rfl (mv_up R1 rfl) (by decide) rfl rfl rfl (Nat.le_of_ble_eq_true rfl) (Nat.le_refl _) (Nat.le_refl _) rfl ?_
          refine mv_iconst C rfl ?_
          refine mv_is4 C rfl rfl ?_
          refine mv_iconst C rfl ?_
          refine mv_is5 C rfl rfl ?_
          exact hF _ V C
    · rw [kws_big hi (k + 1) s hs (by omega)]
      refine ⟨z, ⟨hQ.1, fX_rf, fun l h => by cases h⟩, fun w4 w5 w6 V C => ?_⟩
      have C2 : mv_Clo pX7_fewest (some .int) (mv_Runs 5) (mv_E z).1 (mv_E z).2.1 (some (.int (-3))) (mv_E z) V := C
      clear C
      have C := C2
      refine mv_iload_n C rfl rfl ?_
      refine mv_iconst C rfl ?_
      refine mv_icmp_gt C rfl (fun c46 => ?_) (fun c46 => ?_)
      · exact absurd ((nI_ltI (a := 3) (by omega) (by omega)).mp c46) (by omega)
      · refine mv_iload_n C rfl rfl ?_
        refine mv_aload_n C rfl rfl ?_
        refine mv_getR C rfl rfl rfl ?_
        refine mv_getJ C rfl rfl rfl hn ?_
        refine mv_icmp_gt C rfl (fun c57 => ?_) (fun c57 => ?_)
        · refine mv_bipush C rfl ?_
          refine mv_ireturn C rfl mv_okI ?_ ?_
          all_goals rfl
        · exact absurd (nI_lt (by omega) (by omega)) c57
end

