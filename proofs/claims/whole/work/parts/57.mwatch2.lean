section
theorem mv_uuy {z : mv_Z} {q i : Nat} {x y : Int32} : mv_u (mv_u z q i x) q i y = mv_u z q i y := by
  unfold mv_u
  refine Prod.ext (funext fun q1 => ?_) rfl
  dsimp only [va_up]
  by_cases e : q1 = q
  · subst e; simp only [if_true]; funext j
    unfold upd
    by_cases e2 : j = i
    · rw [if_pos e2, if_pos e2]
    · rw [if_neg e2, if_neg e2, if_neg e2]
  · simp [e]
theorem kasc {l : List Nat} {s : Nat} (h : ∀ i, i < s → 1 ≤ i → kgd l (i - 1) < kgd l i) : ∀ (d i : Nat), i + d < s → kgd l i + d ≤ kgd l (i + d)
  | 0, i, _ => Nat.le_refl _
  | d + 1, i, hd => by
    have h1 := kasc h d i (by omega)
    have h2 := h (i + (d + 1)) hd (by omega)
    rw [show i + (d + 1) - 1 = i + d by omega] at h2
    omega
/-- the parishes of a set, told in their order -/
theorem r_mtell (z : mv_Z) (u : hM) (l : List Nat) (s d : Nat) (hi : hI u) (hn : z.1 68 1 = nI (u 0 0)) (hl : l.length = s) (hs : s ≤ 3) (hlt : ∀ i, i < s → kgd l i < u 0 0) (hasc : ∀ i, i < s → 1 ≤ i → kgd l (i - 1) < kgd l i) (w1 w2 : Int32) (many : Nat) (G0 : Nat → Int32) : ∀ (k p j : Nat), p + k = u 0 0 → j ≤ s → (∀ i, i < j → kgd l i < p) → (∀ i, j ≤ i → i < s → p ≤ kgd l i) → mv_Fr pX11_watch (some .int) d (some (.int (nI many))) (mv_E (mv_u (mv_w z 82 (kF G0 (kgd l) s)) 68 18 (nI s))) 67 [some (.ref 68), some (.int w1), some (.int w2), some (.int (nI many)), some (.int (kb (kset l))), some (.int (nI p))] (mv_E (mv_u (mv_w z 82 (kF G0 (kgd l) j)) 68 18 (nI j))) := by
  have h24 := hi.1
  intro k
  induction k with
  | zero =>
    intro p j hp hj h1 h2 V C
    have ej : j = s := by
      rcases Nat.lt_or_ge j s with q | q
      · have a := h2 j (Nat.le_refl _) q
        have b := hlt j q
        omega
      · omega
    subst ej
    have y1 : (mv_u (mv_w z 82 (kF G0 (kgd l) j)) 68 18 (nI j)).1 68 1 = nI (u 0 0) := hn
    refine mv_iload C rfl rfl ?_
    refine mv_aload_n C rfl rfl ?_
    refine mv_getJ C rfl rfl rfl y1 ?_
    refine mv_icmp_ge C rfl (fun c73 => ?_) (fun c73 => ?_)
    · refine mv_iload_n C rfl rfl ?_
      refine mv_ireturn C rfl mv_okI ?_ ?_
      all_goals rfl
    · exact absurd (nI_le (by omega) (by omega)) c73
  | succ k ih =>
    intro p j hp hj h1 h2 V C
    have y1 : (mv_u (mv_w z 82 (kF G0 (kgd l) j)) 68 18 (nI j)).1 68 1 = nI (u 0 0) := hn
    cases hk : kset l p with
    | true =>
      obtain ⟨i, hi2, he⟩ := kany_t.mp hk
      have he := of_decide_eq_true he
      have hji : j ≤ i := by
        rcases Nat.lt_or_ge i j with q | q
        · have := h1 i q; omega
        · exact q
      have hjs : j < s := by omega
      have hjp : kgd l j = p := by
        have a := kasc hasc (i - j) j (by omega)
        rw [show j + (i - j) = i by omega] at a
        have b := h2 j (Nat.le_refl _) hjs
        omega
      have e := ih (p + 1) (j + 1) (by omega) (by omega) (fun i q => by
        by_cases qq : i = j
        · rw [qq]; omega
        · have := h1 i (by omega); omega) (fun i q1 q2 => by
        have a := kasc hasc (i - j) j (by omega)
        rw [show j + (i - j) = i by omega] at a
        omega) V C
      rw [← kF_s2, hjp] at e
      have y18 : (mv_u (mv_w z 82 (kF G0 (kgd l) j)) 68 18 (nI j)).1 68 18 = nI j := mv_u_eq
      have y182 : (mv_u (mv_w z 82 (upd (kF G0 (kgd l) j) j (nI p))) 68 18 (nI j)).1 68 18 = nI j := mv_u_eq
      refine mv_iload C rfl rfl ?_
      refine mv_aload_n C rfl rfl ?_
      refine mv_getJ C rfl rfl rfl y1 ?_
      refine mv_icmp_ge C rfl (fun c73 => ?_) (fun c73 => ?_)
      · exact absurd c73 (nI_ge (by omega) (by omega))
      · refine mv_iload C rfl rfl ?_
        refine mv_iload C rfl rfl ?_
        refine mv_ishr C rfl ?_
        refine mv_iconst C rfl ?_
        refine mv_iand C rfl ?_
        refine mv_top (k_bit1 (by omega)) ?_
        rw [hk]
        refine mv_iconst C rfl ?_
        refine mv_icmp_ne C rfl (fun c84 => ?_) (fun c84 => ?_)
        · exact absurd rfl c84
        · refine mv_aload_n C rfl rfl ?_
          refine mv_getR C rfl rfl rfl ?_
          refine mv_aload_n C rfl rfl ?_
          refine mv_getJ C rfl rfl rfl y18 ?_
          refine mv_iload C rfl rfl ?_
          refine mv_ast C rfl rfl rfl (by omega) ?_
          refine mv_sto mw_u82 ?_
          refine mv_aload_n C rfl rfl ?_
          refine mv_dup C rfl rfl ?_
          refine mv_getJ C rfl rfl rfl y182 ?_
          refine mv_iconst C rfl ?_
          refine mv_iadd C rfl ?_
          refine mv_top (nI_1 _) ?_
          refine mv_putI C rfl rfl rfl rfl ?_
          refine mv_sto mv_uuy ?_
          refine mv_inc5 C rfl rfl ?_
          refine mv_goto C rfl ?_
          simp only [nI_1]
          exact e
    | false =>
      have e := ih (p + 1) j (by omega) hj (fun i q => by have := h1 i q; omega) (fun i q1 q2 => by
        have a := h2 i q1 q2
        by_cases qq : kgd l i = p
        · have : kset l p = true := kany_t.mpr ⟨i, by omega, decide_eq_true qq⟩
          rw [hk] at this; cases this
        · omega) V C
      refine mv_iload C rfl rfl ?_
      refine mv_aload_n C rfl rfl ?_
      refine mv_getJ C rfl rfl rfl y1 ?_
      refine mv_icmp_ge C rfl (fun c73 => ?_) (fun c73 => ?_)
      · exact absurd c73 (nI_ge (by omega) (by omega))
      · refine mv_iload C rfl rfl ?_
        refine mv_iload C rfl rfl ?_
        refine mv_ishr C rfl ?_
        refine mv_iconst C rfl ?_
        refine mv_iand C rfl ?_
        refine mv_top (k_bit1 (by omega)) ?_
        rw [hk]
        refine mv_iconst C rfl ?_
        refine mv_icmp_ne C rfl (fun c84 => ?_) (fun c84 => ?_)
        · refine mv_inc5 C rfl rfl ?_
          refine mv_goto C rfl ?_
          simp only [nI_1]
          exact e
        · exact absurd c84 (by decide)
theorem kset_nil : kb (kset []) = 0 := by rw [kb_0]; rfl
theorem m_watch (u : hM) (z : mv_Z) (t U : Int32) (hi : hI u) (hz : rM u z) : mR 147 [.int t, .int U] u z (.int (a_watch u t U)) (o_watch u t U) := by
  have h24 := hi.1
  have h0 := rM_free hz 68 0 0 (Or.inr ⟨rfl, by decide⟩)
  have f0 : fM z (mv_u z 68 0 0) := fM_u fM_rf (by decide)
  have hm0 := mH_of hi h0
  have h9 : (mv_u z 68 0 0).1 68 9 = hst (u 8 0) := hm0.2.2.2.1
  have hn8 := hst_neg hi
  have hge : 0 ≤ hst (u 8 0) ↔ ¬ u 8 0 = 0 := by
    rw [← hn8, i32_le, i32_lt]; omega
  have R0 := r_mIsHour (mv_u z 68 0 0) t
  have R1 := r_mIsHour (mv_u z 68 0 0) U
  unfold a_watch o_watch
  by_cases hc : kwc u t U
  · rw [if_pos hc, if_pos hc]
    obtain ⟨k1, k2, k3, k4⟩ := hc
    rw [if_pos k1] at R0
    rw [if_pos k2] at R1
    have et := nI_rngc k1.1 (show t < nI 48 from k1.2) (by decide)
    have eU := nI_rngc k2.1 (show U < nI 48 from k2.2) (by decide)
    generalize t.toNatClampNeg = B at *
    generalize U.toNatClampNeg = W at *
    obtain ⟨lB, rfl⟩ := et
    obtain ⟨lW, rfl⟩ := eU
    have hBW : B ≤ W := by
      rcases Nat.lt_or_ge W B with q | q
      · exact absurd (nI_lt q (by omega)) k3
      · exact q
    have hex : ∀ p, (mv_u z 68 0 0).1 70 p = nI (u 7 p) := fun p => rM_a h0 70 7 (by decide) p
    generalize hz0 : mv_u z 68 0 0 = z0 at *
    have loop : ∀ (k s : Nat) (m : Nat → Int32), s + k = 4 → ∃ z1, (rM (kow u (kws u B W k s)) z1 ∧ fM z z1) ∧ ∀ w4 w5 : Option Value, mv_Fr pX11_watch (some .int) 9 (some (.int (kan (kws u B W k s)))) (mv_E z1) 35 [some (.ref 68), some (.int (nI B)), some (.int (nI W)), some (.int (nI s)), w4, w5] (mv_E (ky z0 m (z0.1 81))) := by
      intro k
      induction k with
      | zero =>
        intro s m hs
        refine ⟨ky z0 m (z0.1 81), ⟨ky_rM h0 _ _, ky_fM f0 _ _⟩, fun w4 w5 V C => ?_⟩
        have C2 : mv_Clo pX11_watch (some .int) (mv_Runs 9) (mv_E (ky z0 m (z0.1 81))).1 (mv_E (ky z0 m (z0.1 81))).2.1 (some (.int (-3))) (mv_E (ky z0 m (z0.1 81))) V := C
        clear C
        have C := C2
        refine mv_iload_n C rfl rfl ?_
        refine mv_iconst C rfl ?_
        refine mv_icmp_gt C rfl (fun c37 => ?_) (fun c37 => ?_)
        · refine mv_bipush C rfl ?_
          refine mv_ireturn C rfl mv_okI ?_ ?_
          all_goals rfl
        · exact absurd (nI_lt (a := 3) (by omega) (by omega)) c37
      | succ k ih =>
        intro s m hs
        obtain ⟨m1, R2⟩ := r_watchers z0 u (z0.1 81) B W lB lW hBW hi hm0 hex s (u 0 0) [] m (by omega) (Nat.le_refl _) (fun p hp => by cases hp)
        rw [Nat.sub_self, kset_nil] at R2
        rw [show (kcl (u 0 0) s (u 0 0) []).find? (fun l => !kGO u B W (kset l)) = kwf u B W s from rfl] at R2
        have hsz := kws_ok (B := B) (U := W) hi (k + 1) s hs
        simp only [kws] at hsz ⊢
        cases hf : kwf u B W s with
        | none =>
          rw [hf] at R2
          obtain ⟨z1, hP, hF⟩ := ih (s + 1) m1 (by omega)
          refine ⟨z1, hP, fun w4 w5 V C => ?_⟩
          have R3 : mv_Runs (6 + s) 146 [.ref 68, .int (nI s), .int 0, .int 0, .int (nI B), .int (nI W)] (mv_E (ky z0 m (z0.1 81))) (some (.int (-1))) (mv_E (ky z0 m1 (z0.1 81))) := R2
          have R4 := mv_Runs_mono (6 + s) 9 (by omega) _ _ _ _ _ R3
          refine mv_iload_n C rfl rfl ?_
          refine mv_iconst C rfl ?_
          refine mv_icmp_gt C rfl (fun c37 => ?_) (fun c37 => ?_)
          · exact absurd ((nI_ltI (a := 3) (by omega) (by omega)).mp c37) (by omega)
          · refine mv_aload_n C rfl rfl ?_
            refine mv_iload_n C rfl rfl ?_
            refine mv_iconst C rfl ?_
            refine mv_iconst C rfl ?_
            refine mv_iload_n C rfl rfl ?_
            refine mv_iload_n C rfl rfl ?_
            refine mv_cV C rfl R4 (by decide) rfl rfl rfl (Nat.le_of_ble_eq_true rfl) (Nat.le_refl _) (Nat.le_refl _) rfl ?_
            refine mv_is4 C rfl rfl ?_
            refine mv_iload C rfl rfl ?_
            refine mv_if_ge C rfl (fun c53 => ?_) (fun c53 => ?_)
            · exact absurd c53 (by decide)
            · refine mv_goto C rfl ?_
              refine mv_inc3 C rfl rfl ?_
              refine mv_goto C rfl ?_
              simp only [nI_1]
              exact hF _ _ V C
        | some l =>
          rw [hf] at R2 hsz
          obtain ⟨g1, g2, -⟩ := hsz l rfl
          have hlen : l.length = s := by
            unfold kwf at hf
            exact (kch_m (kcl_ch h24 (show s ≤ 3 by omega)).1 l (List.mem_of_find?_eq_some hf)).1
          have hnn : 0 ≤ kb (kset l) := by
            have q : ¬ kb (kset l) < 0 := kl24_nn (fun p hp => by
              obtain ⟨i, hi2, he⟩ := kany_t.mp hp
              have := of_decide_eq_true he
              have := (g2 i hi2).1
              omega)
            rw [i32_lt] at q
            rw [i32_le]
            omega
          have hrm : rM (hrw u l.length (kgd l)) (mv_u (mv_w (ky z0 m1 (z0.1 81)) 82 (kF (z0.1 82) (kgd l) l.length)) 68 18 (nI l.length)) := rM_row (ky_rM h0 _ _) _ _ _ (fun i h => kF_i h)
          refine ⟨_, ⟨hrm, fM_u (fM_w (ky_fM f0 _ _) (by decide)) (by decide)⟩, fun w4 w5 V C => ?_⟩
          have C2 : mv_Clo pX11_watch (some .int) (mv_Runs 9) (mv_E (mv_u (mv_w (ky z0 m1 (z0.1 81)) 82 (kF (z0.1 82) (kgd l) s)) 68 18 (nI s))).1 (mv_E (mv_u (mv_w (ky z0 m1 (z0.1 81)) 82 (kF (z0.1 82) (kgd l) s)) 68 18 (nI s))).2.1 (some (.int (nI s))) (mv_E (mv_u (mv_w (ky z0 m1 (z0.1 81)) 82 (kF (z0.1 82) (kgd l) s)) 68 18 (nI s))) V := by rw [← hlen]; exact C
          clear C
          have C := C2
          have R3 : mv_Runs (6 + s) 146 [.ref 68, .int (nI s), .int 0, .int 0, .int (nI B), .int (nI W)] (mv_E (ky z0 m (z0.1 81))) (some (.int (kb (kset l)))) (mv_E (ky z0 m1 (z0.1 81))) := R2
          have R4 := mv_Runs_mono (6 + s) 9 (by omega) _ _ _ _ _ R3
          have e := r_mtell (ky z0 m1 (z0.1 81)) u l s 9 hi hm0.1 hlen (by omega) (fun i h => (g2 i (by omega)).1) (fun i h h1 => (g2 i (by omega)).2 h1) (nI B) (nI W) s (z0.1 82) (u 0 0) 0 0 (by omega) (by omega) (fun i h => absurd h (by omega)) (fun i _ _ => Nat.zero_le _) V C
          rw [kF_0, show mv_w (ky z0 m1 (z0.1 81)) 82 (z0.1 82) = ky z0 m1 (z0.1 81) from by
            rw [show z0.1 82 = (ky z0 m1 (z0.1 81)).1 82 from rfl, mv_w_self]] at e
          refine mv_iload_n C rfl rfl ?_
          refine mv_iconst C rfl ?_
          refine mv_icmp_gt C rfl (fun c37 => ?_) (fun c37 => ?_)
          · exact absurd ((nI_ltI (a := 3) (by omega) (by omega)).mp c37) (by omega)
          · refine mv_aload_n C rfl rfl ?_
            refine mv_iload_n C rfl rfl ?_
            refine mv_iconst C rfl ?_
            refine mv_iconst C rfl ?_
            refine mv_iload_n C rfl rfl ?_
            refine mv_iload_n C rfl rfl ?_
            refine mv_cV C rfl R4 (by decide) rfl rfl rfl (Nat.le_of_ble_eq_true rfl) (Nat.le_refl _) (Nat.le_refl _) rfl ?_
            refine mv_is4 C rfl rfl ?_
            refine mv_iload C rfl rfl ?_
            refine mv_if_ge C rfl (fun c53 => ?_) (fun c53 => ?_)
            · refine mv_aload_n C rfl rfl ?_
              refine mv_iconst C rfl ?_
              refine mv_putI C rfl rfl rfl rfl ?_
              refine mv_iconst C rfl ?_
              refine mv_is5 C rfl rfl ?_
              exact e
            · exact absurd hnn c53
    obtain ⟨z1, ⟨hr, hf⟩, hF⟩ := loop 4 0 (z0.1 80) (by omega)
    rw [ky_self] at hF
    refine ⟨z1, mv_up (d := 10) ?_ rfl, hr, hf⟩
    refine mv_start pX11_watch (some .int) [some (.ref 68), some (.int (nI B)), some (.int (nI W)), none, none, none] rfl rfl rfl rfl (fun V C => ?_)
    refine mv_aload_n C rfl rfl ?_
    refine mv_iconst C rfl ?_
    refine mv_putI C rfl rfl rfl rfl ?_
    rw [hz0]
    refine mv_iload_n C rfl rfl ?_
    refine mv_cS C rfl (mv_up R0 rfl) (by decide) rfl (Nat.le_of_ble_eq_true rfl) (Nat.le_refl _) (Nat.le_refl _) rfl ?_
    refine mv_if_eq C rfl (fun c9 => ?_) (fun c9 => ?_)
    · exact absurd c9 (by decide)
    · refine mv_iload_n C rfl rfl ?_
      refine mv_cS C rfl (mv_up R1 rfl) (by decide) rfl (Nat.le_of_ble_eq_true rfl) (Nat.le_refl _) (Nat.le_refl _) rfl ?_
      refine mv_if_eq C rfl (fun c16 => ?_) (fun c16 => ?_)
      · exact absurd c16 (by decide)
      · refine mv_iload_n C rfl rfl ?_
        refine mv_iload_n C rfl rfl ?_
        refine mv_icmp_lt C rfl (fun c21 => ?_) (fun c21 => ?_)
        · exact absurd c21 k3
        · refine mv_aload_n C rfl rfl ?_
          refine mv_getJ C rfl rfl rfl h9 ?_
          refine mv_if_ge C rfl (fun c28 => ?_) (fun c28 => ?_)
          · refine mv_iconst C rfl ?_
            refine mv_is_n3 C rfl rfl ?_
            exact hF _ _ V C
          · exact absurd (hge.mpr k4) c28
  · rw [if_neg hc, if_neg hc]
    refine ⟨_, mv_up (d := 5) (S1 := mv_E (mv_u z 68 0 0)) ?_ rfl, h0, f0⟩
    refine mv_start pX11_watch (some .int) [some (.ref 68), some (.int t), some (.int U), none, none, none] rfl rfl rfl rfl (fun V C => ?_)
    refine mv_aload_n C rfl rfl ?_
    refine mv_iconst C rfl ?_
    refine mv_putI C rfl rfl rfl rfl ?_
    refine mv_iload_n C rfl rfl ?_
    refine mv_cS C rfl (mv_up R0 rfl) (by decide) rfl (Nat.le_of_ble_eq_true rfl) (Nat.le_refl _) (Nat.le_refl _) rfl ?_
    refine mv_if_eq C rfl (fun c9 => ?_) (fun c9 => ?_)
    · refine mv_iconst C rfl ?_
      refine mv_ireturn C rfl mv_okI ?_ ?_
      all_goals rfl
    · refine mv_iload_n C rfl rfl ?_
      refine mv_cS C rfl (mv_up R1 rfl) (by decide) rfl (Nat.le_of_ble_eq_true rfl) (Nat.le_refl _) (Nat.le_refl _) rfl ?_
      refine mv_if_eq C rfl (fun c16 => ?_) (fun c16 => ?_)
      · refine mv_iconst C rfl ?_
        refine mv_ireturn C rfl mv_okI ?_ ?_
        all_goals rfl
      · refine mv_iload_n C rfl rfl ?_
        refine mv_iload_n C rfl rfl ?_
        refine mv_icmp_lt C rfl (fun c21 => ?_) (fun c21 => ?_)
        · refine mv_iconst C rfl ?_
          refine mv_ireturn C rfl mv_okI ?_ ?_
          all_goals rfl
        · refine mv_aload_n C rfl rfl ?_
          refine mv_getJ C rfl rfl rfl h9 ?_
          refine mv_if_ge C rfl (fun c28 => ?_) (fun c28 => ?_)
          · exact absurd ⟨b10.mp c9, b10.mp c16, c21, hge.mp c28⟩ hc
          · refine mv_iconst C rfl ?_
            refine mv_ireturn C rfl mv_okI ?_ ?_
            all_goals rfl
end

