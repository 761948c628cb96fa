section
theorem kA_B {u : hM} (hi : hI u) {B : Nat} : ∀ f, f < u 9 0 → kA u B (-1) f = kB (kAll u) u B f := by
  intro f hf
  have h40 : u 9 0 ≤ 40 := hi.2.2.2.2.2.2.2.1
  unfold kA kB kAll
  rw [Bool.eq_iff_iff]
  simp only [decide_eq_true_eq, Bool.and_eq_true]
  exact ⟨fun q => ⟨q.1, q.2.2⟩, fun q => ⟨q.1, nI_nm1 (by omega), q.2⟩⟩
theorem kOK_A {u : hM} {A B : Nat → Bool} {a : Nat → Int32} {b : Nat → Int64} (h : ∀ f, f < u 9 0 → A f = B f) (ok : kOK A u a b) : kOK B u a b := by
  refine ⟨fun t ht => ?_, fun r hr => ?_⟩
  · rw [ok.1 t ht]; apply kb_c; intro p _; exact klet_c (fun f hf _ => h f hf)
  · rw [ok.2 r hr]; apply kL_c; intro t _
    unfold kbar
    apply kany_c; intro f hf
    unfold kbr; rw [h f hf]
theorem hst_ltb {B : Nat} (hB : B < 48) : ∀ i, i ≤ 48 → (hst B < nI i ↔ B ≤ i) := fun i hi => by
  cases B with
  | zero => simp only [hst]; rw [i32_lt, nI_toInt (by omega), i32_m1]; omega
  | succ s => simp only [hst]; rw [nI_ltI (by omega) (by omega)]; omega
theorem r_fewest (z : mv_Z) (u : hM) (B U : Nat) (hi : hI u) (hz : rX u z) (hB : B < 48) (hU : U < 48) (hBU : B ≤ U) : ∃ z1, mv_Runs 6 58 [.ref 1, .int (nI B), .int (nI U)] (mv_E z) (some (.int (kan (kws u B U 4 0)))) (mv_E z1) ∧ kPo u z (kws u B U 4 0) z1 := by
  have h8a : u 21 0 ≤ 8 := hi.2.2.2.2.2.2.2.2.2.2.2.2.2.2.2.2.1
  have hrx := rX_free (rX_free (rX_free hz 1 5 (nI B) h8a (by decide)) 1 6 (nI U) h8a (by decide)) 1 4 0 h8a (by decide)
  have h5 : (mv_u (mv_u (mv_u z 1 5 (nI B)) 1 6 (nI U)) 1 4 0).1 1 5 = nI B := rfl
  have h6 : (mv_u (mv_u (mv_u z 1 5 (nI B)) 1 6 (nI U)) 1 4 0).1 1 6 = nI U := rfl
  have h4 : (mv_u (mv_u (mv_u z 1 5 (nI B)) 1 6 (nI U)) 1 4 0).1 1 4 = nI 0 := rfl
  have hfx : fX z (mv_u (mv_u (mv_u z 1 5 (nI B)) 1 6 (nI U)) 1 4 0) := fX_u (fX_u (fX_u fX_rf (by decide)) (by decide)) (by decide)
  generalize hz0 : mv_u (mv_u (mv_u z 1 5 (nI B)) 1 6 (nI U)) 1 4 0 = z0 at *
  have R1 := r_heed z0 u (z0.1 15) (z0.2 16) (z0.1 17) (z0.1 18) B (-1) hB hi hrx
  rw [kz_self] at R1
  have ok := kOK_of (kA u B (-1)) u (z0.1 15) (z0.2 16)
  have R2 := r_spread z0 u (kA u B (-1)) kW (fun _ => false) _ _ (z0.1 17) (z0.1 18) 0 B (hst B) hi hrx (by omega) (by omega) ok (hst_ltb hB) (fun _ _ _ _ => rfl) (fun _ h => absurd h (by omega))
  rw [← kb_0] at R2
  have hc : ∀ t1, t1 < B → kfr (z0.1 17) (fun t1 => kb (kR (kA u B (-1)) u kW t1)) 0 B t1 = kb (kR (kB (kAll u) u B) u kW t1) := fun t1 h1 => by
    rw [kfr_i ⟨by omega, h1⟩]
    apply kb_c; intro p _
    exact kR_A (t1 + 1) t1 p (by omega) (fun f hf _ => kA_B hi f hf)
  generalize kaa (kA u B (-1)) u (z0.1 15) = a at *
  generalize kbb (kA u B (-1)) u (z0.2 16) = b at *
  generalize kfr (z0.1 17) (fun t1 => kb (kR (kA u B (-1)) u kW t1)) 0 B = c at *
  have hQ : kQ u B U (0 * 2024) (kz z0 a b c (z0.1 18)) := ⟨kz_rX hrx _ _ _ _, h5, h6, kOK_A (kA_B hi) ok, hc, 0, by omega, h4, fun i h => absurd h (by omega)⟩
  obtain ⟨z1, hP, hF⟩ := r_sizes u B U hi hB hU hBU 4 0 _ (by omega) hQ
  refine ⟨z1, ?_, kPo_tr (kz_fX hfx _ _ _ _) hP⟩
  have y5 : (kz z0 a b (z0.1 17) (z0.1 18)).1 1 5 = nI B := h5
  refine mv_start pX7_fewest (some .int) [some (.ref 1), some (.int (nI B)), some (.int (nI U)), none, none, none, none] rfl rfl rfl rfl (fun V C => ?_)
  refine mv_aload_n C rfl rfl ?_
  refine mv_iload_n C rfl rfl ?_
  refine mv_putI C rfl rfl rfl rfl ?_
  refine mv_aload_n C rfl rfl ?_
  refine mv_iload_n C rfl rfl ?_
  refine mv_putI C rfl rfl rfl rfl ?_
  refine mv_aload_n C rfl rfl ?_
  refine mv_iconst C rfl ?_
  refine mv_putI C rfl rfl rfl rfl ?_
  rw [hz0]
  refine mv_aload_n C rfl rfl ?_
  refine mv_getR C rfl rfl rfl ?_
  refine mv_aload_n C rfl rfl ?_
  refine mv_getJ C rfl rfl rfl h5 ?_
  refine mv_iconst C rfl ?_
  refine mv_cV C rfl (mv_up R1 rfl) (by decide) rfl rfl rfl (Nat.le_of_ble_eq_true rfl) (Nat.le_refl _) (Nat.le_refl _) rfl ?_
  refine mv_aload_n C rfl rfl ?_
  refine mv_getR C rfl rfl rfl ?_
  refine mv_iconst C rfl ?_
  refine mv_aload_n C rfl rfl ?_
  refine mv_getJ C rfl rfl rfl y5 ?_
  refine mv_iconst C rfl ?_
  refine mv_isub C rfl ?_
  refine mv_top (nI_pre B) ?_
  refine mv_iconst C rfl ?_
  refine mv_cV C rfl (mv_up R2 rfl) (by decide) rfl rfl rfl (Nat.le_of_ble_eq_true rfl) (Nat.le_refl _) (Nat.le_refl _) rfl ?_
  refine mv_iconst C rfl ?_
  refine mv_is_n3 C rfl rfl ?_
  exact hF _ _ _ V C
abbrev kwc (u : hM) (t U : Int32) : Prop := (0 ≤ t ∧ t < 48) ∧ (0 ≤ U ∧ U < 48) ∧ ¬ U < t ∧ ¬ u 8 0 = 0
def a_watch (u : hM) (t U : Int32) : Int32 := if kwc u t U then kan (kws u t.toNatClampNeg U.toNatClampNeg 4 0) else -1
def kow (u : hM) : Option (List Nat) → hM
  | some l => hrw u l.length (kgd l)
  | none => u
def o_watch (u : hM) (t U : Int32) : hM := if kwc u t U then kow u (kws u t.toNatClampNeg U.toNatClampNeg 4 0) else u
theorem kws_ok {u : hM} {B U : Nat} (hi : hI u) : ∀ (k s : Nat), s + k = 4 → ∀ l, kws u B U k s = some l → l.length ≤ 3 ∧ (∀ i, i < l.length → kgd l i < u 0 0 ∧ (1 ≤ i → kgd l (i - 1) < kgd l i)) ∧ kGO u B U (kset l) = false
  | 0, _, _, l, h => by cases h
  | k + 1, s, hk, l, h => by
    have h24 := hi.1
    simp only [kws] at h
    cases hf : kwf u B U s with
    | none => rw [hf] at h; exact kws_ok hi k (s + 1) (by omega) l h
    | some l1 =>
      rw [hf] at h
      cases h
      unfold kwf at hf
      have h1 := List.mem_of_find?_eq_some hf
      have h2 := List.find?_some hf
      obtain ⟨g1, g2⟩ := kch_m (kcl_ch h24 (show s ≤ 3 by omega)).1 l h1
      refine ⟨by omega, fun i hi => g2 i (by omega), by simpa using h2⟩
theorem kgd_big {l : List Nat} {i : Nat} (h : l.length ≤ i) : kgd l i = 0 := by unfold kgd; simp [List.getD, h]
theorem i_watch (u : hM) (t U : Int32) (hi : hI u) : hI (o_watch u t U) := by
  have h24 := hi.1
  unfold o_watch
  by_cases hc : kwc u t U
  · rw [if_pos hc]
    cases hk : kws u t.toNatClampNeg U.toNatClampNeg 4 0 with
    | none => exact hi
    | some l =>
      obtain ⟨h1, h2, h3⟩ := kws_ok hi 4 0 (by omega) l hk
      refine hI_row u l.length (kgd l) (by omega) (fun i => ?_) hi
      by_cases q : i < l.length
      · have := (h2 i q).1; omega
      · rw [kgd_big (by omega)]; omega
  · rw [if_neg hc]; exact hi
theorem x_watch (u : hM) (z : mv_Z) (t U : Int32) (hi : hI u) (hz : rX u z) : xR 89 [.int t, .int U] u z (.int (a_watch u t U)) (o_watch u t U) := by
  have h8a : u 21 0 ≤ 8 := hi.2.2.2.2.2.2.2.2.2.2.2.2.2.2.2.2.1
  have R0 := r_isHour z t
  have R1 := r_isHour z U
  have hs : z.1 3 9 = hst (u 8 0) := hz.2.2.1
  have hs0 := kst0 hi
  unfold a_watch o_watch
  by_cases hc : kwc u t U
  · rw [if_pos hc, if_pos hc]
    obtain ⟨c1, c2, c3, hc8⟩ := hc
    rw [if_pos c1] at R0
    rw [if_pos c2] at R1
    have et := nI_rngc c1.1 (show t < nI 48 from c1.2) (by decide)
    have eU := nI_rngc c2.1 (show U < nI 48 from c2.2) (by decide)
    generalize t.toNatClampNeg = B at *
    generalize U.toNatClampNeg = W at *
    obtain ⟨lB, rfl⟩ := et
    obtain ⟨lW, rfl⟩ := eU
    have hBW : B ≤ W := by
      rcases Nat.lt_or_ge W B with q | q
      · exact absurd (nI_lt q (by omega)) c3
      · exact q
    obtain ⟨z1, R2, hr1, hf1, hp1⟩ := r_fewest z u B W hi hz lB lW hBW
    cases hk : kws u B W 4 0 with
    | none =>
      rw [hk] at R2
      refine ⟨z1, mv_up (d := 7) ?_ rfl, hr1, hf1⟩
      show mv_Runs 7 _ _ _ (some (.int (-3))) _
      refine mv_start pX10_watch (some .int) [some (.ref 0), some (.int (nI B)), some (.int (nI W)), none] rfl rfl rfl rfl (fun V C => ?_)
      refine mv_iload_n C rfl rfl ?_
      refine mv_cS C rfl (mv_up R0 rfl) (by decide) rfl (Nat.le_of_ble_eq_true rfl) (Nat.le_refl _) (Nat.le_refl _) rfl ?_
      refine mv_if_eq C rfl (fun c4 => ?_) (fun c4 => ?_)
      · exact absurd c4 (by decide)
      · refine mv_iload_n C rfl rfl ?_
        refine mv_cS C rfl (mv_up R1 rfl) (by decide) rfl (Nat.le_of_ble_eq_true rfl) (Nat.le_refl _) (Nat.le_refl _) rfl ?_
        refine mv_if_eq C rfl (fun c11 => ?_) (fun c11 => ?_)
        · exact absurd c11 (by decide)
        · refine mv_iload_n C rfl rfl ?_
          refine mv_iload_n C rfl rfl ?_
          refine mv_icmp_lt C rfl (fun c16 => ?_) (fun c16 => ?_)
          · exact absurd c16 c3
          · refine mv_aload_n C rfl rfl ?_
            refine mv_getR C rfl rfl rfl ?_
            refine mv_getJ C rfl rfl rfl hs ?_
            refine mv_iconst C rfl ?_
            refine mv_icmp_ne C rfl (fun c27 => ?_) (fun c27 => ?_)
            · refine mv_aload_n C rfl rfl ?_
              refine mv_getR C rfl rfl rfl ?_
              refine mv_iload_n C rfl rfl ?_
              refine mv_iload_n C rfl rfl ?_
              refine mv_cV C rfl R2 (by decide) rfl rfl rfl (Nat.le_of_ble_eq_true rfl) (Nat.le_refl _) (Nat.le_refl _) rfl ?_
              refine mv_is_n3 C rfl rfl ?_
              refine mv_iload_n C rfl rfl ?_
              refine mv_if_lt C rfl (fun c43 => ?_) (fun c43 => ?_)
              · refine mv_iload_n C rfl rfl ?_
                refine mv_ireturn C rfl mv_okI ?_ ?_
                all_goals rfl
              · exact absurd (by decide) c43
            · exact absurd c27 (hs0.mpr hc8)
    | some l =>
      rw [hk] at R2
      obtain ⟨h1, h2, h3⟩ := kws_ok hi 4 0 (by omega) l hk
      have R3 := r_tellPicks z1 l l.length h1 (hp1 l hk)
      have hrx : rX (hrw u l.length (kgd l)) (kr z1 l.length (kF (z1.1 67) (kgd l) l.length)) := rX_row hr1 _ _ _ (fun i h => kF_i h) h8a
      refine ⟨_, mv_up (d := 7) ?_ rfl, hrx, kr_fX hf1⟩
      show mv_Runs 7 _ _ _ (some (.int (nI l.length))) _
      refine mv_start pX10_watch (some .int) [some (.ref 0), some (.int (nI B)), some (.int (nI W)), none] rfl rfl rfl rfl (fun V C => ?_)
      refine mv_iload_n C rfl rfl ?_
      refine mv_cS C rfl (mv_up R0 rfl) (by decide) rfl (Nat.le_of_ble_eq_true rfl) (Nat.le_refl _) (Nat.le_refl _) rfl ?_
      refine mv_if_eq C rfl (fun c4 => ?_) (fun c4 => ?_)
      · exact absurd c4 (by decide)
      · refine mv_iload_n C rfl rfl ?_
        refine mv_cS C rfl (mv_up R1 rfl) (by decide) rfl (Nat.le_of_ble_eq_true rfl) (Nat.le_refl _) (Nat.le_refl _) rfl ?_
        refine mv_if_eq C rfl (fun c11 => ?_) (fun c11 => ?_)
        · exact absurd c11 (by decide)
        · refine mv_iload_n C rfl rfl ?_
          refine mv_iload_n C rfl rfl ?_
          refine mv_icmp_lt C rfl (fun c16 => ?_) (fun c16 => ?_)
          · exact absurd c16 c3
          · refine mv_aload_n C rfl rfl ?_
            refine mv_getR C rfl rfl rfl ?_
            refine mv_getJ C rfl rfl rfl hs ?_
            refine mv_iconst C rfl ?_
            refine mv_icmp_ne C rfl (fun c27 => ?_) (fun c27 => ?_)
            · refine mv_aload_n C rfl rfl ?_
              refine mv_getR C rfl rfl rfl ?_
              refine mv_iload_n C rfl rfl ?_
              refine mv_iload_n C rfl rfl ?_
              refine mv_cV C rfl R2 (by decide) rfl rfl rfl (Nat.le_of_ble_eq_true rfl) (Nat.le_refl _) (Nat.le_refl _) rfl ?_
              refine mv_is_n3 C rfl rfl ?_
              refine mv_iload_n C rfl rfl ?_
              refine mv_if_lt C rfl (fun c43 => ?_) (fun c43 => ?_)
              · exact absurd c43 (nI_pos (by omega))
              · refine mv_aload_n C rfl rfl ?_
                refine mv_getR C rfl rfl rfl ?_
                refine mv_iload_n C rfl rfl ?_
                refine mv_aload_n C rfl rfl ?_
                refine mv_getR C rfl rfl rfl ?_
                refine mv_cV C rfl (mv_up R3 rfl) (by decide) rfl rfl rfl (Nat.le_of_ble_eq_true rfl) (Nat.le_refl _) (Nat.le_refl _) rfl ?_
                refine mv_iload_n C rfl rfl ?_
                refine mv_ireturn C rfl mv_okI ?_ ?_
                all_goals rfl
            · exact absurd c27 (hs0.mpr hc8)
  · rw [if_neg hc, if_neg hc]
    refine ⟨_, mv_up (d := 3) (S1 := mv_E z) ?_ rfl, hz, fX_rf⟩
    refine mv_start pX10_watch (some .int) [some (.ref 0), some (.int t), some (.int U), none] rfl rfl rfl rfl (fun V C => ?_)
    refine mv_iload_n C rfl rfl ?_
    refine mv_cS C rfl (mv_up R0 rfl) (by decide) rfl (Nat.le_of_ble_eq_true rfl) (Nat.le_refl _) (Nat.le_refl _) rfl ?_
    refine mv_if_eq C rfl (fun c4 => ?_) (fun c4 => ?_)
    · refine mv_iconst C rfl ?_
      refine mv_ireturn C rfl mv_okI ?_ ?_
      all_goals rfl
    · refine mv_iload_n C rfl rfl ?_
      refine mv_cS C rfl (mv_up R1 rfl) (by decide) rfl (Nat.le_of_ble_eq_true rfl) (Nat.le_refl _) (Nat.le_refl _) rfl ?_
      refine mv_if_eq C rfl (fun c11 => ?_) (fun c11 => ?_)
      · refine mv_iconst C rfl ?_
        refine mv_ireturn C rfl mv_okI ?_ ?_
        all_goals rfl
      · refine mv_iload_n C rfl rfl ?_
        refine mv_iload_n C rfl rfl ?_
        refine mv_icmp_lt C rfl (fun c16 => ?_) (fun c16 => ?_)
        · refine mv_iconst C rfl ?_
          refine mv_ireturn C rfl mv_okI ?_ ?_
          all_goals rfl
        · refine mv_aload_n C rfl rfl ?_
          refine mv_getR C rfl rfl rfl ?_
          refine mv_getJ C rfl rfl rfl hs ?_
          refine mv_iconst C rfl ?_
          refine mv_icmp_ne C rfl (fun c27 => ?_) (fun c27 => ?_)
          · exact absurd ⟨b10.mp c4, b10.mp c11, c16, hs0.mp c27⟩ hc
          · refine mv_iconst C rfl ?_
            refine mv_ireturn C rfl mv_okI ?_ ?_
            all_goals rfl
end

