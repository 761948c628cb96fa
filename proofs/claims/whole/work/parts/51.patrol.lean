section
theorem nI_div32 {e : Nat} (h : e < 2 ^ 31) : nI e / 32 = nI (e / 32) := by
  rw [i32_eq, Int32.toInt_div_of_ne_right _ _ (by decide), nI_toInt h, nI_toInt (by omega), i32_32]
  exact (Int.ofNat_tdiv e 32).symm
theorem nI_mod32 {e : Nat} (h : e < 2 ^ 31) : nI e - nI e / 32 * 32 = nI (e % 32) := by
  rw [nI_div32 h, show (32 : Int32) = nI 32 from rfl, pk_mul, pk_sub (by omega)]
  congr 1; omega
theorem kwb_lt {A : Nat → Bool} {u : hM} {R : Nat → Nat → Bool} {B : Nat} (hi : hI u) : ∀ (k t p i : Nat), kwb A u R B k t p i = true → i < u 0 0
  | 0, _, _, _, h => by simp [kwb] at h
  | k + 1, t, p, i, h => by
    simp only [kwb] at h
    by_cases hB : t ≤ B
    · rw [if_pos hB] at h; cases h
    · rw [if_neg hB] at h
      cases hk : kcb A u R t p with
      | zero => rw [hk] at h; exact kwb_lt hi k _ _ i h
      | succ r =>
        rw [hk] at h
        dsimp only at h
        obtain ⟨g1, g2, g3, g4⟩ := kcb_s hk
        obtain ⟨q1, q2, q3, q4, q5⟩ := hi.2.2.2.1 r g2
        obtain ⟨e1, e2, e3, e4, e5⟩ := kcm_ends g3 q3
        have hl := kot_lt (p := p) hi g2
        rw [Bool.or_eq_true, Bool.and_eq_true] at h
        rcases h with q | q
        · have := of_decide_eq_true q.2; omega
        · exact kwb_lt hi k _ _ i q
/-- a way out: who watches none of it lets him out -/
def kwy (u : hM) (B U : Nat) (x : Int32) : Prop := ∃ v, x = kb v ∧ ∀ w, (∀ p, p < 32 → v p = true → w p = false) → kGO u B U w = true
def kQ (u : hM) (B U N : Nat) (z : mv_Z) : Prop := rX u z ∧ z.1 1 5 = nI B ∧ z.1 1 6 = nI U ∧ kOK (kB (kAll u) u B) u (z.1 15) (z.2 16) ∧ (∀ t1, t1 < B → z.1 17 t1 = kb (kR (kB (kAll u) u B) u kW t1)) ∧ ∃ e, e ≤ N ∧ z.1 1 4 = nI e ∧ ∀ i, i < e → i < 32 → kwy u B U (z.1 20 i)
def kwd (u : hM) (e : Nat) (w : Nat → Bool) (z : mv_Z) : Bool := kany (fun i => decide (z.1 20 i &&& kb w = 0)) (min e 32)
theorem r_misses (z : mv_Z) (w : Nat → Bool) (e : Nat) (he : e < 1000000) (h4 : z.1 1 4 = nI e) (x : Bool) (hx : x = kany (fun i => decide (z.1 20 i &&& kb w = 0)) (min e 32)) : mv_Runs 1 63 [.ref 1, .int (kb w)] (mv_E z) (some (.int (b1 x))) (mv_E z) := by
  refine mv_start pX7_misses (some .boolean) [some (.ref 1), some (.int (kb w)), none] rfl rfl rfl rfl (fun V C => ?_)
  have loop : ∀ (k i : Nat), i + k = min e 32 → (∀ j, j < i → ¬ z.1 20 j &&& kb w = 0) → V 2 [some (.ref 1), some (.int (kb w)), some (.int (nI i))] [] (mv_E z) := by
    intro k
    induction k with
    | zero =>
      intro i hi hno
      have hxf : x = false := by
        rw [hx]; apply kany_f.mpr
        intro j hj
        exact decide_eq_false (hno j (by omega))
      subst hxf
      refine mv_iload_n C rfl rfl ?_
      refine mv_aload_n C rfl rfl ?_
      refine mv_getJ C rfl rfl rfl h4 ?_
      refine mv_icmp_ge C rfl (fun c7 => ?_) (fun c7 => ?_)
      · refine mv_iconst C rfl ?_
        refine mv_ireturn C rfl mv_okZ0 ?_ ?_
        all_goals rfl
      · refine mv_iload_n C rfl rfl ?_
        refine mv_bipush C rfl ?_
        refine mv_icmp_ge C rfl (fun c13 => ?_) (fun c13 => ?_)
        · refine mv_iconst C rfl ?_
          refine mv_ireturn C rfl mv_okZ0 ?_ ?_
          all_goals rfl
        · (have q1 := c13; rw [show (32 : Int32) = nI 32 from rfl, nI_leI (by omega) (by omega)] at q1; rw [nI_leI (by omega) (by omega)] at c7; omega)
    | succ k ih =>
      intro i hi hno
      by_cases hz : z.1 20 i &&& kb w = 0
      · have hxt : x = true := by
          rw [hx]; exact kany_t.mpr ⟨i, by omega, decide_eq_true hz⟩
        subst hxt
        refine mv_iload_n C rfl rfl ?_
        refine mv_aload_n C rfl rfl ?_
        refine mv_getJ C rfl rfl rfl h4 ?_
        refine mv_icmp_ge C rfl (fun c7 => ?_) (fun c7 => ?_)
        · exact absurd c7 (nI_ge (by omega) (by omega))
        · refine mv_iload_n C rfl rfl ?_
          refine mv_bipush C rfl ?_
          refine mv_icmp_ge C rfl (fun c13 => ?_) (fun c13 => ?_)
          · exact absurd c13 (nI_ge (b := 32) (by omega) (by decide))
          · refine mv_aload_n C rfl rfl ?_
            refine mv_getR C rfl rfl rfl ?_
            refine mv_iload_n C rfl rfl ?_
            refine mv_ald C rfl rfl rfl (by omega) ?_
            refine mv_iload_n C rfl rfl ?_
            refine mv_iand C rfl ?_
            refine mv_if_ne C rfl (fun c24 => ?_) (fun c24 => ?_)
            · exact absurd hz c24
            · refine mv_iconst C rfl ?_
              refine mv_ireturn C rfl mv_okZ1 ?_ ?_
              all_goals rfl
      · have e1 := ih (i + 1) (by omega) (fun j hj => by
          by_cases q : j = i
          · rw [q]; exact hz
          · exact hno j (by omega))
        refine mv_iload_n C rfl rfl ?_
        refine mv_aload_n C rfl rfl ?_
        refine mv_getJ C rfl rfl rfl h4 ?_
        refine mv_icmp_ge C rfl (fun c7 => ?_) (fun c7 => ?_)
        · exact absurd c7 (nI_ge (by omega) (by omega))
        · refine mv_iload_n C rfl rfl ?_
          refine mv_bipush C rfl ?_
          refine mv_icmp_ge C rfl (fun c13 => ?_) (fun c13 => ?_)
          · exact absurd c13 (nI_ge (b := 32) (by omega) (by decide))
          · refine mv_aload_n C rfl rfl ?_
            refine mv_getR C rfl rfl rfl ?_
            refine mv_iload_n C rfl rfl ?_
            refine mv_ald C rfl rfl rfl (by omega) ?_
            refine mv_iload_n C rfl rfl ?_
            refine mv_iand C rfl ?_
            refine mv_if_ne C rfl (fun c24 => ?_) (fun c24 => ?_)
            · refine mv_inc2 C rfl rfl ?_
              refine mv_goto C rfl ?_
              simp only [nI_1]
              exact e1
            · exact absurd c24 hz
  refine mv_iconst C rfl ?_
  refine mv_is_n2 C rfl rfl ?_
  exact loop (min e 32) 0 (by omega) (fun j hj => absurd hj (by omega))
theorem kwy_use {u : hM} {B U : Nat} {x : Int32} {w : Nat → Bool} (h : kwy u B U x) (hz : x &&& kb w = 0) : kGO u B U w = true := by
  obtain ⟨v, rfl, hv⟩ := h
  rw [kb_and] at hz
  apply hv
  intro p hp hvp
  have := kb_z.mp hz p hp
  simp only [hvp, Bool.true_and] at this
  exact this
theorem kQ_miss (u : hM) (B U N : Nat) (z : mv_Z) (w : Nat → Bool) (hN : N < 1000000) (h : kQ u B U N z) : ∃ x : Bool, mv_Runs 1 63 [.ref 1, .int (kb w)] (mv_E z) (some (.int (b1 x))) (mv_E z) ∧ (x = true → kGO u B U w = true) := by
  obtain ⟨-, -, -, -, -, e, he, h4, hw⟩ := h
  refine ⟨_, r_misses z w e (by omega) h4 _ rfl, fun hx => ?_⟩
  obtain ⟨i, hi, q⟩ := kany_t.mp hx
  exact kwy_use (hw i (by omega) (by omega)) (of_decide_eq_true q)
theorem kz_1 {z : mv_Z} {a : Nat → Int32} {b : Nat → Int64} {c d : Nat → Int32} {q : Nat} (h : q ∉ [15, 17, 18]) : (kz z a b c d).1 q = z.1 q := by
  simp only [List.mem_cons, List.not_mem_nil, or_false, not_or] at h
  simp [kz, h]
theorem r_escapes (z : mv_Z) (u : hM) (B U N : Nat) (w : Nat → Bool) (hi : hI u) (hB : B < 48) (hU : U < 48) (hBU : B ≤ U) (hN : N < 1000000) (hQ : kQ u B U N z) : ∃ z1, mv_Runs 5 64 [.ref 1, .int (kb w)] (mv_E z) (some (.int (b1 (kGO u B U w)))) (mv_E z1) ∧ kQ u B U (N + 1) z1 ∧ fX z z1 ∧ z1.1 19 = z.1 19 := by
  have h24 := hi.1
  have h8a : u 21 0 ≤ 8 := hi.2.2.2.2.2.2.2.2.2.2.2.2.2.2.2.2.1
  obtain ⟨hz, h5, h6, ok, hc, e, he, h4, hw⟩ := hQ
  have hex : z.1 3 8 = kb (fun p => decide (p < 24) && decide (u 7 p = 1)) := kb_eq (fun p hp => hz.2.1 p hp)
  have loop : ∀ (k t : Nat), t + k = U + 1 → B ≤ t → (∀ t1 p, B ≤ t1 → t1 < t → p < u 0 0 → u 7 p = 1 → kwR u B U w t1 p = true → False) → ∃ z1, (kQ u B U (N + 1) z1 ∧ fX z z1 ∧ z1.1 19 = z.1 19) ∧ ∀ w3 w4 : Option Value, mv_Fr pX7_escapes (some .boolean) 4 (some (.int (b1 (kGO u B U w)))) (mv_E z1) 5 [some (.ref 1), some (.int (kb w)), some (.int (nI t)), w3, w4] (mv_E (kz z (z.1 15) (z.2 16) (kfr (z.1 17) (fun t => kb (kwR u B U w t)) B t) (z.1 18))) := by
    intro k
    induction k with
    | zero =>
      intro t ht hBt hno
      have hG : kGO u B U w = false := by
        cases hg : kGO u B U w with
        | false => rfl
        | true =>
          obtain ⟨t1, p, q1, q2, q3, q4, q5⟩ := (kGO_t hU).mp hg
          exact absurd (hno t1 p q1 (by omega) q3 q4 q5) id
      rw [hG]
      refine ⟨kz z (z.1 15) (z.2 16) (kfr (z.1 17) (fun t => kb (kwR u B U w t)) B t) (z.1 18), ⟨⟨kz_rX hz _ _ _ _, h5, h6, ok, fun t1 h1 => ?_, e, by omega, h4, hw⟩, kz_fX fX_rf _ _ _ _, rfl⟩, fun w3 w4 V C => ?_⟩
      · show kfr (z.1 17) (fun t => kb (kwR u B U w t)) B t t1 = _
        unfold kfr; rw [if_neg (by omega)]; exact hc t1 h1
      · have y6 : (kz z (z.1 15) (z.2 16) (kfr (z.1 17) (fun t => kb (kwR u B U w t)) B t) (z.1 18)).1 1 6 = nI U := h6
        refine mv_iload_n C rfl rfl ?_
        refine mv_aload_n C rfl rfl ?_
        refine mv_getJ C rfl rfl rfl y6 ?_
        refine mv_icmp_gt C rfl (fun c10 => ?_) (fun c10 => ?_)
        · refine mv_iconst C rfl ?_
          refine mv_ireturn C rfl mv_okZ0 ?_ ?_
          all_goals rfl
        · exact absurd (nI_lt (by omega) (by omega)) c10
    | succ k ih =>
      intro t ht hBt hno
      have htU : t ≤ U := by omega
      have R1 := r_spread z u (kB (kAll u) u B) (kbw w B U) w (z.1 15) (z.2 16) (kfr (z.1 17) (fun t => kb (kwR u B U w t)) B t) (z.1 18) t (t + 1) (nI t) hi hz (by omega) (by omega) ok (nI_ltb (by omega)) (fun t1 p q1 q2 => by unfold kbw; rw [decide_eq_true (by omega), Bool.and_true]) (fun t1 q => by
        by_cases qB : B ≤ t1
        · rw [kfr_i ⟨qB, q⟩]; rfl
        · unfold kfr; rw [if_neg (by omega), hc t1 (by omega)]
          apply kb_c; intro p _; exact (kwR_kW (by omega)).symm)
      have ec : kfr (kfr (z.1 17) (fun t => kb (kwR u B U w t)) B t) (fun t => kb (kR (kB (kAll u) u B) u (kbw w B U) t)) t (t + 1) = kfr (z.1 17) (fun t => kb (kwR u B U w t)) B (t + 1) := by
        rw [← kfr_s _ _ _ _ (Nat.le_refl t), kfr_0 _ _ _ _ (Nat.le_refl t)]
        exact kfr_s _ _ _ _ hBt
      rw [ec] at R1
      have hct : kfr (z.1 17) (fun t => kb (kwR u B U w t)) B (t + 1) t = kb (kwR u B U w t) := kfr_i ⟨hBt, by omega⟩
      have hcc : ∀ t1, t1 ≤ t → kfr (z.1 17) (fun t => kb (kwR u B U w t)) B (t + 1) t1 = kb (kwR u B U w t1) := fun t1 q => by
        by_cases qB : B ≤ t1
        · exact kfr_i ⟨qB, by omega⟩
        · unfold kfr; rw [if_neg (by omega), hc t1 (by omega)]
          apply kb_c; intro p _; exact (kwR_kW (by omega)).symm
      have hcB : ∀ t1, t1 < B → kfr (z.1 17) (fun t => kb (kwR u B U w t)) B (t + 1) t1 = kb (kR (kB (kAll u) u B) u kW t1) := fun t1 q => by
        unfold kfr; rw [if_neg (by omega)]; exact hc t1 q
      have ev : kb (kwR u B U w t) &&& kb (fun p => decide (p < 24) && decide (u 7 p = 1)) = kb (fun p => kwR u B U w t p && (decide (p < 24) && decide (u 7 p = 1))) := kb_and _ _
      by_cases hq : kb (fun p => kwR u B U w t p && (decide (p < 24) && decide (u 7 p = 1))) = 0
      · obtain ⟨z1, hp, hf⟩ := ih (t + 1) (by omega) (by omega) (fun t1 p q1 q2 q3 q4 q5 => by
          by_cases et : t1 = t
          · subst et
            have := kb_z.mp hq p (by omega)
            rw [q5, decide_eq_true q4, decide_eq_true (show p < 24 by omega)] at this
            cases this
          · exact hno t1 p q1 (by omega) q3 q4 q5)
        refine ⟨z1, hp, fun w3 w4 V C => ?_⟩
        generalize kfr (z.1 17) (fun t => kb (kwR u B U w t)) B t = c at *
        generalize kfr (z.1 17) (fun t => kb (kwR u B U w t)) B (t + 1) = c1 at *
        have y6 : (kz z (z.1 15) (z.2 16) c (z.1 18)).1 1 6 = nI U := h6
        have y17 : (kz z (z.1 15) (z.2 16) c1 (z.1 18)).1 17 t = kb (kwR u B U w t) := hct
        have y8 : (kz z (z.1 15) (z.2 16) c1 (z.1 18)).1 3 8 = kb (fun p => decide (p < 24) && decide (u 7 p = 1)) := hex
        refine mv_iload_n C rfl rfl ?_
        refine mv_aload_n C rfl rfl ?_
        refine mv_getJ C rfl rfl rfl y6 ?_
        refine mv_icmp_gt C rfl (fun c10 => ?_) (fun c10 => ?_)
        · exact absurd ((nI_ltI (by omega) (by omega)).mp c10) (by omega)
        · refine mv_aload_n C rfl rfl ?_
          refine mv_getR C rfl rfl rfl ?_
          refine mv_iload_n C rfl rfl ?_
          refine mv_iload_n C rfl rfl ?_
          refine mv_iload_n C rfl rfl ?_
          refine mv_cV C rfl R1 (by decide) rfl rfl rfl (Nat.le_of_ble_eq_true rfl) (Nat.le_refl _) (Nat.le_refl _) rfl ?_
          refine mv_aload_n C rfl rfl ?_
          refine mv_getR C rfl rfl rfl ?_
          refine mv_getR C rfl rfl rfl ?_
          refine mv_iload_n C rfl rfl ?_
          refine mv_aldJ C rfl rfl rfl (by omega) y17 ?_
          refine mv_aload_n C rfl rfl ?_
          refine mv_getR C rfl rfl rfl ?_
          refine mv_getJ C rfl rfl rfl y8 ?_
          refine mv_iand C rfl ?_
          refine mv_top (ev.trans hq) ?_
          refine mv_is_n3 C rfl rfl ?_
          refine mv_iload_n C rfl rfl ?_
          refine mv_if_eq C rfl (fun c42 => ?_) (fun c42 => ?_)
          · refine mv_inc2 C rfl rfl ?_
            refine mv_goto C rfl ?_
            simp only [nI_1]
            exact hf _ _ V C
          · exact absurd rfl c42
      · obtain ⟨p0, hp0, hbit0, hn⟩ := kntz_ok hq
        rw [kb_b hp0, Bool.and_eq_true, Bool.and_eq_true, decide_eq_true_eq, decide_eq_true_eq] at hbit0
        obtain ⟨g1, g2, g3⟩ := hbit0
        have hpn : p0 < u 0 0 := kR_lt hi (t + 1) t p0 (by omega) g1
        have hG : kGO u B U w = true := (kGO_t hU).mpr ⟨t, p0, hBt, htU, hpn, g3, g1⟩
        rw [hG]
        have R2 := r_ntz (kz z (z.1 15) (z.2 16) (kfr (z.1 17) (fun t => kb (kwR u B U w t)) B (t + 1)) (z.1 18)) (kb (fun p => kwR u B U w t p && (decide (p < 24) && decide (u 7 p = 1))))
        rw [hn] at R2
        have R3 := r_wayBits z u (kB (kAll u) u B) (kwR u B U w) (z.1 15) (z.2 16) (kfr (z.1 17) (fun t => kb (kwR u B U w t)) B (t + 1)) (z.1 18) p0 t B hi hz hpn (by omega) hB ok hcc
        have hwy : kwy u B U (kb (fun i => decide (i = p0) || kwb (kB (kAll u) u B) u (kwR u B U w) B 48 t p0 i)) := ⟨_, rfl, fun w2 hd => (kGO_t hU).mpr ⟨t, p0, hBt, htU, hpn, g3, kway hi 48 t p0 (by omega) g1 (fun _ => hd p0 hp0 (by simp)) (fun i q => hd i (by have := kwb_lt hi _ _ _ _ q; omega) (by rw [q, Bool.or_true]))⟩⟩
        generalize kb (fun i => decide (i = p0) || kwb (kB (kAll u) u B) u (kwR u B U w) B 48 t p0 i) = v at *
        generalize hc1 : kfr (z.1 17) (fun t => kb (kwR u B U w t)) B (t + 1) = c1 at *
        generalize kfr (z.1 17) (fun t => kb (kwR u B U w t)) B t = c at *
        have hrx := rX_free (rX_free (kz_rX hz (z.1 15) (z.2 16) c1 (z.1 18)) 20 (e % 32) v h8a (by decide)) 1 4 (nI (e + 1)) h8a (by decide)
        refine ⟨mv_u (mv_u (kz z (z.1 15) (z.2 16) c1 (z.1 18)) 20 (e % 32) v) 1 4 (nI (e + 1)), ⟨⟨hrx, h5, h6, ok, hcB, e + 1, by omega, mv_u_eq, fun i h1 h2 => ?_⟩, fX_u (fX_u (kz_fX fX_rf _ _ _ _) (by decide)) (by decide), rfl⟩, fun w3 w4 V C => ?_⟩
        · rw [mv_u_ne (by decide)]
          by_cases ei : i = e % 32
          · rw [ei, mv_u_eq]; exact hwy
          · rw [mv_u_at ei]
            exact hw i (by omega) h2
        · have y6 : (kz z (z.1 15) (z.2 16) c (z.1 18)).1 1 6 = nI U := h6
          have y17 : (kz z (z.1 15) (z.2 16) c1 (z.1 18)).1 17 t = kb (kwR u B U w t) := hct
          have y8 : (kz z (z.1 15) (z.2 16) c1 (z.1 18)).1 3 8 = kb (fun p => decide (p < 24) && decide (u 7 p = 1)) := hex
          have y5 : (kz z (z.1 15) (z.2 16) c1 (z.1 18)).1 1 5 = nI B := h5
          have y4 : (kz z (z.1 15) (z.2 16) c1 (z.1 18)).1 1 4 = nI e := h4
          have y42 : (mv_u (kz z (z.1 15) (z.2 16) c1 (z.1 18)) 20 (e % 32) v).1 1 4 = nI e := h4
          refine mv_iload_n C rfl rfl ?_
          refine mv_aload_n C rfl rfl ?_
          refine mv_getJ C rfl rfl rfl y6 ?_
          refine mv_icmp_gt C rfl (fun c10 => ?_) (fun c10 => ?_)
          · exact absurd ((nI_ltI (by omega) (by omega)).mp c10) (by omega)
          · refine mv_aload_n C rfl rfl ?_
            refine mv_getR C rfl rfl rfl ?_
            refine mv_iload_n C rfl rfl ?_
            refine mv_iload_n C rfl rfl ?_
            refine mv_iload_n C rfl rfl ?_
            refine mv_cV C rfl R1 (by decide) rfl rfl rfl (Nat.le_of_ble_eq_true rfl) (Nat.le_refl _) (Nat.le_refl _) rfl ?_
            refine mv_aload_n C rfl rfl ?_
            refine mv_getR C rfl rfl rfl ?_
            refine mv_getR C rfl rfl rfl ?_
            refine mv_iload_n C rfl rfl ?_
            refine mv_aldJ C rfl rfl rfl (by omega) y17 ?_
            refine mv_aload_n C rfl rfl ?_
            refine mv_getR C rfl rfl rfl ?_
            refine mv_getJ C rfl rfl rfl y8 ?_
            refine mv_iand C rfl ?_
            refine mv_top ev ?_
            refine mv_is_n3 C rfl rfl ?_
            refine mv_iload_n C rfl rfl ?_
            refine mv_if_eq C rfl (fun c42 => ?_) (fun c42 => ?_)
            · exact absurd c42 hq
            · refine mv_aload_n C rfl rfl ?_
              refine mv_getR C rfl rfl rfl ?_
              refine mv_iload_n C rfl rfl ?_
              refine mv_cS C rfl (mv_up R2 rfl) (by decide) rfl (Nat.le_of_ble_eq_true rfl) (Nat.le_refl _) (Nat.le_refl _) rfl ?_
              refine mv_iload_n C rfl rfl ?_
              refine mv_aload_n C rfl rfl ?_
              refine mv_getJ C rfl rfl rfl y5 ?_
              refine mv_cV C rfl R3 (by decide) rfl rfl rfl (Nat.le_of_ble_eq_true rfl) (Nat.le_refl _) (Nat.le_refl _) rfl ?_
              refine mv_is4 C rfl rfl ?_
              refine mv_aload_n C rfl rfl ?_
              refine mv_getR C rfl rfl rfl ?_
              refine mv_aload_n C rfl rfl ?_
              refine mv_getJ C rfl rfl rfl y4 ?_
              refine mv_bipush C rfl ?_
              refine mv_irem C rfl (by decide) ?_
              refine mv_top (nI_mod32 (by omega)) ?_
              refine mv_iload C rfl rfl ?_
              refine mv_ast C rfl rfl rfl (by omega) ?_
              refine mv_aload_n C rfl rfl ?_
              refine mv_dup C rfl rfl ?_
              refine mv_getJ C rfl rfl rfl y42 ?_
              refine mv_iconst C rfl ?_
              refine mv_iadd C rfl ?_
              refine mv_top (nI_1 _) ?_
              refine mv_putI C rfl rfl rfl rfl ?_
              refine mv_iconst C rfl ?_
              refine mv_ireturn C rfl mv_okZ1 ?_ ?_
              all_goals rfl
  obtain ⟨z1, ⟨hp1, hp2, hp3⟩, hf⟩ := loop (U + 1 - B) B (by omega) (Nat.le_refl _) (fun t1 p q1 q2 => absurd q1 (by omega))
  refine ⟨z1, ?_, hp1, hp2, hp3⟩
  rw [kfr_0 _ _ _ _ (Nat.le_refl _), kz_self] at hf
  refine mv_start pX7_escapes (some .boolean) [some (.ref 1), some (.int (kb w)), none, none, none] rfl rfl rfl rfl (fun V C => ?_)
  refine mv_aload_n C rfl rfl ?_
  refine mv_getJ C rfl rfl rfl h5 ?_
  refine mv_is_n2 C rfl rfl ?_
  exact hf _ _ V C
end

