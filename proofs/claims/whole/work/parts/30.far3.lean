section
theorem rel1_at (e : Nat → Nat) (a b h : Nat) : rel1 e a b h b = if e a ≠ 0 ∧ (e b = 0 ∨ e a + h < e b) then e a + h else e b := by
  unfold rel1
  by_cases q : e a ≠ 0 ∧ (e b = 0 ∨ e a + h < e b)
  · rw [if_pos q, show relq e a b h = true by simp [relq, q]]; simp [updN]
  · rw [if_neg q, show relq e a b h = false by (cases w : relq e a b h with | false => rfl | true => exact absurd (by simpa [relq] using w) q)]; rfl
theorem rel1_ne {e : Nat → Nat} {a b h p : Nat} (hp : p ≠ b) : rel1 e a b h p = e p := by
  unfold rel1
  cases relq e a b h with
  | true => simp [updN, hp]
  | false => rfl
theorem rel_swap (e : Nat → Nat) (a b h : Nat) (hab : a ≠ b) : rel1 (rel1 e b a h) a b h = rel1 (rel1 e a b h) b a h := by
  have hba : b ≠ a := fun q => hab q.symm
  funext p
  by_cases pa : p = a
  · subst pa
    rw [rel1_ne hab, rel1_at, rel1_at, rel1_at, rel1_ne hab]
    repeat' split
    all_goals omega
  · by_cases pb : p = b
    · subst pb
      rw [rel1_ne pa, rel1_at, rel1_at, rel1_at, rel1_ne pa]
      repeat' split
      all_goals omega
    · rw [rel1_ne pb, rel1_ne pa, rel1_ne pa, rel1_ne pb]
def fr (e : Nat) : Int32 := if e = 0 then nI 268435456 else nI (e - 1)
theorem fr_min {ea eb h : Nat} (ha : ea ≤ 1000000) (hb : eb ≤ 1000000) (hh : h ≤ 12) : (if fr eb + nI h < fr ea then fr eb + nI h else fr ea) = fr (if eb ≠ 0 ∧ (ea = 0 ∨ eb + h < ea) then eb + h else ea) := by
  unfold fr
  by_cases h0 : eb = 0
  · rw [if_pos h0, if_neg (fun q : eb ≠ 0 ∧ (ea = 0 ∨ eb + h < ea) => q.1 h0), nI_add]
    rw [if_neg]
    intro q
    split at q
    · exact absurd ((nI_ltI (by omega) (by omega)).mp q) (by omega)
    · exact absurd ((nI_ltI (by omega) (by omega)).mp q) (by omega)
  · rw [if_neg h0, nI_add]
    by_cases h1 : ea = 0
    · rw [if_pos h1, if_pos (show eb ≠ 0 ∧ (ea = 0 ∨ eb + h < ea) from ⟨h0, Or.inl h1⟩), if_neg (show ¬ eb + h = 0 by omega), if_pos (nI_lt (by omega) (by omega))]
      congr 1; omega
    · rw [if_neg h1]
      by_cases h2 : eb + h < ea
      · rw [if_pos (show eb ≠ 0 ∧ (ea = 0 ∨ eb + h < ea) from ⟨h0, Or.inr h2⟩), if_neg (show ¬ eb + h = 0 by omega), if_pos (nI_lt (by omega) (by omega))]
        congr 1; omega
      · rw [if_neg (show ¬ (eb ≠ 0 ∧ (ea = 0 ∨ eb + h < ea)) by omega), if_neg h1, if_neg (nI_nlt (by omega) (by omega))]
def g75 (z : mv_Z) (n : Nat) (e : Nat → Nat) : Nat → Int32 := fun p => if p < n then fr (e p) else z.1 75 p
theorem g75_at {z : mv_Z} {n p : Nat} {e : Nat → Nat} (h : p < n) : g75 z n e p = fr (e p) := by simp [g75, h]
theorem g75_rel (z : mv_Z) (n : Nat) (e : Nat → Nat) (a b h : Nat) (hb : b < n) : upd (g75 z n e) b (fr (rel1 e a b h b)) = g75 z n (rel1 e a b h) := by
  funext p
  by_cases q : p = b
  · subst q; simp [upd, g75, hb]
  · simp only [upd, q, if_false, g75]; rw [rel1_ne q]
theorem g75_init (z : mv_Z) (a i : Nat) : upd (g75 z i (updN (fun _ => 0) a 1)) i (fr (updN (fun _ => 0) a 1 i)) = g75 z (i + 1) (updN (fun _ => 0) a 1) := by
  funext p
  by_cases h : p = i
  · subst h; simp [upd, g75]
  · simp only [upd, h, if_false, g75]
    by_cases h1 : p < i
    · rw [if_pos h1, if_pos (by omega)]
    · rw [if_neg h1, if_neg (by omega)]
theorem rM_freew {u : hM} {z : mv_Z} (h : rM u z) (cell : Nat) (f : Nat → Int32) (hc : cell ∈ [75, 80, 81, 83]) : rM u (mv_w z cell f) := by
  obtain ⟨⟨h1a, h1b⟩, h3, h4, h6, h8⟩ := h
  have e1 : ∀ c ∈ [75, 80, 81, 83], c ≠ 68 ∧ c ≠ 84 ∧ c ≠ 89 ∧ c ≠ 90 ∧ c ≠ 91 ∧ c ≠ 92 ∧ c ≠ 93 ∧ c ≠ 82 ∧ (∀ q ∈ tM, q.1 ≠ c) ∧ ∀ q ∈ sM, q.1 ≠ c := by decide
  obtain ⟨c1, c2, c3, c4, c5, c6, c7, c8, c9, c10⟩ := e1 _ hc
  unfold rM
  rw [mv_w_ne (q := 68) c1.symm, mv_w_ne (q := 84) c2.symm, mv_w_ne (q := 89) c3.symm, mv_w_ne (q := 90) c4.symm, mv_w_ne (q := 91) c5.symm, mv_w_ne (q := 92) c6.symm, mv_w_ne (q := 93) c7.symm, mv_w_ne (q := 82) c8.symm]
  exact ⟨⟨fun q hq => by rw [mv_w_ne (c9 q hq)]; exact h1a q hq, fun q hq => by rw [mv_w_ne (c10 q hq)]; exact h1b q hq⟩, h3, h4, h6, h8⟩
theorem hrnd_le (u : hM) (hh : ∀ r, r < u 2 0 → u 5 r ≤ 12) : ∀ k i e m, i + k = u 2 0 → (∀ p, e p ≤ m) → ∀ p, hrnd u k i e p ≤ m + 24 * k
  | 0, _, e, m, _, h, p => by simp only [hrnd]; have := h p; omega
  | k + 1, i, e, m, hi, h, p => by
    simp only [hrnd]
    have := hrnd_le u hh k (i + 1) (if u 6 i = 0 then hrel u e i else e) (m + 24) (by omega) (fun q => by
      split
      · exact hrel_le h (hh i (by omega)) q
      · have := h q; omega) p
    omega
theorem hit_le (u : hM) (hh : ∀ r, r < u 2 0 → u 5 r ≤ 12) : ∀ k e m, (∀ p, e p ≤ m) → ∀ p, hit u k e p ≤ m + 24 * u 2 0 * k
  | 0, e, m, h, p => by simp only [hit]; have := h p; omega
  | k + 1, e, m, h, p => by
    simp only [hit]
    have := hit_le u hh k _ _ (hrnd_le u hh (u 2 0) 0 e m (by omega) h) p
    rw [Nat.mul_succ]; omega
theorem m_far (u : hM) (z : mv_Z) (a b : Int32) (hi : hI u) (hz : rM u z) : mR 123 [.int a, .int b] u z (.int (a_far u a b)) u := by
  have h0 := rM_free hz 68 0 0 (Or.inr ⟨rfl, by decide⟩)
  have hn := rM_s h0 1 0 (by decide)
  have hr := rM_s h0 4 2 (by decide)
  have h24 := hi.1
  have h40 := hi.2.2.1
  have hrd := hi.2.2.2.1
  have hsh := hi.2.2.2.2.1
  have Ra := r_mIsParish (mv_u z 68 0 0) a _ hn h24
  have Rb := r_mIsParish (mv_u z 68 0 0) b _ hn h24
  unfold a_far
  by_cases hc : (0 ≤ a ∧ a < nI (u 0 0)) ∧ (0 ≤ b ∧ b < nI (u 0 0))
  · rw [if_pos hc]
    rw [if_pos hc.1] at Ra
    rw [if_pos hc.2] at Rb
    have ea := nI_rngc hc.1.1 hc.1.2 (by omega)
    have eb := nI_rngc hc.2.1 hc.2.2 (by omega)
    generalize a.toNatClampNeg = ka at *
    generalize b.toNatClampNeg = kb at *
    obtain ⟨la, rfl⟩ := ea
    obtain ⟨lb, rfl⟩ := eb
    have hf1 : (mv_u z 68 0 0).1 75 = (mv_u z 68 0 0).1 75 := rfl
    generalize hz0 : mv_u z 68 0 0 = z0 at *
    refine ⟨mv_w z0 75 (g75 z0 (u 0 0) (hfar u ka)), mv_up (d := 3) ?_ rfl, rM_freew h0 75 _ (by decide), by rw [← hz0]; exact fM_w (fM_u fM_rf (by decide)) (by decide)⟩
    have hnf : ∀ f, (mv_w z0 75 f).1 68 1 = nI (u 0 0) := fun f => by rw [mv_w_ne (by decide)]; exact hn
    have hrf : ∀ f, (mv_w z0 75 f).1 68 4 = nI (u 2 0) := fun f => by rw [mv_w_ne (by decide)]; exact hr
    have hA : ∀ f r, (mv_w z0 75 f).1 71 r = nI (u 3 r) := fun f r => by rw [mv_w_ne (by decide)]; exact rM_a h0 71 3 (by decide) r
    have hB : ∀ f r, (mv_w z0 75 f).1 72 r = nI (u 4 r) := fun f r => by rw [mv_w_ne (by decide)]; exact rM_a h0 72 4 (by decide) r
    have hH : ∀ f r, (mv_w z0 75 f).1 73 r = nI (u 5 r) := fun f r => by rw [mv_w_ne (by decide)]; exact rM_a h0 73 5 (by decide) r
    have hS : ∀ f r, (mv_w z0 75 f).1 74 r = nI (u 6 r) := fun f r => by rw [mv_w_ne (by decide)]; exact rM_a h0 74 6 (by decide) r
    have hG : ∀ e p, p < u 0 0 → (mv_w z0 75 (g75 z0 (u 0 0) e)).1 75 p = fr (e p) := fun e p hp => by rw [mv_w_get, g75_at hp]
    have hle : hfar u ka kb ≤ 1000000 := by
      have := hit_le u (fun r hr => (hrd r hr).2.2.2.2) (u 0 0) (updN (fun _ => 0) ka 1) 1 (fun p => by simp only [updN]; split <;> omega) kb
      have h2 : 24 * u 2 0 * u 0 0 ≤ 24 * 40 * 24 := Nat.mul_le_mul (by omega) h24
      show hit u (u 0 0) (updN (fun _ => 0) ka 1) kb ≤ 1000000
      omega
    refine mv_start pX11_far (some .int) [some (.ref 68), some (.int (nI ka)), some (.int (nI kb)), none, none, none, none] rfl rfl rfl rfl (fun V C => ?_)
    have fin : ∀ w3 w4 w5 w6 : Option Value, V 182 [some (.ref 68), some (.int (nI ka)), some (.int (nI kb)), w3, w4, w5, w6] [] (mv_E (mv_w z0 75 (g75 z0 (u 0 0) (hfar u ka)))) := by
      intro w3 w4 w5 w6
      by_cases hq : hfar u ka kb = 0
      · rw [hq] at C
        refine mv_aload_n C rfl rfl ?_
        refine mv_getR C rfl rfl rfl ?_
        refine mv_iload_n C rfl rfl ?_
        refine mv_aldJ C rfl rfl rfl (by omega) (show _ = nI 268435456 by (rw [hG _ _ lb, hq]; rfl)) ?_
        refine mv_ldc C rfl ?_
        refine mv_icmp_ge C rfl (fun c190 => ?_) (fun c190 => ?_)
        · refine mv_iconst C rfl ?_
          refine mv_ireturn C rfl mv_okI ?_ ?_
          all_goals first | rfl | (rw [hq]; rfl)
        · exact absurd (by decide) c190
      · have hv : (mv_w z0 75 (g75 z0 (u 0 0) (hfar u ka))).1 75 kb = nI (hfar u ka kb - 1) := by rw [hG _ _ lb]; unfold fr; rw [if_neg hq]
        refine mv_aload_n C rfl rfl ?_
        refine mv_getR C rfl rfl rfl ?_
        refine mv_iload_n C rfl rfl ?_
        refine mv_aldJ C rfl rfl rfl (by omega) hv ?_
        refine mv_ldc C rfl ?_
        refine mv_icmp_ge C rfl (fun c190 => ?_) (fun c190 => ?_)
        · exact absurd c190 (nI_ge (b := 268435456) (by omega) (by decide))
        · refine mv_aload_n C rfl rfl ?_
          refine mv_getR C rfl rfl rfl ?_
          refine mv_iload_n C rfl rfl ?_
          refine mv_aldJ C rfl rfl rfl (by omega) hv ?_
          refine mv_goto C rfl ?_
          refine mv_ireturn C rfl mv_okI ?_ ?_
          all_goals first | rfl | (rw [hst_pos hq])
    have outer : ∀ (k t : Nat) (e : Nat → Nat) (w4 w5 w6 : Option Value), t + k = u 0 0 → hit u k e = hfar u ka → (∀ p, e p ≤ 1 + 24 * (40 * t)) → V 58 [some (.ref 68), some (.int (nI ka)), some (.int (nI kb)), some (.int (nI t)), w4, w5, w6] [] (mv_E (mv_w z0 75 (g75 z0 (u 0 0) e))) := by
      intro k
      induction k with
      | zero =>
        intro t e w4 w5 w6 ht he hle
        simp only [hit] at he
        subst he
        refine mv_iload_n C rfl rfl ?_
        refine mv_aload_n C rfl rfl ?_
        refine mv_getJ C rfl rfl rfl (hnf _) ?_
        refine mv_icmp_ge C rfl (fun c63 => ?_) (fun c63 => ?_)
        · exact fin _ _ _ _
        · exact absurd (nI_le (by omega) (by omega)) c63
      | succ k ih =>
        intro t e w4 w5 w6 ht he hle
        simp only [hit] at he
        have inner : ∀ (j i : Nat) (e1 : Nat → Nat) (w5 w6 : Option Value), i + j = u 2 0 → hrnd u j i e1 = hrnd u (u 2 0) 0 e → (∀ p, e1 p ≤ 1 + 24 * (40 * t + i)) → V 69 [some (.ref 68), some (.int (nI ka)), some (.int (nI kb)), some (.int (nI t)), some (.int (nI i)), w5, w6] [] (mv_E (mv_w z0 75 (g75 z0 (u 0 0) e1))) := by
          intro j
          induction j with
          | zero =>
            intro i e1 w5 w6 hj h1 h3
            simp only [hrnd] at h1
            have := ih (t + 1) e1 (some (.int (nI i))) w5 w6 (by omega) (by rw [h1]; exact he) (fun p => by have := h3 p; omega)
            refine mv_iload C rfl rfl ?_
            refine mv_aload_n C rfl rfl ?_
            refine mv_getJ C rfl rfl rfl (hrf _) ?_
            refine mv_icmp_ge C rfl (fun c75 => ?_) (fun c75 => ?_)
            · refine mv_inc3 C rfl rfl ?_
              refine mv_goto C rfl ?_
              simp only [nI_1]
              exact this
            · exact absurd (nI_le (by omega) (by omega)) c75
          | succ j jh =>
            intro i e1 w5 w6 hj h1 h3
            have hri := hrd i (by omega)
            have hsi := hsh i
            simp only [hrnd] at h1
            have h3b : ∀ p, e1 p ≤ 1000000 := fun p => by have := h3 p; omega
            by_cases h6 : u 6 i = 0
            · rw [if_pos h6] at h1
              have hsw : rel1 (rel1 e1 (u 4 i) (u 3 i) (u 5 i)) (u 3 i) (u 4 i) (u 5 i) = hrel u e1 i := rel_swap e1 (u 3 i) (u 4 i) (u 5 i) hri.2.2.1
              have hb1 : ∀ p, rel1 e1 (u 4 i) (u 3 i) (u 5 i) p ≤ 1000000 := fun p => by have := rel1_le (e := e1) (a := u 4 i) (b := u 3 i) (h := u 5 i) h3 (by omega) p; omega
              have nx := jh (i + 1) (hrel u e1 i) (some (.int (nI (u 3 i)))) (some (.int (nI (u 4 i)))) (by omega) h1 (fun p => by have := hrel_le (u := u) (e := e1) (r := i) h3 (by omega) p; omega)
              have m1 := fr_min (ea := e1 (u 3 i)) (eb := e1 (u 4 i)) (h := u 5 i) (h3b _) (h3b _) (by omega)
              rw [← rel1_at] at m1
              have m2 := fr_min (ea := rel1 e1 (u 4 i) (u 3 i) (u 5 i) (u 4 i)) (eb := rel1 e1 (u 4 i) (u 3 i) (u 5 i) (u 3 i)) (h := u 5 i) (hb1 _) (hb1 _) (by omega)
              rw [← rel1_at] at m2
              rw [← hsw, ← g75_rel _ _ _ _ _ _ hri.2.1, ← mv_uw] at nx
              refine mv_iload C rfl rfl ?_
              refine mv_aload_n C rfl rfl ?_
              refine mv_getJ C rfl rfl rfl (hrf _) ?_
              refine mv_icmp_ge C rfl (fun c75 => ?_) (fun c75 => ?_)
              · exact absurd c75 (nI_ge (by omega) (by omega))
              · refine mv_aload_n C rfl rfl ?_
                refine mv_getR C rfl rfl rfl ?_
                refine mv_iload C rfl rfl ?_
                refine mv_zldJ C rfl rfl rfl (by omega) (hS _ _) ?_
                refine mv_if_ne C rfl (fun c85 => ?_) (fun c85 => ?_)
                · exact absurd (by rw [h6]; rfl) c85
                · refine mv_aload_n C rfl rfl ?_
                  refine mv_getR C rfl rfl rfl ?_
                  refine mv_iload C rfl rfl ?_
                  refine mv_aldJ C rfl rfl rfl (by omega) (hA _ _) ?_
                  refine mv_is5 C rfl rfl ?_
                  refine mv_aload_n C rfl rfl ?_
                  refine mv_getR C rfl rfl rfl ?_
                  refine mv_iload C rfl rfl ?_
                  refine mv_aldJ C rfl rfl rfl (by omega) (hB _ _) ?_
                  refine mv_is6 C rfl rfl ?_
                  refine mv_aload_n C rfl rfl ?_
                  refine mv_getR C rfl rfl rfl ?_
                  refine mv_iload C rfl rfl ?_
                  refine mv_aload_n C rfl rfl ?_
                  refine mv_getR C rfl rfl rfl ?_
                  refine mv_iload C rfl rfl ?_
                  refine mv_aldJ C rfl rfl rfl (by omega) (hG _ _ hri.1) ?_
                  refine mv_aload_n C rfl rfl ?_
                  refine mv_getR C rfl rfl rfl ?_
                  refine mv_iload C rfl rfl ?_
                  refine mv_aldJ C rfl rfl rfl (by omega) (hG _ _ hri.2.1) ?_
                  refine mv_aload_n C rfl rfl ?_
                  refine mv_getR C rfl rfl rfl ?_
                  refine mv_iload C rfl rfl ?_
                  refine mv_aldJ C rfl rfl rfl (by omega) (hH _ _) ?_
                  refine mv_iadd C rfl ?_
                  refine mv_mmin C rfl rfl (Nat.le_of_ble_eq_true rfl) ?_
                  refine mv_top m1 ?_
                  refine mv_ast C rfl rfl rfl (by omega) ?_
                  refine mv_sto (z1 := mv_w z0 75 (g75 z0 (u 0 0) (rel1 e1 (u 4 i) (u 3 i) (u 5 i)))) (by rw [mv_uw, g75_rel _ _ _ _ _ _ hri.1]) ?_
                  refine mv_aload_n C rfl rfl ?_
                  refine mv_getR C rfl rfl rfl ?_
                  refine mv_iload C rfl rfl ?_
                  refine mv_aload_n C rfl rfl ?_
                  refine mv_getR C rfl rfl rfl ?_
                  refine mv_iload C rfl rfl ?_
                  refine mv_aldJ C rfl rfl rfl (by omega) (hG _ _ hri.2.1) ?_
                  refine mv_aload_n C rfl rfl ?_
                  refine mv_getR C rfl rfl rfl ?_
                  refine mv_iload C rfl rfl ?_
                  refine mv_aldJ C rfl rfl rfl (by omega) (hG _ _ hri.1) ?_
                  refine mv_aload_n C rfl rfl ?_
                  refine mv_getR C rfl rfl rfl ?_
                  refine mv_iload C rfl rfl ?_
                  refine mv_aldJ C rfl rfl rfl (by omega) (hH _ _) ?_
                  refine mv_iadd C rfl ?_
                  refine mv_mmin C rfl rfl (Nat.le_of_ble_eq_true rfl) ?_
                  refine mv_top m2 ?_
                  refine mv_ast C rfl rfl rfl (by omega) ?_
                  refine mv_inc4 C rfl rfl ?_
                  refine mv_goto C rfl ?_
                  simp only [nI_1]
                  exact nx
            · rw [if_neg h6] at h1
              have nx := jh (i + 1) e1 w5 w6 (by omega) h1 (fun p => by have := h3 p; omega)
              have h61 : u 6 i = 1 := by omega
              refine mv_iload C rfl rfl ?_
              refine mv_aload_n C rfl rfl ?_
              refine mv_getJ C rfl rfl rfl (hrf _) ?_
              refine mv_icmp_ge C rfl (fun c75 => ?_) (fun c75 => ?_)
              · exact absurd c75 (nI_ge (by omega) (by omega))
              · refine mv_aload_n C rfl rfl ?_
                refine mv_getR C rfl rfl rfl ?_
                refine mv_iload C rfl rfl ?_
                refine mv_zldJ C rfl rfl rfl (by omega) (hS _ _) ?_
                refine mv_if_ne C rfl (fun c85 => ?_) (fun c85 => ?_)
                · refine mv_inc4 C rfl rfl ?_
                  refine mv_goto C rfl ?_
                  simp only [nI_1]
                  exact nx
                · exact absurd c85 (by rw [h61]; decide)
        have i0 := fun w5 w6 => inner (u 2 0) 0 e w5 w6 (by omega) rfl (fun p => by have := hle p; omega)
        refine mv_iload_n C rfl rfl ?_
        refine mv_aload_n C rfl rfl ?_
        refine mv_getJ C rfl rfl rfl (hnf _) ?_
        refine mv_icmp_ge C rfl (fun c63 => ?_) (fun c63 => ?_)
        · exact absurd c63 (nI_ge (by omega) (by omega))
        · refine mv_iconst C rfl ?_
          refine mv_is4 C rfl rfl ?_
          exact i0 _ _
    have init : ∀ (k i : Nat), i + k = u 0 0 → V 25 [some (.ref 68), some (.int (nI ka)), some (.int (nI kb)), some (.int (nI i)), none, none, none] [] (mv_E (mv_w z0 75 (g75 z0 i (updN (fun _ => 0) ka 1)))) := by
      intro k
      induction k with
      | zero =>
        intro i hi2
        obtain rfl : i = u 0 0 := by omega
        have o0 := outer (u 0 0) 0 (updN (fun _ => 0) ka 1) none none none (by omega) rfl (fun p => by simp only [updN]; split <;> omega)
        refine mv_iload_n C rfl rfl ?_
        refine mv_aload_n C rfl rfl ?_
        refine mv_getJ C rfl rfl rfl (hnf _) ?_
        refine mv_icmp_ge C rfl (fun c30 => ?_) (fun c30 => ?_)
        · refine mv_iconst C rfl ?_
          refine mv_is_n3 C rfl rfl ?_
          exact o0
        · exact absurd (nI_le (by omega) (by omega)) c30
      | succ k ih =>
        intro i hi2
        have e := ih (i + 1) (by omega)
        rw [← g75_init, ← mv_uw] at e
        have st : ∀ x : Int32, x = fr (updN (fun _ => 0) ka 1 i) → V 49 [some (.ref 68), some (.int (nI ka)), some (.int (nI kb)), some (.int (nI i)), none, none, none] [.int x, .int (nI i), .ref 75] (mv_E (mv_w z0 75 (g75 z0 i (updN (fun _ => 0) ka 1)))) := by
          intro x hx
          subst hx
          refine mv_ast C rfl rfl rfl (by omega) ?_
          refine mv_inc3 C rfl rfl ?_
          refine mv_goto C rfl ?_
          simp only [nI_1]
          exact e
        refine mv_iload_n C rfl rfl ?_
        refine mv_aload_n C rfl rfl ?_
        refine mv_getJ C rfl rfl rfl (hnf _) ?_
        refine mv_icmp_ge C rfl (fun c30 => ?_) (fun c30 => ?_)
        · exact absurd c30 (nI_ge (by omega) (by omega))
        · refine mv_aload_n C rfl rfl ?_
          refine mv_getR C rfl rfl rfl ?_
          refine mv_iload_n C rfl rfl ?_
          refine mv_iload_n C rfl rfl ?_
          refine mv_iload_n C rfl rfl ?_
          refine mv_icmp_ne C rfl (fun c40 => ?_) (fun c40 => ?_)
          · have hq : ¬ i = ka := fun q => c40 (by rw [q])
            refine mv_ldc C rfl ?_
            refine st _ ?_
            simp only [updN, hq, if_true, if_false]
            rfl
          · have hq : i = ka := (nI_eq (by omega) (by omega)).mp c40
            refine mv_iconst C rfl ?_
            refine mv_goto C rfl ?_
            refine st _ ?_
            simp only [updN, hq, if_true, if_false]
            rfl
    have zz : mv_w z0 75 (g75 z0 0 (updN (fun _ => 0) ka 1)) = z0 := by rw [show g75 z0 0 (updN (fun _ => 0) ka 1) = z0.1 75 by (funext p; simp [g75]), mv_w_self]
    have l0 := init (u 0 0) 0 (by omega)
    rw [zz] at l0
    refine mv_aload_n C rfl rfl ?_
    refine mv_iconst C rfl ?_
    refine mv_putI C rfl rfl rfl rfl ?_
    refine mv_sto hz0 ?_
    refine mv_aload_n C rfl rfl ?_
    refine mv_iload_n C rfl rfl ?_
    refine mv_cV C rfl (mv_up Ra rfl) (by decide) rfl rfl rfl (Nat.le_of_ble_eq_true rfl) (Nat.le_refl _) (Nat.le_refl _) rfl ?_
    refine mv_if_eq C rfl (fun c10 => ?_) (fun c10 => ?_)
    · exact absurd c10 (by decide)
    · refine mv_aload_n C rfl rfl ?_
      refine mv_iload_n C rfl rfl ?_
      refine mv_cV C rfl (mv_up Rb rfl) (by decide) rfl rfl rfl (Nat.le_of_ble_eq_true rfl) (Nat.le_refl _) (Nat.le_refl _) rfl ?_
      refine mv_if_ne C rfl (fun c18 => ?_) (fun c18 => ?_)
      · refine mv_iconst C rfl ?_
        refine mv_is_n3 C rfl rfl ?_
        exact l0
      · exact absurd c18 (by decide)
  · rw [if_neg hc]
    refine ⟨_, mv_up (d := 3) (S1 := mv_E (mv_u z 68 0 0)) ?_ rfl, h0, fM_u fM_rf (by decide)⟩
    refine mv_start pX11_far (some .int) [some (.ref 68), some (.int a), some (.int b), none, none, none, none] rfl rfl rfl rfl (fun V C => ?_)
    refine mv_aload_n C rfl rfl ?_
    refine mv_iconst C rfl ?_
    refine mv_putI C rfl rfl rfl rfl ?_
    refine mv_aload_n C rfl rfl ?_
    refine mv_iload_n C rfl rfl ?_
    refine mv_cV C rfl (mv_up Ra rfl) (by decide) rfl rfl rfl (Nat.le_of_ble_eq_true rfl) (Nat.le_refl _) (Nat.le_refl _) rfl ?_
    refine mv_if_eq C rfl (fun c10 => ?_) (fun c10 => ?_)
    · try simp only [b01, b10, Classical.not_not] at c10
      try simp (disch := omega) only [lit_0, lit_1, lit_2, lit_3, lit_4, lit_5, lit_6, lit_7, lit_8, lit_9, lit_10, lit_11, lit_12, lit_23, lit_24, lit_30, lit_31, lit_32, lit_39, lit_40, lit_41, lit_46, lit_47, lit_48, lit_96, lit_99, lit_100, lit_255, lit_999, lit_1000, lit_2024, lit_32767, lit_1000000, nI_ltI, nI_leI, nI_eq, Nat.not_lt, Nat.not_le] at c10
      try simp only [unl_0, unl_1, unl_2, unl_3, unl_4, unl_5, unl_6, unl_7, unl_8, unl_9, unl_10, unl_11, unl_12, unl_23, unl_24, unl_30, unl_31, unl_32, unl_39, unl_40, unl_41, unl_46, unl_47, unl_48, unl_96, unl_99, unl_100, unl_255, unl_999, unl_1000, unl_2024, unl_32767, unl_1000000] at c10
      refine mv_iconst C rfl ?_
      refine mv_ireturn C rfl mv_okI ?_ ?_
      all_goals rfl
    · try simp only [b01, b10, Classical.not_not] at c10
      try simp (disch := omega) only [lit_0, lit_1, lit_2, lit_3, lit_4, lit_5, lit_6, lit_7, lit_8, lit_9, lit_10, lit_11, lit_12, lit_23, lit_24, lit_30, lit_31, lit_32, lit_39, lit_40, lit_41, lit_46, lit_47, lit_48, lit_96, lit_99, lit_100, lit_255, lit_999, lit_1000, lit_2024, lit_32767, lit_1000000, nI_ltI, nI_leI, nI_eq, Nat.not_lt, Nat.not_le] at c10
      try simp only [unl_0, unl_1, unl_2, unl_3, unl_4, unl_5, unl_6, unl_7, unl_8, unl_9, unl_10, unl_11, unl_12, unl_23, unl_24, unl_30, unl_31, unl_32, unl_39, unl_40, unl_41, unl_46, unl_47, unl_48, unl_96, unl_99, unl_100, unl_255, unl_999, unl_1000, unl_2024, unl_32767, unl_1000000] at c10
      refine mv_aload_n C rfl rfl ?_
      refine mv_iload_n C rfl rfl ?_
      refine mv_cV C rfl (mv_up Rb rfl) (by decide) rfl rfl rfl (Nat.le_of_ble_eq_true rfl) (Nat.le_refl _) (Nat.le_refl _) rfl ?_
      refine mv_if_ne C rfl (fun c18 => ?_) (fun c18 => ?_)
      · exact absurd ⟨c10, b10.mp c18⟩ hc
      · try simp only [b01, b10, Classical.not_not] at c18
        try simp (disch := omega) only [lit_0, lit_1, lit_2, lit_3, lit_4, lit_5, lit_6, lit_7, lit_8, lit_9, lit_10, lit_11, lit_12, lit_23, lit_24, lit_30, lit_31, lit_32, lit_39, lit_40, lit_41, lit_46, lit_47, lit_48, lit_96, lit_99, lit_100, lit_255, lit_999, lit_1000, lit_2024, lit_32767, lit_1000000, nI_ltI, nI_leI, nI_eq, Nat.not_lt, Nat.not_le] at c18
        try simp only [unl_0, unl_1, unl_2, unl_3, unl_4, unl_5, unl_6, unl_7, unl_8, unl_9, unl_10, unl_11, unl_12, unl_23, unl_24, unl_30, unl_31, unl_32, unl_39, unl_40, unl_41, unl_46, unl_47, unl_48, unl_96, unl_99, unl_100, unl_255, unl_999, unl_1000, unl_2024, unl_32767, unl_1000000] at c18
        refine mv_iconst C rfl ?_
        refine mv_ireturn C rfl mv_okI ?_ ?_
        all_goals rfl
end

