section
theorem lt_nI {a : Nat} {x : Int32} (h : x = nI a) : x = nI a := h
def f33 (z : mv_Z) (u : hM) (i : Nat) : Nat → Int32 := fun q => if q < i then nI (hwt u q) else z.1 33 q
theorem f33_step (z : mv_Z) (u : hM) (i : Nat) : upd (f33 z u i) i (nI (hwt u i)) = f33 z u (i + 1) := by
  funext q
  by_cases e : q = i
  · subst e; simp [upd, f33]
  · simp only [upd, e, if_false, f33]
    by_cases h : q < i
    · rw [if_pos h, if_pos (by omega)]
    · rw [if_neg h, if_neg (by omega)]
def f67 (z : mv_Z) (c : Nat) (g : Nat → Nat) (i : Nat) : Nat → Int32 := fun q => if q < i then nI (g q) else z.1 c q
theorem f67_step (z : mv_Z) (c : Nat) (g : Nat → Nat) (i : Nat) : upd (f67 z c g i) i (nI (g i)) = f67 z c g (i + 1) := by
  funext q
  by_cases e : q = i
  · subst e; simp [upd, f67]
  · simp only [upd, e, if_false, f67]
    by_cases h : q < i
    · rw [if_pos h, if_pos (by omega)]
    · rw [if_neg h, if_neg (by omega)]
theorem f67_0 (z : mv_Z) (c : Nat) (g : Nat → Nat) : f67 z c g 0 = z.1 c := by funext q; simp [f67]
theorem mv_wu {z : mv_Z} {a b i : Nat} {f : Nat → Int32} {x : Int32} (h : ¬ a = b) : mv_w (mv_u z a i x) b f = mv_u (mv_w z b f) a i x := by
  unfold mv_u mv_w
  congr 1
  funext k
  by_cases e : k = a
  · subst e; simp [va_up, h]
  · by_cases e2 : k = b
    · subst e2; simp [va_up, e]
    · simp [va_up, e, e2]
theorem hsum_w (u : hM) (hi : hI u) (n : Nat) (hn : n ≤ 12) : hsum (hwt u) n ≤ 11988 := by
  have := hsum_le (g := hwt u) (fun i => hwt_le u hi i) n
  omega
theorem r_share (z : mv_Z) (u : hM) (R : Nat) (hR1 : 1 ≤ R) (hR2 : R ≤ 1000000) (hi : hI u) (hz : rX u z) : ∃ z1, mv_Runs 4 34 [.ref 29, .int (nI R), .ref 66] (mv_E z) (some (.int (if hsum (hwt u) (u 27 0) = 0 then 0 else nI R))) (mv_E z1) ∧ rX (hrw u (u 27 0) (hrow u R)) z1 ∧ fX z z1 := by
  have h12 : u 27 0 ≤ 12 := hi.2.2.2.2.2.2.2.2.2.2.2.2.2.2.2.2.2.2.1
  have h8a : u 21 0 ≤ 8 := hi.2.2.2.2.2.2.2.2.2.2.2.2.2.2.2.2.1
  have hc := rX_s hz 29 5 27 (by decide)
  have hal := hsum_w u hi (u 27 0) h12
  have hzw : ∀ f, rX u (mv_w z 33 f) := fun f => rX_freew hz 33 f (by decide)
  have hw9 := hwt_le u hi
  have hpl := fun k hk => hpart_le R (hwt u) (u 27 0) k hk
  refine ⟨if hsum (hwt u) (u 27 0) = 0 then mv_u (mv_w (mv_w z 33 (f33 z u (u 27 0))) 67 (f67 z 67 (fun c => hpart R (hsum (hwt u) (u 27 0)) (hwt u c)) (u 27 0))) 66 1 (nI (u 27 0)) else mv_u (mv_w (mv_w z 33 (f33 z u (u 27 0))) 67 (upd (f67 z 67 (fun c => hpart R (hsum (hwt u) (u 27 0)) (hwt u c)) (u 27 0)) (hbest (hwt u) (u 27 0)) (nI (hpart R (hsum (hwt u) (u 27 0)) (hwt u (hbest (hwt u) (u 27 0))) + hrest u R)))) 66 1 (nI (u 27 0)), ?_, ?_, ?_⟩
  · refine mv_start pX2_share (some .int) [some (.ref 29), some (.int (nI R)), some (.ref 66), none, none, none, none, none] rfl rfl rfl rfl (fun V C => ?_)
    have fin : V 127 [some (.ref 29), some (.int (nI R)), some (.ref 66), some (.int (nI (hsum (hwt u) (u 27 0)))), some (.int (nI (hbest (hwt u) (u 27 0)))), some (.int (nI (R - hsum (fun c => hpart R (hsum (hwt u) (u 27 0)) (hwt u c)) (u 27 0)))), none, none] [] (mv_E (mv_u (mv_w (mv_w z 33 (f33 z u (u 27 0))) 67 (f67 z 67 (fun c => hpart R (hsum (hwt u) (u 27 0)) (hwt u c)) (u 27 0))) 66 1 (nI (u 27 0)))) := by
      by_cases h0 : hsum (hwt u) (u 27 0) = 0
      · rw [if_pos h0] at C
        rw [if_pos h0] at C
        refine mv_iload_n C rfl rfl ?_
        refine mv_if_ne C rfl (fun c128 => ?_) (fun c128 => ?_)
        · exact absurd (by rw [h0]; rfl) c128
        · refine mv_iconst C rfl ?_
          refine mv_ireturn C rfl mv_okI ?_ ?_
          all_goals first | rfl | (rw [if_pos h0])
      · rw [if_neg h0] at C
        rw [if_neg h0] at C
        have hb : hbest (hwt u) (u 27 0) < u 27 0 := hbest_lt _ _ (by rcases Nat.eq_zero_or_pos (u 27 0) with q | q; (rw [q] at h0; exact absurd rfl h0); exact q)
        refine mv_iload_n C rfl rfl ?_
        refine mv_if_ne C rfl (fun c128 => ?_) (fun c128 => ?_)
        · refine mv_aload_n C rfl rfl ?_
          refine mv_getR C rfl rfl rfl ?_
          refine mv_iload C rfl rfl ?_
          refine mv_dup2 C rfl rfl rfl ?_
          refine mv_aldJ C rfl rfl rfl (by omega) (show _ = nI (hpart R (hsum (hwt u) (u 27 0)) (hwt u (hbest (hwt u) (u 27 0)))) by (rw [mv_u_ne (by decide), mv_w_get]; simp [f67, hb])) ?_
          refine mv_iload C rfl rfl ?_
          refine mv_iadd C rfl ?_
          refine mv_top (nI_add _ _) ?_
          refine mv_ast C rfl rfl rfl (by omega) ?_
          refine mv_sto (by rw [mv_uc (by decide), mv_uw]) ?_
          refine mv_iload_n C rfl rfl ?_
          refine mv_ireturn C rfl mv_okI ?_ ?_
          all_goals first | rfl | (rw [if_neg h0]) | (rw [if_neg h0]; rfl)
        · exact absurd ((nI_eq (b := 0) (by omega) (by decide)).mp c128) h0
    have loop2 : ∀ (k i : Nat), i + k = u 27 0 → V 78 [some (.ref 29), some (.int (nI R)), some (.ref 66), some (.int (nI (hsum (hwt u) (u 27 0)))), some (.int (nI (hbest (hwt u) (u 27 0)))), some (.int (nI (R - hsum (fun c => hpart R (hsum (hwt u) (u 27 0)) (hwt u c)) i))), some (.int (nI i)), none] [] (mv_E (mv_u (mv_w (mv_w z 33 (f33 z u (u 27 0))) 67 (f67 z 67 (fun c => hpart R (hsum (hwt u) (u 27 0)) (hwt u c)) i)) 66 1 (nI i))) := by
      intro k
      induction k with
      | zero =>
        intro i hi2
        obtain rfl : i = u 27 0 := by omega
        refine mv_iload C rfl rfl ?_
        refine mv_aload_n C rfl rfl ?_
        refine mv_getJ C rfl rfl rfl hc ?_
        refine mv_icmp_ge C rfl (fun c84 => ?_) (fun c84 => ?_)
        · exact mv_forget C _ (mv_le_c (mv_le_c (mv_le_c (mv_le_c (mv_le_c (mv_le_c (mv_le_n (mv_le_rf _)))))))) fin
        · exact absurd (nI_le (by omega) (by omega)) c84
      | succ k ih =>
        intro i hi2
        have e := ih (i + 1) (by omega)
        have hle := hpl (i + 1) (by omega)
        have hw := hw9 i
        simp only [hsum] at e hle
        have hpb : hpart R (hsum (hwt u) (u 27 0)) (hwt u i) ≤ R := by omega
        have R1 := r_rowAdd (mv_u (mv_w (mv_w z 33 (f33 z u (u 27 0))) 67 (f67 z 67 (fun c => hpart R (hsum (hwt u) (u 27 0)) (hwt u c)) i)) 66 1 (nI i)) (nI (hpart R (hsum (hwt u) (u 27 0)) (hwt u i))) i mv_u_eq (by omega)
        rw [mv_uc (a := 66) (b := 67) (by decide), mv_uu, mv_uw, f67_step] at R1
        have st : ∀ x : Int32, x = nI (hpart R (hsum (hwt u) (u 27 0)) (hwt u i)) → V 106 [some (.ref 29), some (.int (nI R)), some (.ref 66), some (.int (nI (hsum (hwt u) (u 27 0)))), some (.int (nI (hbest (hwt u) (u 27 0)))), some (.int (nI (R - hsum (fun c => hpart R (hsum (hwt u) (u 27 0)) (hwt u c)) i))), some (.int (nI i)), none] [.int x] (mv_E (mv_u (mv_w (mv_w z 33 (f33 z u (u 27 0))) 67 (f67 z 67 (fun c => hpart R (hsum (hwt u) (u 27 0)) (hwt u c)) i)) 66 1 (nI i))) := by
          intro x hx
          subst hx
          refine mv_is7 C rfl rfl ?_
          refine mv_aload_n C rfl rfl ?_
          refine mv_iload C rfl rfl ?_
          refine mv_cV C rfl (mv_up R1 rfl) (by decide) rfl rfl rfl (Nat.le_of_ble_eq_true rfl) (Nat.le_refl _) (Nat.le_refl _) rfl ?_
          refine mv_iload C rfl rfl ?_
          refine mv_iload C rfl rfl ?_
          refine mv_isub C rfl ?_
          refine mv_top (pk_sub (by omega)) ?_
          refine mv_is5 C rfl rfl ?_
          refine mv_inc6 C rfl rfl ?_
          refine mv_goto C rfl ?_
          simp only [nI_1]
          rw [show R - hsum (fun c => hpart R (hsum (hwt u) (u 27 0)) (hwt u c)) i - hpart R (hsum (hwt u) (u 27 0)) (hwt u i) = R - (hsum (fun c => hpart R (hsum (hwt u) (u 27 0)) (hwt u c)) i + hpart R (hsum (hwt u) (u 27 0)) (hwt u i)) by omega]
          exact mv_forget C _ (mv_le_c (mv_le_c (mv_le_c (mv_le_c (mv_le_c (mv_le_c (mv_le_c (mv_le_n (mv_le_rf _))))))))) e
        have hRW : R * hwt u i ≤ 1000000 * 999 := Nat.mul_le_mul hR2 hw
        by_cases h0 : hsum (hwt u) (u 27 0) = 0
        · refine mv_iload C rfl rfl ?_
          refine mv_aload_n C rfl rfl ?_
          refine mv_getJ C rfl rfl rfl hc ?_
          refine mv_icmp_ge C rfl (fun c84 => ?_) (fun c84 => ?_)
          · exact absurd c84 (nI_ge (by omega) (by omega))
          · refine mv_iload_n C rfl rfl ?_
            refine mv_if_ne C rfl (fun c88 => ?_) (fun c88 => ?_)
            · exact absurd (by rw [h0]; rfl) c88
            · refine mv_iconst C rfl ?_
              refine mv_goto C rfl ?_
              refine st _ ?_
              (unfold hpart; rw [if_pos h0]; rfl)
        · refine mv_iload C rfl rfl ?_
          refine mv_aload_n C rfl rfl ?_
          refine mv_getJ C rfl rfl rfl hc ?_
          refine mv_icmp_ge C rfl (fun c84 => ?_) (fun c84 => ?_)
          · exact absurd c84 (nI_ge (by omega) (by omega))
          · refine mv_iload_n C rfl rfl ?_
            refine mv_if_ne C rfl (fun c88 => ?_) (fun c88 => ?_)
            · refine mv_iload_n C rfl rfl ?_
              refine mv_aload_n C rfl rfl ?_
              refine mv_getR C rfl rfl rfl ?_
              refine mv_iload C rfl rfl ?_
              refine mv_aldJ C rfl rfl rfl (by omega) (show _ = nI (hwt u i) by (rw [mv_u_ne (by decide), mv_w_ne (by decide), mv_w_get]; simp only [f33]; rw [if_pos (by omega)])) ?_
              refine mv_imul C rfl ?_
              refine mv_top (pk_mul _ _) ?_
              refine mv_iload_n C rfl rfl ?_
              refine mv_idiv C rfl (by exact c88) ?_
              refine st _ ?_
              (unfold hpart; rw [if_neg h0]; exact pk_div (by omega) (by omega) (by omega))
            · exact absurd ((nI_eq (b := 0) (by omega) (by decide)).mp c88) h0
    have loop1 : ∀ (k i : Nat), i + k = u 27 0 → V 8 [some (.ref 29), some (.int (nI R)), some (.ref 66), some (.int (nI (hsum (hwt u) i))), some (.int (nI (hbest (hwt u) i))), some (.int (nI i)), none, none] [] (mv_E (mv_w z 33 (f33 z u i))) := by
      intro k
      induction k with
      | zero =>
        intro i hi2
        obtain rfl : i = u 27 0 := by omega
        have l0 := loop2 (u 27 0) 0 (by omega)
        have z0 : mv_u (mv_w (mv_w z 33 (f33 z u (u 27 0))) 67 (f67 z 67 (fun c => hpart R (hsum (hwt u) (u 27 0)) (hwt u c)) 0)) 66 1 (nI 0) = mv_u (mv_w z 33 (f33 z u (u 27 0))) 66 1 0 := by
          rw [f67_0, show z.1 67 = (mv_w z 33 (f33 z u (u 27 0))).1 67 by rw [mv_w_ne (by decide)], mv_w_self]; rfl
        rw [z0] at l0
        refine mv_iload C rfl rfl ?_
        refine mv_aload_n C rfl rfl ?_
        refine mv_getJ C rfl rfl rfl hc ?_
        refine mv_icmp_ge C rfl (fun c14 => ?_) (fun c14 => ?_)
        · refine mv_aload_n C rfl rfl ?_
          refine mv_iconst C rfl ?_
          refine mv_putI C rfl rfl rfl rfl ?_
          refine mv_iload_n C rfl rfl ?_
          refine mv_is5 C rfl rfl ?_
          refine mv_iconst C rfl ?_
          refine mv_is6 C rfl rfl ?_
          exact l0
        · exact absurd (nI_le (by omega) (by omega)) c14
      | succ k ih =>
        intro i hi2
        have e := ih (i + 1) (by omega)
        rw [← f33_step, ← mv_uw] at e
        simp only [hsum, hbest] at e
        have R1 := r_weigh (mv_w z 33 (f33 z u i)) u i (by omega) hi (hzw _)
        have hw := hw9 i
        have hwb := hw9 (hbest (hwt u) i)
        have hs1 := hsum_w u hi i (by omega)
        have hbl := hbest_le (hwt u) i
        have ha1 : (mv_u (mv_w z 33 (f33 z u i)) 33 i (nI (hwt u i))).1 33 i = nI (hwt u i) := mv_u_eq
        have ha2 : (mv_u (mv_w z 33 (f33 z u i)) 33 i (nI (hwt u i))).1 33 (hbest (hwt u) i) = nI (hwt u (hbest (hwt u) i)) := by
          by_cases q : hbest (hwt u) i = i
          · rw [q]; exact mv_u_eq
          · rw [mv_u_at q, mv_w_get]; simp only [f33]; rw [if_pos (by omega)]
        refine mv_iload C rfl rfl ?_
        refine mv_aload_n C rfl rfl ?_
        refine mv_getJ C rfl rfl rfl hc ?_
        refine mv_icmp_ge C rfl (fun c14 => ?_) (fun c14 => ?_)
        · exact absurd c14 (nI_ge (by omega) (by omega))
        · refine mv_aload_n C rfl rfl ?_
          refine mv_getR C rfl rfl rfl ?_
          refine mv_iload C rfl rfl ?_
          refine mv_aload_n C rfl rfl ?_
          refine mv_iload C rfl rfl ?_
          refine mv_cV C rfl R1 (by decide) rfl rfl rfl (Nat.le_of_ble_eq_true rfl) (Nat.le_refl _) (Nat.le_refl _) rfl ?_
          refine mv_ast C rfl rfl rfl (by omega) ?_
          refine mv_iload_n C rfl rfl ?_
          refine mv_aload_n C rfl rfl ?_
          refine mv_getR C rfl rfl rfl ?_
          refine mv_iload C rfl rfl ?_
          refine mv_aldJ C rfl rfl rfl (by omega) ha1 ?_
          refine mv_iadd C rfl ?_
          refine mv_top (nI_add _ _) ?_
          refine mv_is_n3 C rfl rfl ?_
          refine mv_aload_n C rfl rfl ?_
          refine mv_getR C rfl rfl rfl ?_
          refine mv_iload C rfl rfl ?_
          refine mv_aldJ C rfl rfl rfl (by omega) ha1 ?_
          refine mv_aload_n C rfl rfl ?_
          refine mv_getR C rfl rfl rfl ?_
          refine mv_iload C rfl rfl ?_
          refine mv_aldJ C rfl rfl rfl (by omega) ha2 ?_
          refine mv_icmp_le C rfl (fun c54 => ?_) (fun c54 => ?_)
          · rw [nI_leI (by omega) (by omega)] at c54
            rw [if_neg (by omega)] at e
            refine mv_inc5 C rfl rfl ?_
            refine mv_goto C rfl ?_
            simp only [nI_1]
            exact e
          · rw [nI_leI (by omega) (by omega)] at c54
            rw [if_pos (by omega)] at e
            refine mv_iload C rfl rfl ?_
            refine mv_is4 C rfl rfl ?_
            refine mv_inc5 C rfl rfl ?_
            refine mv_goto C rfl ?_
            simp only [nI_1]
            exact e
    have z0 : mv_w z 33 (f33 z u 0) = z := by rw [show f33 z u 0 = z.1 33 by (funext q; simp [f33]), mv_w_self]
    have l1 := loop1 (u 27 0) 0 (by omega)
    rw [z0] at l1
    refine mv_iconst C rfl ?_
    refine mv_is_n3 C rfl rfl ?_
    refine mv_iconst C rfl ?_
    refine mv_is4 C rfl rfl ?_
    refine mv_iconst C rfl ?_
    refine mv_is5 C rfl rfl ?_
    exact l1
  · have hz33 := hzw (f33 z u (u 27 0))
    by_cases h0 : hsum (hwt u) (u 27 0) = 0
    · rw [if_pos h0]
      refine rX_row hz33 _ _ _ (fun i hi2 => ?_) h8a
      simp only [f67, hi2, if_true, hrow, hpart, h0, ne_eq, not_true, and_false, if_false]
    · rw [if_neg h0]
      refine rX_row hz33 _ _ _ (fun i hi2 => ?_) h8a
      unfold hrow
      rw [if_pos ⟨hi2, h0⟩]
      by_cases q : i = hbest (hwt u) (u 27 0)
      · rw [if_pos q, q]; simp [upd]
      · rw [if_neg q]; simp [upd, q, f67, hi2]
  · split <;> exact fX_u (fX_w (fX_w fX_rf (by decide)) (by decide)) (by decide)
theorem x_reward (u : hM) (z : mv_Z) (R : Int32) (hi : hI u) (hz : rX u z) : xR 102 [.int R] u z (.int (a_reward u R)) (o_reward u R) := by
  unfold a_reward o_reward
  by_cases hc : 1 ≤ R ∧ R ≤ 1000000
  · rw [if_pos hc, if_pos hc]
    obtain ⟨r, hr, rfl⟩ := nI_rng (x := R) (n := 1000001) (i32_1le hc.1) (by have := hc.2; rw [i32_le, i32_1000000] at this; rw [i32_lt, nI_toInt (by decide)]; omega) (by decide)
    have h1 : 1 ≤ r := (nI_leI (a := 1) (by decide) (by omega)).mp hc.1
    rw [nI_clamp (by omega)]
    obtain ⟨z1, R1, q1, q2⟩ := r_share z u r h1 (by omega) hi hz
    refine ⟨z1, mv_up (d := 5) ?_ rfl, q1, q2⟩
    refine mv_start pX10_reward (some .int) [some (.ref 0), some (.int (nI r))] rfl rfl rfl rfl (fun V C => ?_)
    refine mv_iload_n C rfl rfl ?_
    refine mv_iconst C rfl ?_
    refine mv_icmp_lt C rfl (fun c2 => ?_) (fun c2 => ?_)
    · exact absurd c2 (nI_nlt (b := 1) (by omega) (by omega))
    · refine mv_iload_n C rfl rfl ?_
      refine mv_ldc C rfl ?_
      refine mv_icmp_gt C rfl (fun c8 => ?_) (fun c8 => ?_)
      · exact absurd c8 (nI_nlt (a := 1000000) (by omega) (by decide))
      · refine mv_aload_n C rfl rfl ?_
        refine mv_getR C rfl rfl rfl ?_
        refine mv_iload_n C rfl rfl ?_
        refine mv_aload_n C rfl rfl ?_
        refine mv_getR C rfl rfl rfl ?_
        refine mv_cV C rfl R1 (by decide) rfl rfl rfl (Nat.le_of_ble_eq_true rfl) (Nat.le_refl _) (Nat.le_refl _) rfl ?_
        refine mv_goto C rfl ?_
        refine mv_ireturn C rfl mv_okI ?_ ?_
        all_goals rfl
  · rw [if_neg hc, if_neg hc]
    refine ⟨_, mv_up (d := 5) (S1 := mv_E z) ?_ rfl, hz, fX_rf⟩
    refine mv_start pX10_reward (some .int) [some (.ref 0), some (.int R)] rfl rfl rfl rfl (fun V C => ?_)
    refine mv_iload_n C rfl rfl ?_
    refine mv_iconst C rfl ?_
    refine mv_icmp_lt C rfl (fun c2 => ?_) (fun c2 => ?_)
    · refine mv_iconst C rfl ?_
      refine mv_ireturn C rfl mv_okI ?_ ?_
      all_goals rfl
    · refine mv_iload_n C rfl rfl ?_
      refine mv_ldc C rfl ?_
      refine mv_icmp_gt C rfl (fun c8 => ?_) (fun c8 => ?_)
      · refine mv_iconst C rfl ?_
        refine mv_ireturn C rfl mv_okI ?_ ?_
        all_goals rfl
      · exact absurd ⟨(by rw [i32_lt] at c2; rw [i32_le]; omega), (by rw [i32_lt] at c8; rw [i32_le]; omega)⟩ hc
end

