section
def kA (u : hM) (L : Nat) (sp : Int32) (f : Nat) : Bool := decide (u 13 f = 0 ∧ ¬ nI f = sp ∧ u 12 f ≤ L)
def kaa (A : Nat → Bool) (u : hM) (a : Nat → Int32) : Nat → Int32 := k15 A u a (u 9 0)
def kbb (A : Nat → Bool) (u : hM) (b : Nat → Int64) : Nat → Int64 := kflL b (fun r => kL (fun t => kbar A u r t)) (u 2 0)
theorem kaa_i {A : Nat → Bool} {u : hM} {a : Nat → Int32} {t : Nat} (h : t < 48) : kaa A u a t = kb (fun p => klet A u p t) := by unfold kaa k15; rw [kfl_i h]; rfl
theorem kbb_i {A : Nat → Bool} {u : hM} {b : Nat → Int64} {r : Nat} (h : r < u 2 0) : kbb A u b r = kL (fun t => kbar A u r t) := by unfold kbb; rw [kflL_i h]
theorem kany_or (g h : Nat → Bool) : ∀ n, (kany g n || kany h n) = kany (fun i => g i || h i) n
  | 0 => rfl
  | n + 1 => by
    simp only [kany]
    rw [← kany_or g h n]
    cases kany g n <;> cases kany h n <;> cases g n <;> cases h n <;> rfl
theorem kbar_or (A : Nat → Bool) (u : hM) (r t : Nat) : (kany (kbg A u r t) (u 9 0) || kany (ksn A u t) (u 9 0)) = kbar A u r t := by
  rw [kany_or]
  unfold kbar
  apply kany_c
  intro f _
  simp only [kbg, ksn, kbr]
  cases A f with
  | false => rfl
  | true =>
    simp only [Bool.true_and]
    rw [Bool.eq_iff_iff]
    simp only [Bool.or_eq_true, decide_eq_true_eq]
    omega
theorem r_heed (z : mv_Z) (u : hM) (a : Nat → Int32) (b : Nat → Int64) (c d : Nat → Int32) (L : Nat) (sp : Int32) (hL : L < 48) (hi : hI u) (hz : rX u z) : mv_Runs 3 18 [.ref 2, .int (nI L), .int sp] (mv_E (kz z a b c d)) none (mv_E (kz z (kaa (kA u L sp) u a) (kbb (kA u L sp) u b) c d)) := by
  have h40 : u 9 0 ≤ 40 := hi.2.2.2.2.2.2.2.1
  have hr40 := hi.2.2.1
  have hsk := hi.2.2.2.2.2.2.2.2.2.1
  have hfc := hi.2.2.2.2.2.2.2.2.1
  have hn : ∀ a b c d, (kz z a b c d).1 10 4 = nI (u 9 0) := fun _ _ _ _ => rX_s hz 10 4 9 (by decide)
  have hr : ∀ a b c d, (kz z a b c d).1 3 7 = nI (u 2 0) := fun _ _ _ _ => rX_s hz 3 7 2 (by decide)
  have y3 : ∀ a b c d f, (kz z a b c d).1 13 f = nI (u 12 f) := fun _ _ _ _ f => rX_a hz 13 12 (by decide) f
  have y4 : ∀ a b c d f, (kz z a b c d).1 14 f = nI (u 13 f) := fun _ _ _ _ f => rX_a hz 14 13 (by decide) f
  generalize hA : kA u L sp = A
  have hA1 : ∀ f, A f = decide (u 13 f = 0 ∧ ¬ nI f = sp ∧ u 12 f ≤ L) := fun f => by rw [← hA]; rfl
  refine mv_start pX1_heed none [some (.ref 2), some (.int (nI L)), some (.int sp), none, none, none] rfl rfl rfl rfl (fun V C => ?_)
  have l4 : ∀ (k i : Nat), i + k = u 2 0 → V 115 [some (.ref 2), some (.int (nI L)), some (.int sp), some (.long (kL (fun t => kany (ksn A u t) (u 9 0)))), none, some (.int (nI i))] [] (mv_E (kz z (kaa A u a) (kflL (k16 A u b (u 9 0)) (fun r => kL (fun t => kbar A u r t)) i) c d)) := by
    intro k
    induction k with
    | zero =>
      intro i hi2
      obtain rfl : i = u 2 0 := by omega
      refine mv_iload C rfl rfl ?_
      refine mv_aload_n C rfl rfl ?_
      refine mv_getR C rfl rfl rfl ?_
      refine mv_getJ C rfl rfl rfl (hr _ _ _ _) ?_
      refine mv_icmp_ge C rfl (fun c124 => ?_) (fun c124 => ?_)
      · refine mv_return_ C rfl rfl ?_ ?_
        · rfl
        · (refine congrArg (fun q => mv_E (kz z (kaa A u a) q c d)) ?_; funext r; unfold kbb k16 kflL; split <;> rfl)
      · exact absurd (nI_le (by omega) (by omega)) c124
    | succ k ih =>
      intro i hi2
      have e := ih (i + 1) (by omega)
      rw [← kflL_s] at e
      have ev : kflL (k16 A u b (u 9 0)) (fun r => kL (fun t => kbar A u r t)) i i ||| kL (fun t => kany (ksn A u t) (u 9 0)) = kL (fun t => kbar A u i t) := by
        rw [show kflL (k16 A u b (u 9 0)) (fun r => kL (fun t => kbar A u r t)) i i = k16 A u b (u 9 0) i by simp [kflL]]
        unfold k16
        rw [kflL_i (by omega), kL_or]
        exact kL_c (fun t _ => kbar_or A u i t)
      refine mv_iload C rfl rfl ?_
      refine mv_aload_n C rfl rfl ?_
      refine mv_getR C rfl rfl rfl ?_
      refine mv_getJ C rfl rfl rfl (hr _ _ _ _) ?_
      refine mv_icmp_ge C rfl (fun c124 => ?_) (fun c124 => ?_)
      · exact absurd c124 (nI_ge (by omega) (by omega))
      · refine mv_aload_n C rfl rfl ?_
        refine mv_getR C rfl rfl rfl ?_
        refine mv_iload C rfl rfl ?_
        refine mv_dup2 C rfl rfl rfl ?_
        refine mv_lld C rfl rfl rfl (by omega) ?_
        refine mv_lload_n C rfl rfl ?_
        refine mv_lor C rfl ?_
        refine mv_topL ev ?_
        refine mv_lst C rfl rfl rfl (by omega) ?_
        refine mv_sto kz_u16 ?_
        refine mv_inc5 C rfl rfl ?_
        refine mv_goto C rfl ?_
        simp only [nI_1]
        exact e
  have l3 : ∀ (k i : Nat), i + k = u 9 0 → V 52 [some (.ref 2), some (.int (nI L)), some (.int sp), some (.long (kL (fun t => kany (ksn A u t) i))), none, some (.int (nI i))] [] (mv_E (kz z (k15 A u a i) (k16 A u b i) c d)) := by
    intro k
    induction k with
    | zero =>
      intro i hi2
      obtain rfl : i = u 9 0 := by omega
      have e := l4 (u 2 0) 0 (by omega)
      rw [kflL_0] at e
      refine mv_iload C rfl rfl ?_
      refine mv_aload_n C rfl rfl ?_
      refine mv_getR C rfl rfl rfl ?_
      refine mv_getJ C rfl rfl rfl (hn _ _ _ _) ?_
      refine mv_icmp_ge C rfl (fun c61 => ?_) (fun c61 => ?_)
      · refine mv_iconst C rfl ?_
        refine mv_is5 C rfl rfl ?_
        exact e
      · exact absurd (nI_le (by omega) (by omega)) c61
    | succ k ih =>
      intro i hi2
      have e := ih (i + 1) (by omega)
      have hs := (hsk i).1
      have hf := hfc i (by omega)
      cases hAi : A i with
      | true =>
        have R := r_heedOne z u A a b c d i hi hz (by omega) hAi
        rw [hA1, decide_eq_true_eq] at hAi
        have ev : kL (fun t => kany (ksn A u t) i) ||| kL (fun t => ksn A u t i) = kL (fun t => kany (ksn A u t) (i + 1)) := by rw [kL_or]; rfl
        refine mv_iload C rfl rfl ?_
        refine mv_aload_n C rfl rfl ?_
        refine mv_getR C rfl rfl rfl ?_
        refine mv_getJ C rfl rfl rfl (hn _ _ _ _) ?_
        refine mv_icmp_ge C rfl (fun c61 => ?_) (fun c61 => ?_)
        · exact absurd c61 (nI_ge (by omega) (by omega))
        · refine mv_aload_n C rfl rfl ?_
          refine mv_getR C rfl rfl rfl ?_
          refine mv_getR C rfl rfl rfl ?_
          refine mv_iload C rfl rfl ?_
          refine mv_zldJ C rfl rfl rfl (by omega) (y4 _ _ _ _ _) ?_
          refine mv_if_ne C rfl (fun c74 => ?_) (fun c74 => ?_)
          · exact absurd (by rw [hAi.1]; rfl) c74
          · refine mv_iload C rfl rfl ?_
            refine mv_iload_n C rfl rfl ?_
            refine mv_icmp_eq C rfl (fun c80 => ?_) (fun c80 => ?_)
            · exact absurd c80 hAi.2.1
            · refine mv_aload_n C rfl rfl ?_
              refine mv_getR C rfl rfl rfl ?_
              refine mv_getR C rfl rfl rfl ?_
              refine mv_iload C rfl rfl ?_
              refine mv_aldJ C rfl rfl rfl (by omega) (y3 _ _ _ _ _) ?_
              refine mv_iload_n C rfl rfl ?_
              refine mv_icmp_gt C rfl (fun c94 => ?_) (fun c94 => ?_)
              · exact absurd c94 (nI_nlt (by omega) (by omega))
              · refine mv_lload_n C rfl rfl ?_
                refine mv_aload_n C rfl rfl ?_
                refine mv_iload C rfl rfl ?_
                refine mv_cV C rfl R (by decide) rfl rfl rfl (Nat.le_of_ble_eq_true rfl) (Nat.le_refl _) (Nat.le_refl _) rfl ?_
                refine mv_lor C rfl ?_
                refine mv_topL ev ?_
                refine mv_ls_n3 C rfl rfl ?_
                refine mv_inc5 C rfl rfl ?_
                refine mv_goto C rfl ?_
                simp only [nI_1]
                exact e
      | false =>
        rw [k15_no (Or.inl hAi), k16_no (Or.inl hAi)] at e
        have ev : kL (fun t => kany (ksn A u t) (i + 1)) = kL (fun t => kany (ksn A u t) i) := by apply kL_c; intro t _; simp [kany, ksn, hAi]
        rw [ev] at e
        rw [hA1, decide_eq_false_iff_not] at hAi
        refine mv_iload C rfl rfl ?_
        refine mv_aload_n C rfl rfl ?_
        refine mv_getR C rfl rfl rfl ?_
        refine mv_getJ C rfl rfl rfl (hn _ _ _ _) ?_
        refine mv_icmp_ge C rfl (fun c61 => ?_) (fun c61 => ?_)
        · exact absurd c61 (nI_ge (by omega) (by omega))
        · refine mv_aload_n C rfl rfl ?_
          refine mv_getR C rfl rfl rfl ?_
          refine mv_getR C rfl rfl rfl ?_
          refine mv_iload C rfl rfl ?_
          refine mv_zldJ C rfl rfl rfl (by omega) (y4 _ _ _ _ _) ?_
          refine mv_if_ne C rfl (fun c74 => ?_) (fun c74 => ?_)
          · refine mv_inc5 C rfl rfl ?_
            refine mv_goto C rfl ?_
            simp only [nI_1]
            exact e
          · refine mv_iload C rfl rfl ?_
            refine mv_iload_n C rfl rfl ?_
            refine mv_icmp_eq C rfl (fun c80 => ?_) (fun c80 => ?_)
            · refine mv_inc5 C rfl rfl ?_
              refine mv_goto C rfl ?_
              simp only [nI_1]
              exact e
            · refine mv_aload_n C rfl rfl ?_
              refine mv_getR C rfl rfl rfl ?_
              refine mv_getR C rfl rfl rfl ?_
              refine mv_iload C rfl rfl ?_
              refine mv_aldJ C rfl rfl rfl (by omega) (y3 _ _ _ _ _) ?_
              refine mv_iload_n C rfl rfl ?_
              refine mv_icmp_gt C rfl (fun c94 => ?_) (fun c94 => ?_)
              · refine mv_inc5 C rfl rfl ?_
                refine mv_goto C rfl ?_
                simp only [nI_1]
                exact e
              · (refine absurd ⟨?_, c80, ?_⟩ hAi; (rcases Nat.lt_or_ge 0 (u 13 i) with q | q; (rw [show u 13 i = 1 by omega] at c74; exact absurd c74 (by decide)); omega); (rcases Nat.lt_or_ge L (u 12 i) with q | q; (exact absurd (nI_lt q (by omega)) c94); exact q))
  have l2 : ∀ (k i : Nat), i + k = u 2 0 → V 23 [some (.ref 2), some (.int (nI L)), some (.int sp), some (.int (nI i)), none, none] [] (mv_E (kz z (k15 A u a 0) (kflL b (fun _ => 0) i) c d)) := by
    intro k
    induction k with
    | zero =>
      intro i hi2
      obtain rfl : i = u 2 0 := by omega
      have e := l3 (u 9 0) 0 (by omega)
      rw [show k16 A u b 0 = kflL b (fun _ => 0) (u 2 0) by (unfold k16; rw [kL_0]; rfl), show (kL (fun t => kany (ksn A u t) 0)) = 0 by (rw [kL_0]; rfl)] at e
      refine mv_iload_n C rfl rfl ?_
      refine mv_aload_n C rfl rfl ?_
      refine mv_getR C rfl rfl rfl ?_
      refine mv_getJ C rfl rfl rfl (hr _ _ _ _) ?_
      refine mv_icmp_ge C rfl (fun c31 => ?_) (fun c31 => ?_)
      · refine mv_lconst C rfl ?_
        refine mv_ls_n3 C rfl rfl ?_
        refine mv_iconst C rfl ?_
        refine mv_is5 C rfl rfl ?_
        exact e
      · exact absurd (nI_le (by omega) (by omega)) c31
    | succ k ih =>
      intro i hi2
      have e := ih (i + 1) (by omega)
      rw [← kflL_s] at e
      refine mv_iload_n C rfl rfl ?_
      refine mv_aload_n C rfl rfl ?_
      refine mv_getR C rfl rfl rfl ?_
      refine mv_getJ C rfl rfl rfl (hr _ _ _ _) ?_
      refine mv_icmp_ge C rfl (fun c31 => ?_) (fun c31 => ?_)
      · exact absurd c31 (nI_ge (by omega) (by omega))
      · refine mv_aload_n C rfl rfl ?_
        refine mv_getR C rfl rfl rfl ?_
        refine mv_iload_n C rfl rfl ?_
        refine mv_lconst C rfl ?_
        refine mv_lst C rfl rfl rfl (by omega) ?_
        refine mv_sto kz_u16 ?_
        refine mv_inc3 C rfl rfl ?_
        refine mv_goto C rfl ?_
        simp only [nI_1]
        exact e
  have l1 : ∀ (k i : Nat), i + k = 48 → V 2 [some (.ref 2), some (.int (nI L)), some (.int sp), some (.int (nI i)), none, none] [] (mv_E (kz z (kfl a (fun _ => -1) i) b c d)) := by
    intro k
    induction k with
    | zero =>
      intro i hi2
      obtain rfl : i = 48 := by omega
      have e := l2 (u 2 0) 0 (by omega)
      rw [kflL_0, show k15 A u a 0 = kfl a (fun _ => -1) 48 by (unfold k15; rw [kb_m1]; rfl)] at e
      refine mv_iload_n C rfl rfl ?_
      refine mv_bipush C rfl ?_
      refine mv_icmp_ge C rfl (fun c5 => ?_) (fun c5 => ?_)
      · refine mv_iconst C rfl ?_
        refine mv_is_n3 C rfl rfl ?_
        exact e
      · exact absurd (by decide) c5
    | succ k ih =>
      intro i hi2
      have e := ih (i + 1) (by omega)
      rw [← kfl_s] at e
      refine mv_iload_n C rfl rfl ?_
      refine mv_bipush C rfl ?_
      refine mv_icmp_ge C rfl (fun c5 => ?_) (fun c5 => ?_)
      · exact absurd c5 (nI_ge (b := 48) (by omega) (by decide))
      · refine mv_aload_n C rfl rfl ?_
        refine mv_getR C rfl rfl rfl ?_
        refine mv_iload_n C rfl rfl ?_
        refine mv_iconst C rfl ?_
        refine mv_ast C rfl rfl rfl (by omega) ?_
        refine mv_sto kz_u15 ?_
        refine mv_inc3 C rfl rfl ?_
        refine mv_goto C rfl ?_
        simp only [nI_1]
        exact e
  have e := l1 48 0 (by omega)
  rw [kfl_0] at e
  refine mv_iconst C rfl ?_
  refine mv_is_n3 C rfl rfl ?_
  exact e
theorem lgc_0 (x y : Int64) : lg_cmp x y = 0 ↔ x = y := by
  rcases lgc_val x y with ⟨h, e⟩ | ⟨h, e⟩ | ⟨h, e⟩
  · rw [e]; exact ⟨fun q => absurd q (by decide), fun q => by (subst q; omega)⟩
  · exact ⟨fun _ => Int64.toInt_inj.mp h, fun _ => e⟩
  · rw [e]; exact ⟨fun q => absurd q (by decide), fun q => by (subst q; omega)⟩
theorem r_isClear (z : mv_Z) (u : hM) (A : Nat → Bool) (a : Nat → Int32) (b : Nat → Int64) (c d : Nat → Int32) (r s t : Nat) (hs : s < t) (ht : t ≤ 48) (h40 : u 2 0 ≤ 40) (hr : r < u 2 0) (hb : b r = kL (fun t => kbar A u r t)) : mv_Runs 1 26 [.ref 2, .int (nI r), .int (nI s), .int (nI t)] (mv_E (kz z a b c d)) (some (.int (bif kclr A u r (s + 1) t then 1 else 0))) (mv_E (kz z a b c d)) := by
  have hb1 : (kz z a b c d).2 16 r = kL (fun t => kbar A u r t) := hb
  have ec : (lg_cmp (kL (fun t => kbar A u r t) &&& ((1 <<< ((nI t).toInt64 &&& 63)) - (1 <<< ((nI (s + 1)).toInt64 &&& 63)))) 0 = 0) ↔ kclr A u r (s + 1) t = true := by
    rw [lgc_0, kclr_t]
    constructor
    · intro h q q1 q2
      have h2 : hbL (kL (fun t => kbar A u r t) &&& ((1 <<< ((nI t).toInt64 &&& 63)) - (1 <<< ((nI (s + 1)).toInt64 &&& 63)))) q = false := by rw [h, hL_0]
      rw [hL_and, kL_b (by omega), hL_sub (by omega) (by omega) (by omega), decide_eq_true (by omega), Bool.and_true] at h2
      exact h2
    · intro h
      apply hL_ext
      intro q hq
      rw [hL_and, kL_b hq, hL_sub (by omega) (by omega) hq, hL_0]
      by_cases e : s + 1 ≤ q ∧ q < t
      · rw [h q e.1 e.2]; rfl
      · rw [decide_eq_false e, Bool.and_false]
  refine mv_start pX1_isClear (some .boolean) [some (.ref 2), some (.int (nI r)), some (.int (nI s)), some (.int (nI t)), none, none] rfl rfl rfl rfl (fun V C => ?_)
  refine mv_lconst C rfl ?_
  refine mv_iload_n C rfl rfl ?_
  refine mv_lshl C rfl ?_
  refine mv_lconst C rfl ?_
  refine mv_iload_n C rfl rfl ?_
  refine mv_iconst C rfl ?_
  refine mv_iadd C rfl ?_
  refine mv_top (nI_1 _) ?_
  refine mv_lshl C rfl ?_
  refine mv_lsub C rfl ?_
  refine mv_ls4 C rfl rfl ?_
  refine mv_aload_n C rfl rfl ?_
  refine mv_getR C rfl rfl rfl ?_
  refine mv_iload_n C rfl rfl ?_
  refine mv_lldJ C rfl rfl rfl (by omega) hb1 ?_
  refine mv_lload C rfl rfl ?_
  refine mv_land C rfl ?_
  refine mv_lconst C rfl ?_
  refine mv_lcmp C rfl ?_
  refine mv_if_ne C rfl (fun c22 => ?_) (fun c22 => ?_)
  · rw [ec, Bool.not_eq_true] at c22
    refine mv_iconst C rfl ?_
    refine mv_ireturn C rfl (by first | exact mv_okZ1 | exact mv_okZ0) ?_ ?_
    all_goals first | rfl | (rw [c22]; rfl)
  · rw [ec] at c22
    refine mv_iconst C rfl ?_
    refine mv_goto C rfl ?_
    refine mv_ireturn C rfl (by first | exact mv_okZ1 | exact mv_okZ0) ?_ ?_
    all_goals first | rfl | (rw [c22]; rfl)
end

