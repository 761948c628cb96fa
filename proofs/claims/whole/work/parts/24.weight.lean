section
/-- one ask of an act, of a claim with its number, hour and county -/
def hval (l n h c : Nat) : Nat := if l = 110 then n else if l = 104 then h else c
def hcmp (s v k : Nat) : Bool := if s = 60 then decide (v < k) else if s = 62 then decide (k < v) else decide (v = k)
def hask (u : hM) (a k n h c : Nat) : Bool := hcmp (u 24 (10 * a + k)) (hval (u 23 (10 * a + k)) n h c) (u 25 (10 * a + k))
/-- all asks from i on, k of them -/
def hall (g : Nat → Bool) : Nat → Nat → Bool
  | 0, _ => true
  | k + 1, i => g i && hall g k (i + 1)
def hfor (u : hM) (a n h c : Nat) : Bool := hall (fun k => hask u a k n h c) (u 22 a) 0
def hwf (g : Nat → Bool) (w : Nat → Nat) : Nat → Nat → Nat
  | 0, _ => 0
  | k + 1, i => bif g i then w i else hwf g w k (i + 1)
def hwt (u : hM) (n : Nat) : Nat := hwf (fun a => hfor u a n (u 29 n) (u 1 (u 28 n))) (u 26) (u 21 0) 0
theorem r_isSo (z : mv_Z) (s v k : Nat) (hs : s < 256) (hv : v < 2 ^ 31) (hk : k < 2 ^ 31) : mv_Runs 1 9 [.int (nI v), .int (nI s), .int (nI k)] (mv_E z) (some (.int (bif hcmp s v k then 1 else 0))) (mv_E z) := by
  unfold hcmp
  by_cases h1 : s = 60
  · subst h1
    rw [if_pos rfl]
    refine mv_start pX0_isSo (some .boolean) [some (.int (nI v)), some (.int (nI 60)), some (.int (nI k))] rfl rfl rfl rfl (fun V C => ?_)
    refine mv_iload_n C rfl rfl ?_
    refine mv_lsw C rfl rfl rfl ?_
    refine mv_iload_n C rfl rfl ?_
    refine mv_iload_n C rfl rfl ?_
    refine mv_icmp_ge C rfl (fun c30 => ?_) (fun c30 => ?_)
    · rw [nI_leI hk hv] at c30
      rw [decide_eq_false (show ¬ v < k by omega)] at C
      refine mv_iconst C rfl ?_
      refine mv_ireturn C rfl (by first | exact mv_okZ1 | exact mv_okZ0) ?_ ?_
      all_goals rfl
    · rw [nI_leI hk hv] at c30
      rw [decide_eq_true (show v < k by omega)] at C
      refine mv_iconst C rfl ?_
      refine mv_goto C rfl ?_
      refine mv_ireturn C rfl (by first | exact mv_okZ1 | exact mv_okZ0) ?_ ?_
      all_goals rfl
  · rw [if_neg h1]
    have n1 : ¬ nI s = 60 := fun q => h1 ((nI_eq (b := 60) (by omega) (by decide)).mp q)
    by_cases h2 : s = 62
    · subst h2
      rw [if_pos rfl]
      refine mv_start pX0_isSo (some .boolean) [some (.int (nI v)), some (.int (nI 62)), some (.int (nI k))] rfl rfl rfl rfl (fun V C => ?_)
      refine mv_iload_n C rfl rfl ?_
      refine mv_lsw C rfl rfl rfl ?_
      refine mv_iload_n C rfl rfl ?_
      refine mv_iload_n C rfl rfl ?_
      refine mv_icmp_le C rfl (fun c41 => ?_) (fun c41 => ?_)
      · rw [nI_leI hv hk] at c41
        rw [decide_eq_false (show ¬ k < v by omega)] at C
        refine mv_iconst C rfl ?_
        refine mv_ireturn C rfl (by first | exact mv_okZ1 | exact mv_okZ0) ?_ ?_
        all_goals rfl
      · rw [nI_leI hv hk] at c41
        rw [decide_eq_true (show k < v by omega)] at C
        refine mv_iconst C rfl ?_
        refine mv_goto C rfl ?_
        refine mv_ireturn C rfl (by first | exact mv_okZ1 | exact mv_okZ0) ?_ ?_
        all_goals rfl
    · rw [if_neg h2]
      have n2 : ¬ nI s = 62 := fun q => h2 ((nI_eq (b := 62) (by omega) (by decide)).mp q)
      refine mv_start pX0_isSo (some .boolean) [some (.int (nI v)), some (.int (nI s)), some (.int (nI k))] rfl rfl rfl rfl (fun V C => ?_)
      refine mv_iload_n C rfl rfl ?_
      refine mv_lsw C rfl (show _ = (49 : Int) by (show Op.lookupswitch.offset [((60 : Int), (27 : Int)), (62, 38)] 49 (nI s).toInt = 49; rw [lv_osw (a := 60) n1 rfl, lv_osw (a := 62) n2 rfl]; rfl)) rfl ?_
      refine mv_iload_n C rfl rfl ?_
      refine mv_iload_n C rfl rfl ?_
      refine mv_icmp_ne C rfl (fun c52 => ?_) (fun c52 => ?_)
      · rw [nI_eq hv hk] at c52
        rw [decide_eq_false c52] at C
        refine mv_iconst C rfl ?_
        refine mv_ireturn C rfl (by first | exact mv_okZ1 | exact mv_okZ0) ?_ ?_
        all_goals rfl
      · rw [nI_eq hv hk] at c52
        rw [decide_eq_true c52] at C
        refine mv_iconst C rfl ?_
        refine mv_goto C rfl ?_
        refine mv_ireturn C rfl (by first | exact mv_okZ1 | exact mv_okZ0) ?_ ?_
        all_goals rfl
theorem lay_act : ∀ a, a < 8 → mv_lay[34 + 4 * a]? = some (.inr (0, [some (35 + 4 * a), some (36 + 4 * a), some (37 + 4 * a), none, none, none, none])) := by
  intro a ha
  rcases (show a = 0 ∨ a = 1 ∨ a = 2 ∨ a = 3 ∨ a = 4 ∨ a = 5 ∨ a = 6 ∨ a = 7 by omega) with rfl | rfl | rfl | rfl | rfl | rfl | rfl | rfl <;> rfl
theorem lay_a1 : ∀ a, a < 8 → mv_lay[35 + 4 * a]? = some (.inl (0, 10)) ∧ mv_lay[36 + 4 * a]? = some (.inl (0, 10)) ∧ mv_lay[37 + 4 * a]? = some (.inl (0, 10)) := by
  intro a ha
  rcases (show a = 0 ∨ a = 1 ∨ a = 2 ∨ a = 3 ∨ a = 4 ∨ a = 5 ∨ a = 6 ∨ a = 7 by omega) with rfl | rfl | rfl | rfl | rfl | rfl | rfl | rfl <;> exact ⟨rfl, rfl, rfl⟩
theorem r_isFor (z : mv_Z) (u : hM) (a n h c : Nat) (ha : a < u 21 0) (hi : hI u) (hz : rX u z) (hn : n < 2 ^ 31) (hh : h < 2 ^ 31) (hc : c < 2 ^ 31) : mv_Runs 2 8 [.ref (34 + 4 * a), .int (nI n), .int (nI h), .int (nI c)] (mv_E z) (some (.int (bif hfor u a n h c then 1 else 0))) (mv_E z) := by
  have h8 : u 21 0 ≤ 8 := hi.2.2.2.2.2.2.2.2.2.2.2.2.2.2.2.2.1
  have h10 := (hi.2.2.2.2.2.2.2.2.2.2.2.2.2.2.2.2.2.1 a ha).1
  have hb := hi.2.2.2.2.2.2.2.2.2.2.2.2.2.2.2.2.2.2.2.2.2
  obtain ⟨z1, z2, z3⟩ := hz.2.2.2.2.2.1 a ha
  obtain ⟨l1, l2, l3⟩ := lay_a1 a (by omega)
  have l0 := lay_act a (by omega)
  refine mv_start pX0_isFor (some .boolean) [some (.ref (34 + 4 * a)), some (.int (nI n)), some (.int (nI h)), some (.int (nI c)), none, none] rfl rfl rfl rfl (fun V C => ?_)
  have loop : ∀ (k i : Nat), i + k = u 22 a → hall (fun k => hask u a k n h c) k i = hfor u a n h c → V 3 [some (.ref (34 + 4 * a)), some (.int (nI n)), some (.int (nI h)), some (.int (nI c)), some (.int (nI i)), none] [] (mv_E z) := by
    intro k
    induction k with
    | zero =>
      intro i hi2 he
      refine mv_iload C rfl rfl ?_
      refine mv_aload_n C rfl rfl ?_
      refine mv_getJ C rfl l0 rfl z1 ?_
      refine mv_icmp_ge C rfl (fun c9 => ?_) (fun c9 => ?_)
      · refine mv_iconst C rfl ?_
        refine mv_ireturn C rfl mv_okZ1 ?_ ?_
        all_goals first | rfl | (rw [← he]; rfl)
      · exact absurd (nI_le (by omega) (by omega)) c9
    | succ k ih =>
      intro i hi2 he
      obtain ⟨b1, b2, b3, -⟩ := hb (10 * a + i)
      obtain ⟨y1, y2, y3⟩ := z3 i (by omega)
      simp only [hall] at he
      have hv : hval (u 23 (10 * a + i)) n h c < 2 ^ 31 := by unfold hval; split; assumption; split <;> assumption
      have R := r_isSo z (u 24 (10 * a + i)) (hval (u 23 (10 * a + i)) n h c) (u 25 (10 * a + i)) b2 hv (by omega)
      have st : ∀ x : Int32, x = nI (hval (u 23 (10 * a + i)) n h c) → V 52 [some (.ref (34 + 4 * a)), some (.int (nI n)), some (.int (nI h)), some (.int (nI c)), some (.int (nI i)), none] [.int x] (mv_E z) := by
        intro x hx
        subst hx
        cases hg : hcmp (u 24 (10 * a + i)) (hval (u 23 (10 * a + i)) n h c) (u 25 (10 * a + i)) with
        | true =>
          rw [hg] at R
          rw [show hask u a i n h c = true from hg] at he
          refine mv_is5 C rfl rfl ?_
          refine mv_iload C rfl rfl ?_
          refine mv_aload_n C rfl rfl ?_
          refine mv_getR C rfl l0 rfl ?_
          refine mv_iload C rfl rfl ?_
          refine mv_aldJ C rfl l2 rfl (by omega) y2 ?_
          refine mv_aload_n C rfl rfl ?_
          refine mv_getR C rfl l0 rfl ?_
          refine mv_iload C rfl rfl ?_
          refine mv_aldJ C rfl l3 rfl (by omega) y3 ?_
          refine mv_cS C rfl R (by decide) rfl (Nat.le_of_ble_eq_true rfl) (Nat.le_refl _) (Nat.le_refl _) rfl ?_
          refine mv_if_ne C rfl (fun c73 => ?_) (fun c73 => ?_)
          · refine mv_inc4 C rfl rfl ?_
            refine mv_goto C rfl ?_
            simp only [nI_1]
            exact mv_forget C _ (mv_le_c (mv_le_c (mv_le_c (mv_le_c (mv_le_c (mv_le_n (mv_le_rf _))))))) (ih (i + 1) (by omega) he)
          · exact absurd c73 (by decide)
        | false =>
          rw [hg] at R
          rw [show hask u a i n h c = false from hg] at he
          refine mv_is5 C rfl rfl ?_
          refine mv_iload C rfl rfl ?_
          refine mv_aload_n C rfl rfl ?_
          refine mv_getR C rfl l0 rfl ?_
          refine mv_iload C rfl rfl ?_
          refine mv_aldJ C rfl l2 rfl (by omega) y2 ?_
          refine mv_aload_n C rfl rfl ?_
          refine mv_getR C rfl l0 rfl ?_
          refine mv_iload C rfl rfl ?_
          refine mv_aldJ C rfl l3 rfl (by omega) y3 ?_
          refine mv_cS C rfl R (by decide) rfl (Nat.le_of_ble_eq_true rfl) (Nat.le_refl _) (Nat.le_refl _) rfl ?_
          refine mv_if_ne C rfl (fun c73 => ?_) (fun c73 => ?_)
          · exact absurd rfl c73
          · refine mv_iconst C rfl ?_
            refine mv_ireturn C rfl mv_okZ0 ?_ ?_
            all_goals first | rfl | (rw [← he]; rfl)
      refine mv_iload C rfl rfl ?_
      refine mv_aload_n C rfl rfl ?_
      refine mv_getJ C rfl l0 rfl z1 ?_
      refine mv_icmp_ge C rfl (fun c9 => ?_) (fun c9 => ?_)
      · exact absurd c9 (nI_ge (by omega) (by omega))
      · refine mv_iload C rfl rfl ?_
        refine mv_bipush C rfl ?_
        refine mv_icmp_ge C rfl (fun c16 => ?_) (fun c16 => ?_)
        · exact absurd c16 (nI_ge (b := 10) (by omega) (by decide))
        · refine mv_aload_n C rfl rfl ?_
          refine mv_getR C rfl l0 rfl ?_
          refine mv_iload C rfl rfl ?_
          refine mv_aldJ C rfl l1 rfl (by omega) y1 ?_
          refine mv_bipush C rfl ?_
          refine mv_icmp_ne C rfl (fun c28 => ?_) (fun c28 => ?_)
          · have q1 : ¬ u 23 (10 * a + i) = 110 := fun q => c28 (by rw [q]; rfl)
            refine mv_aload_n C rfl rfl ?_
            refine mv_getR C rfl l0 rfl ?_
            refine mv_iload C rfl rfl ?_
            refine mv_aldJ C rfl l1 rfl (by omega) y1 ?_
            refine mv_bipush C rfl ?_
            refine mv_icmp_ne C rfl (fun c44 => ?_) (fun c44 => ?_)
            · have q2 : ¬ u 23 (10 * a + i) = 104 := fun q => c44 (by rw [q]; rfl)
              refine mv_iload_n C rfl rfl ?_
              refine st _ ?_
              clear st ih
              unfold hval
              simp [*]
            · have q2 : u 23 (10 * a + i) = 104 := (nI_eq (b := 104) (by omega) (by decide)).mp c44
              refine mv_iload_n C rfl rfl ?_
              refine mv_goto C rfl ?_
              refine st _ ?_
              clear st ih
              unfold hval
              simp [*]
          · have q1 : u 23 (10 * a + i) = 110 := (nI_eq (b := 110) (by omega) (by decide)).mp c28
            refine mv_iload_n C rfl rfl ?_
            refine mv_goto C rfl ?_
            refine st _ ?_
            clear st ih
            unfold hval
            simp [*]
  refine mv_iconst C rfl ?_
  refine mv_is4 C rfl rfl ?_
  exact loop (u 22 a) 0 (by omega) rfl
theorem r_weigh (z : mv_Z) (u : hM) (n : Nat) (hn : n < u 27 0) (hi : hI u) (hz : rX u z) : mv_Runs 3 33 [.ref 29, .int (nI n)] (mv_E z) (some (.int (nI (hwt u n)))) (mv_E z) := by
  have h8 : u 21 0 ≤ 8 := hi.2.2.2.2.2.2.2.2.2.2.2.2.2.2.2.2.1
  have h12 : u 27 0 ≤ 12 := hi.2.2.2.2.2.2.2.2.2.2.2.2.2.2.2.2.2.2.1
  have hcl := hi.2.2.2.2.2.2.2.2.2.2.2.2.2.2.2.2.2.2.2.1 n hn
  have hct := hi.2.1 (u 28 n)
  have ha := rX_s hz 29 4 21 (by decide)
  have hcn := hz.2.2.2.2.2.2.1 n hn
  have hhr := rX_a hz 32 29 (by decide) n
  refine mv_start pX2_weigh (some .int) [some (.ref 29), some (.int (nI n)), none] rfl rfl rfl rfl (fun V C => ?_)
  have loop : ∀ (k i : Nat), i + k = u 21 0 → hwf (fun a => hfor u a n (u 29 n) (u 1 (u 28 n))) (u 26) k i = hwt u n → V 2 [some (.ref 29), some (.int (nI n)), some (.int (nI i))] [] (mv_E z) := by
    intro k
    induction k with
    | zero =>
      intro i hi2 he
      refine mv_iload_n C rfl rfl ?_
      refine mv_aload_n C rfl rfl ?_
      refine mv_getJ C rfl rfl rfl ha ?_
      refine mv_icmp_ge C rfl (fun c7 => ?_) (fun c7 => ?_)
      · refine mv_iconst C rfl ?_
        refine mv_ireturn C rfl mv_okI ?_ ?_
        all_goals first | rfl | (rw [← he]; rfl)
      · exact absurd (nI_le (by omega) (by omega)) c7
    | succ k ih =>
      intro i hi2 he
      have R := r_isFor z u i n (u 29 n) (u 1 (u 28 n)) (by omega) hi hz (by omega) (by omega) (by omega)
      obtain ⟨z1, z2, z3⟩ := hz.2.2.2.2.2.1 i (by omega)
      have l0 := lay_act i (by omega)
      simp only [hwf] at he
      cases hg : hfor u i n (u 29 n) (u 1 (u 28 n)) with
      | true =>
        rw [hg] at R he
        refine mv_iload_n C rfl rfl ?_
        refine mv_aload_n C rfl rfl ?_
        refine mv_getJ C rfl rfl rfl ha ?_
        refine mv_icmp_ge C rfl (fun c7 => ?_) (fun c7 => ?_)
        · exact absurd c7 (nI_ge (by omega) (by omega))
        · refine mv_aload_n C rfl rfl ?_
          refine mv_getR C rfl rfl rfl ?_
          refine mv_iload_n C rfl rfl ?_
          refine mv_rld C rfl rfl (by omega) ?_
          refine mv_iload_n C rfl rfl ?_
          refine mv_aload_n C rfl rfl ?_
          refine mv_getR C rfl rfl rfl ?_
          refine mv_iload_n C rfl rfl ?_
          refine mv_aldJ C rfl rfl rfl (by omega) hhr ?_
          refine mv_aload_n C rfl rfl ?_
          refine mv_getR C rfl rfl rfl ?_
          refine mv_iload_n C rfl rfl ?_
          refine mv_aldJ C rfl rfl rfl (by omega) hcn ?_
          refine mv_cV C rfl R (by decide) rfl rfl l0 (Nat.le_of_ble_eq_true rfl) (Nat.le_refl _) (Nat.le_refl _) rfl ?_
          refine mv_if_eq C rfl (fun c32 => ?_) (fun c32 => ?_)
          · exact absurd c32 (by decide)
          · refine mv_aload_n C rfl rfl ?_
            refine mv_getR C rfl rfl rfl ?_
            refine mv_iload_n C rfl rfl ?_
            refine mv_rld C rfl rfl (by omega) ?_
            refine mv_getJ C rfl l0 rfl z2 ?_
            refine mv_ireturn C rfl mv_okI ?_ ?_
            all_goals first | rfl | (rw [← he]; rfl)
      | false =>
        rw [hg] at R he
        refine mv_iload_n C rfl rfl ?_
        refine mv_aload_n C rfl rfl ?_
        refine mv_getJ C rfl rfl rfl ha ?_
        refine mv_icmp_ge C rfl (fun c7 => ?_) (fun c7 => ?_)
        · exact absurd c7 (nI_ge (by omega) (by omega))
        · refine mv_aload_n C rfl rfl ?_
          refine mv_getR C rfl rfl rfl ?_
          refine mv_iload_n C rfl rfl ?_
          refine mv_rld C rfl rfl (by omega) ?_
          refine mv_iload_n C rfl rfl ?_
          refine mv_aload_n C rfl rfl ?_
          refine mv_getR C rfl rfl rfl ?_
          refine mv_iload_n C rfl rfl ?_
          refine mv_aldJ C rfl rfl rfl (by omega) hhr ?_
          refine mv_aload_n C rfl rfl ?_
          refine mv_getR C rfl rfl rfl ?_
          refine mv_iload_n C rfl rfl ?_
          refine mv_aldJ C rfl rfl rfl (by omega) hcn ?_
          refine mv_cV C rfl R (by decide) rfl rfl l0 (Nat.le_of_ble_eq_true rfl) (Nat.le_refl _) (Nat.le_refl _) rfl ?_
          refine mv_if_eq C rfl (fun c32 => ?_) (fun c32 => ?_)
          · refine mv_inc2 C rfl rfl ?_
            refine mv_goto C rfl ?_
            simp only [nI_1]
            exact ih (i + 1) (by omega) he
          · exact absurd rfl c32
  refine mv_iconst C rfl ?_
  refine mv_is_n2 C rfl rfl ?_
  exact loop (u 21 0) 0 (by omega) rfl
def a_weight (u : hM) (n : Int32) : Int32 := if 0 ≤ n ∧ n < nI (u 27 0) then nI (hwt u n.toNatClampNeg) else -1
theorem x_weight (u : hM) (z : mv_Z) (p : Int32) (hi : hI u) (hz : rX u z) : xR 101 [.int p] u z (.int (a_weight u p)) u := by
  have hn := rX_s hz 29 5 27 (by decide)
  have h12 : u 27 0 ≤ 12 := hi.2.2.2.2.2.2.2.2.2.2.2.2.2.2.2.2.2.2.1
  unfold a_weight
  refine ⟨_, mv_up (d := 4) (S1 := mv_E z) ?_ rfl, hz, fX_rf⟩
  by_cases hc : 0 ≤ p ∧ p < nI (u 27 0)
  · rw [if_pos hc]
    have e := nI_rngc hc.1 hc.2 (by omega)
    generalize p.toNatClampNeg = k at *
    obtain ⟨hk, rfl⟩ := e
    have R := r_weigh z u k hk hi hz
    refine mv_start pX10_weight (some .int) [some (.ref 0), some (.int (nI k))] rfl rfl rfl rfl (fun V C => ?_)
    refine mv_iload_n C rfl rfl ?_
    refine mv_if_lt C rfl (fun c1 => ?_) (fun c1 => ?_)
    · exact absurd c1 (nI_pos (by omega))
    · refine mv_iload_n C rfl rfl ?_
      refine mv_aload_n C rfl rfl ?_
      refine mv_getR C rfl rfl rfl ?_
      refine mv_getJ C rfl rfl rfl hn ?_
      refine mv_icmp_ge C rfl (fun c12 => ?_) (fun c12 => ?_)
      · exact absurd c12 (nI_ge hk (by omega))
      · refine mv_aload_n C rfl rfl ?_
        refine mv_getR C rfl rfl rfl ?_
        refine mv_iload_n C rfl rfl ?_
        refine mv_cV C rfl R (by decide) rfl rfl rfl (Nat.le_of_ble_eq_true rfl) (Nat.le_refl _) (Nat.le_refl _) rfl ?_
        refine mv_goto C rfl ?_
        refine mv_ireturn C rfl mv_okI ?_ ?_
        all_goals rfl
  · rw [if_neg hc]
    refine mv_start pX10_weight (some .int) [some (.ref 0), some (.int p)] rfl rfl rfl rfl (fun V C => ?_)
    refine mv_iload_n C rfl rfl ?_
    refine mv_if_lt C rfl (fun c1 => ?_) (fun c1 => ?_)
    · refine mv_iconst C rfl ?_
      refine mv_ireturn C rfl mv_okI ?_ ?_
      all_goals rfl
    · refine mv_iload_n C rfl rfl ?_
      refine mv_aload_n C rfl rfl ?_
      refine mv_getR C rfl rfl rfl ?_
      refine mv_getJ C rfl rfl rfl hn ?_
      refine mv_icmp_ge C rfl (fun c12 => ?_) (fun c12 => ?_)
      · refine mv_iconst C rfl ?_
        refine mv_ireturn C rfl mv_okI ?_ ?_
        all_goals rfl
      · exact absurd ⟨(by rw [i32_lt] at c1; rw [i32_le]; omega), (by rw [i32_le] at c12; rw [i32_lt]; omega)⟩ hc

/-- what the weights of the reference rest on -/
def rMh (u : hM) (z : mv_Z) : Prop := (∀ q ∈ tM, z.1 q.1 = fun i => nI (u q.2 i)) ∧ z.1 68 28 = nI (u 21 0) ∧ (∀ a, a < u 21 0 → z.1 89 a = nI (u 22 a) ∧ z.1 93 a = nI (u 26 a) ∧ ∀ k, k < u 22 a → z.1 90 (10 * a + k) = nI (u 23 (10 * a + k)) ∧ z.1 91 (10 * a + k) = nI (u 24 (10 * a + k)) ∧ z.1 92 (10 * a + k) = nI (u 25 (10 * a + k)))
theorem rMh_of {u : hM} {z : mv_Z} (h : rM u z) : rMh u z := ⟨h.1.1, rM_s h 28 21 (by decide), h.2.2.2.1⟩
theorem rMh_a {u : hM} {z : mv_Z} (h : rMh u z) (cell key : Nat) (hc : (cell, key) ∈ tM) (i : Nat) : z.1 cell i = nI (u key i) := congrFun (h.1 _ hc) i
theorem rMh_w {u : hM} {z : mv_Z} (h : rMh u z) (n : Int32) (f : Nat → Int32) : rMh u (mv_w (mv_u z 68 18 n) 82 f) := by
  have hc := tM_cells
  refine ⟨fun q hq => ?_, ?_, ?_⟩
  · rw [mv_w_ne (hc q hq).2.2.2.2.2.2.2, mv_u_ne (by have := (hc q hq).1; omega)]; exact h.1 q hq
  · rw [mv_w_ne (by decide), mv_u_sl (by decide)]; exact h.2.1
  · rw [mv_w_ne (q := 89) (by decide), mv_w_ne (q := 90) (by decide), mv_w_ne (q := 91) (by decide), mv_w_ne (q := 92) (by decide), mv_w_ne (q := 93) (by decide), mv_u_ne (q := 89) (by decide), mv_u_ne (q := 90) (by decide), mv_u_ne (q := 91) (by decide), mv_u_ne (q := 92) (by decide), mv_u_ne (q := 93) (by decide)]; exact h.2.2
theorem r_holds (z : mv_Z) (u : hM) (a n : Nat) (ha : a < u 21 0) (hn : n < u 27 0) (hi : hI u) (hz : rMh u z) : mv_Runs 1 164 [.ref 68, .int (nI a), .int (nI n)] (mv_E z) (some (.int (bif hfor u a n (u 29 n) (u 1 (u 28 n)) then 1 else 0))) (mv_E z) := by
  have h8 : u 21 0 ≤ 8 := hi.2.2.2.2.2.2.2.2.2.2.2.2.2.2.2.2.1
  have h12 : u 27 0 ≤ 12 := hi.2.2.2.2.2.2.2.2.2.2.2.2.2.2.2.2.2.2.1
  have h24 := hi.1
  have hcl := hi.2.2.2.2.2.2.2.2.2.2.2.2.2.2.2.2.2.2.2.1 n hn
  have hct := hi.2.1 (u 28 n)
  have h10 := (hi.2.2.2.2.2.2.2.2.2.2.2.2.2.2.2.2.2.1 a ha).1
  have hb := hi.2.2.2.2.2.2.2.2.2.2.2.2.2.2.2.2.2.2.2.2.2
  obtain ⟨z1, z2, z3⟩ := hz.2.2 a ha
  have hfb : ∀ b : Bool, (bif b then (1 : Int32) else 0) = 0 ↔ b = false := by decide
  refine mv_start pX11_holds (some .boolean) [some (.ref 68), some (.int (nI a)), some (.int (nI n)), none, none, none] rfl rfl rfl rfl (fun V C => ?_)
  have loop : ∀ (k i : Nat) (b : Bool), i + k = u 22 a → (b && hall (fun k => hask u a k n (u 29 n) (u 1 (u 28 n))) k i) = hfor u a n (u 29 n) (u 1 (u 28 n)) → V 8 [some (.ref 68), some (.int (nI a)), some (.int (nI n)), some (.int (bif b then 1 else 0)), some (.int (nI (10 * a + i))), none] [] (mv_E z) := by
    intro k
    induction k with
    | zero =>
      intro i b hi2 he
      simp only [hall, Bool.and_true] at he
      refine mv_iload C rfl rfl ?_
      refine mv_bipush C rfl ?_
      refine mv_iload_n C rfl rfl ?_
      refine mv_imul C rfl ?_
      refine mv_top (pk_mul 10 _) ?_
      refine mv_aload_n C rfl rfl ?_
      refine mv_getR C rfl rfl rfl ?_
      refine mv_iload_n C rfl rfl ?_
      refine mv_aldJ C rfl rfl rfl (by omega) z1 ?_
      refine mv_iadd C rfl ?_
      refine mv_top (nI_add _ _) ?_
      refine mv_icmp_ge C rfl (fun c21 => ?_) (fun c21 => ?_)
      · refine mv_iload_n C rfl rfl ?_
        refine mv_ireturn C rfl (mv_okZ (by cases b <;> simp)) ?_ ?_
        all_goals first | rfl | (rw [← he])
      · exact absurd (nI_le (by omega) (by omega)) c21
    | succ k ih =>
      intro i b hi2 he
      obtain ⟨b1, b2, b3, -⟩ := hb (10 * a + i)
      obtain ⟨y1, y2, y3⟩ := z3 i (by omega)
      simp only [hall] at he
      have hv : hval (u 23 (10 * a + i)) n (u 29 n) (u 1 (u 28 n)) < 2 ^ 31 := by unfold hval; split; omega; split <;> omega
      have fin : ∀ x : Int32, x = (bif b && hask u a i n (u 29 n) (u 1 (u 28 n)) then 1 else 0) → ∀ w : Option Value, V 149 [some (.ref 68), some (.int (nI a)), some (.int (nI n)), some (.int (bif b then 1 else 0)), some (.int (nI (10 * a + i))), w] [.int x] (mv_E z) := by
        intro x hx w
        subst hx
        refine mv_is_n3 C rfl rfl ?_
        refine mv_inc4 C rfl rfl ?_
        refine mv_goto C rfl ?_
        simp only [nI_1]
        exact mv_forget C _ (mv_le_c (mv_le_c (mv_le_c (mv_le_c (mv_le_c (mv_le_n (mv_le_rf _))))))) (ih (i + 1) (b && hask u a i n (u 29 n) (u 1 (u 28 n))) (by omega) (by rw [← he, Bool.and_assoc]))
      have st : ∀ x : Int32, x = nI (hval (u 23 (10 * a + i)) n (u 29 n) (u 1 (u 28 n))) → V 72 [some (.ref 68), some (.int (nI a)), some (.int (nI n)), some (.int (bif b then 1 else 0)), some (.int (nI (10 * a + i))), none] [.int x] (mv_E z) := by
        intro x hx
        subst hx
        have eh : hask u a i n (u 29 n) (u 1 (u 28 n)) = hcmp (u 24 (10 * a + i)) (hval (u 23 (10 * a + i)) n (u 29 n) (u 1 (u 28 n))) (u 25 (10 * a + i)) := rfl
        generalize hval (u 23 (10 * a + i)) n (u 29 n) (u 1 (u 28 n)) = vv at hv eh ⊢
        refine mv_is5 C rfl rfl ?_
        refine mv_iload_n C rfl rfl ?_
        refine mv_if_eq C rfl (fun c75 => ?_) (fun c75 => ?_)
        · have qb : b = false := (hfb b).mp c75
          refine mv_iconst C rfl ?_
          refine fin _ ?_ _
          clear fin ih
          rw [eh]
          clear C eh
          unfold hcmp
          simp only [Bool.cond_eq_ite, Bool.and_eq_true]
          grind
        · have qb : b = true := by (cases b with | true => rfl | false => exact absurd rfl c75)
          refine mv_aload_n C rfl rfl ?_
          refine mv_getR C rfl rfl rfl ?_
          refine mv_iload C rfl rfl ?_
          refine mv_aldJ C rfl rfl rfl (by omega) y2 ?_
          refine mv_bipush C rfl ?_
          refine mv_icmp_ne C rfl (fun c87 => ?_) (fun c87 => ?_)
          · have q1 : ¬ u 24 (10 * a + i) = 60 := fun q => c87 (by rw [q]; rfl)
            refine mv_aload_n C rfl rfl ?_
            refine mv_getR C rfl rfl rfl ?_
            refine mv_iload C rfl rfl ?_
            refine mv_aldJ C rfl rfl rfl (by omega) y2 ?_
            refine mv_bipush C rfl ?_
            refine mv_icmp_ne C rfl (fun c114 => ?_) (fun c114 => ?_)
            · have q2 : ¬ u 24 (10 * a + i) = 62 := fun q => c114 (by rw [q]; rfl)
              refine mv_iload C rfl rfl ?_
              refine mv_aload_n C rfl rfl ?_
              refine mv_getR C rfl rfl rfl ?_
              refine mv_iload C rfl rfl ?_
              refine mv_aldJ C rfl rfl rfl (by omega) y3 ?_
              refine mv_icmp_ne C rfl (fun c141 => ?_) (fun c141 => ?_)
              · rw [nI_eq hv (by omega)] at c141
                refine mv_iconst C rfl ?_
                refine fin _ ?_ _
                clear fin ih
                rw [eh]
                clear C eh
                unfold hcmp
                simp only [Bool.cond_eq_ite, Bool.and_eq_true]
                grind
              · rw [nI_eq hv (by omega)] at c141
                refine mv_iconst C rfl ?_
                refine mv_goto C rfl ?_
                refine fin _ ?_ _
                clear fin ih
                rw [eh]
                clear C eh
                unfold hcmp
                simp only [Bool.cond_eq_ite, Bool.and_eq_true]
                grind
            · have q2 : u 24 (10 * a + i) = 62 := (nI_eq (b := 62) (by omega) (by decide)).mp c114
              refine mv_iload C rfl rfl ?_
              refine mv_aload_n C rfl rfl ?_
              refine mv_getR C rfl rfl rfl ?_
              refine mv_iload C rfl rfl ?_
              refine mv_aldJ C rfl rfl rfl (by omega) y3 ?_
              refine mv_icmp_le C rfl (fun c126 => ?_) (fun c126 => ?_)
              · rw [nI_leI hv (by omega)] at c126
                refine mv_iconst C rfl ?_
                refine fin _ ?_ _
                clear fin ih
                rw [eh]
                clear C eh
                unfold hcmp
                simp only [Bool.cond_eq_ite, Bool.and_eq_true]
                grind
              · rw [nI_leI hv (by omega)] at c126
                refine mv_goto C rfl ?_
                refine mv_iconst C rfl ?_
                refine mv_goto C rfl ?_
                refine fin _ ?_ _
                clear fin ih
                rw [eh]
                clear C eh
                unfold hcmp
                simp only [Bool.cond_eq_ite, Bool.and_eq_true]
                grind
          · have q1 : u 24 (10 * a + i) = 60 := (nI_eq (b := 60) (by omega) (by decide)).mp c87
            refine mv_iload C rfl rfl ?_
            refine mv_aload_n C rfl rfl ?_
            refine mv_getR C rfl rfl rfl ?_
            refine mv_iload C rfl rfl ?_
            refine mv_aldJ C rfl rfl rfl (by omega) y3 ?_
            refine mv_icmp_ge C rfl (fun c99 => ?_) (fun c99 => ?_)
            · rw [nI_leI (by omega) hv] at c99
              refine mv_iconst C rfl ?_
              refine fin _ ?_ _
              clear fin ih
              rw [eh]
              clear C eh
              unfold hcmp
              simp only [Bool.cond_eq_ite, Bool.and_eq_true]
              grind
            · rw [nI_leI (by omega) hv] at c99
              refine mv_goto C rfl ?_
              refine mv_iconst C rfl ?_
              refine mv_goto C rfl ?_
              refine fin _ ?_ _
              clear fin ih
              rw [eh]
              clear C eh
              unfold hcmp
              simp only [Bool.cond_eq_ite, Bool.and_eq_true]
              grind
      refine mv_iload C rfl rfl ?_
      refine mv_bipush C rfl ?_
      refine mv_iload_n C rfl rfl ?_
      refine mv_imul C rfl ?_
      refine mv_top (pk_mul 10 _) ?_
      refine mv_aload_n C rfl rfl ?_
      refine mv_getR C rfl rfl rfl ?_
      refine mv_iload_n C rfl rfl ?_
      refine mv_aldJ C rfl rfl rfl (by omega) z1 ?_
      refine mv_iadd C rfl ?_
      refine mv_top (nI_add _ _) ?_
      refine mv_icmp_ge C rfl (fun c21 => ?_) (fun c21 => ?_)
      · exact absurd c21 (nI_ge (by omega) (by omega))
      · refine mv_aload_n C rfl rfl ?_
        refine mv_getR C rfl rfl rfl ?_
        refine mv_iload C rfl rfl ?_
        refine mv_aldJ C rfl rfl rfl (by omega) y1 ?_
        refine mv_bipush C rfl ?_
        refine mv_icmp_ne C rfl (fun c33 => ?_) (fun c33 => ?_)
        · have q1 : ¬ u 23 (10 * a + i) = 110 := fun q => c33 (by rw [q]; rfl)
          refine mv_aload_n C rfl rfl ?_
          refine mv_getR C rfl rfl rfl ?_
          refine mv_iload C rfl rfl ?_
          refine mv_aldJ C rfl rfl rfl (by omega) y1 ?_
          refine mv_bipush C rfl ?_
          refine mv_icmp_ne C rfl (fun c49 => ?_) (fun c49 => ?_)
          · have q2 : ¬ u 23 (10 * a + i) = 104 := fun q => c49 (by rw [q]; rfl)
            refine mv_aload_n C rfl rfl ?_
            refine mv_getR C rfl rfl rfl ?_
            refine mv_aload_n C rfl rfl ?_
            refine mv_getR C rfl rfl rfl ?_
            refine mv_iload_n C rfl rfl ?_
            refine mv_aldJ C rfl rfl rfl (by omega) (rMh_a hz 94 28 (by decide) n) ?_
            refine mv_aldJ C rfl rfl rfl (by omega) (rMh_a hz 69 1 (by decide) _) ?_
            refine st _ ?_
            clear st fin ih
            unfold hval
            simp [*]
          · have q2 : u 23 (10 * a + i) = 104 := (nI_eq (b := 104) (by omega) (by decide)).mp c49
            refine mv_aload_n C rfl rfl ?_
            refine mv_getR C rfl rfl rfl ?_
            refine mv_iload_n C rfl rfl ?_
            refine mv_aldJ C rfl rfl rfl (by omega) (rMh_a hz 95 29 (by decide) n) ?_
            refine mv_goto C rfl ?_
            refine st _ ?_
            clear st fin ih
            unfold hval
            simp [*]
        · have q1 : u 23 (10 * a + i) = 110 := (nI_eq (b := 110) (by omega) (by decide)).mp c33
          refine mv_iload_n C rfl rfl ?_
          refine mv_goto C rfl ?_
          refine st _ ?_
          clear st fin ih
          unfold hval
          simp [*]
  refine mv_iconst C rfl ?_
  refine mv_is_n3 C rfl rfl ?_
  refine mv_bipush C rfl ?_
  refine mv_iload_n C rfl rfl ?_
  refine mv_imul C rfl ?_
  refine mv_top (pk_mul 10 _) ?_
  refine mv_is4 C rfl rfl ?_
  exact loop (u 22 a) 0 true (by omega) (by rw [Bool.true_and]; rfl)
theorem r_weightOf (z : mv_Z) (u : hM) (n : Nat) (hn : n < u 27 0) (hi : hI u) (hz : rMh u z) : mv_Runs 2 165 [.ref 68, .int (nI n)] (mv_E z) (some (.int (nI (hwt u n)))) (mv_E z) := by
  have h8 : u 21 0 ≤ 8 := hi.2.2.2.2.2.2.2.2.2.2.2.2.2.2.2.2.1
  have h12 : u 27 0 ≤ 12 := hi.2.2.2.2.2.2.2.2.2.2.2.2.2.2.2.2.2.2.1
  have ha := hz.2.1
  refine mv_start pX11_weightOf (some .int) [some (.ref 68), some (.int (nI n)), none] rfl rfl rfl rfl (fun V C => ?_)
  have loop : ∀ (k i : Nat), i + k = u 21 0 → hwf (fun a => hfor u a n (u 29 n) (u 1 (u 28 n))) (u 26) k i = hwt u n → V 2 [some (.ref 68), some (.int (nI n)), some (.int (nI i))] [] (mv_E z) := by
    intro k
    induction k with
    | zero =>
      intro i hi2 he
      refine mv_iload_n C rfl rfl ?_
      refine mv_aload_n C rfl rfl ?_
      refine mv_getJ C rfl rfl rfl ha ?_
      refine mv_icmp_ge C rfl (fun c7 => ?_) (fun c7 => ?_)
      · refine mv_iconst C rfl ?_
        refine mv_ireturn C rfl mv_okI ?_ ?_
        all_goals first | rfl | (rw [← he]; rfl)
      · exact absurd (nI_le (by omega) (by omega)) c7
    | succ k ih =>
      intro i hi2 he
      have R := r_holds z u i n (by omega) hn hi hz
      obtain ⟨z1, z2, z3⟩ := hz.2.2 i (by omega)
      simp only [hwf] at he
      cases hg : hfor u i n (u 29 n) (u 1 (u 28 n)) with
      | true =>
        rw [hg] at R he
        refine mv_iload_n C rfl rfl ?_
        refine mv_aload_n C rfl rfl ?_
        refine mv_getJ C rfl rfl rfl ha ?_
        refine mv_icmp_ge C rfl (fun c7 => ?_) (fun c7 => ?_)
        · exact absurd c7 (nI_ge (by omega) (by omega))
        · refine mv_aload_n C rfl rfl ?_
          refine mv_iload_n C rfl rfl ?_
          refine mv_iload_n C rfl rfl ?_
          refine mv_cV C rfl R (by decide) rfl rfl rfl (Nat.le_of_ble_eq_true rfl) (Nat.le_refl _) (Nat.le_refl _) rfl ?_
          refine mv_if_eq C rfl (fun c16 => ?_) (fun c16 => ?_)
          · exact absurd c16 (by decide)
          · refine mv_aload_n C rfl rfl ?_
            refine mv_getR C rfl rfl rfl ?_
            refine mv_iload_n C rfl rfl ?_
            refine mv_aldJ C rfl rfl rfl (by omega) z2 ?_
            refine mv_ireturn C rfl mv_okI ?_ ?_
            all_goals first | rfl | (rw [← he]; rfl)
      | false =>
        rw [hg] at R he
        refine mv_iload_n C rfl rfl ?_
        refine mv_aload_n C rfl rfl ?_
        refine mv_getJ C rfl rfl rfl ha ?_
        refine mv_icmp_ge C rfl (fun c7 => ?_) (fun c7 => ?_)
        · exact absurd c7 (nI_ge (by omega) (by omega))
        · refine mv_aload_n C rfl rfl ?_
          refine mv_iload_n C rfl rfl ?_
          refine mv_iload_n C rfl rfl ?_
          refine mv_cV C rfl R (by decide) rfl rfl rfl (Nat.le_of_ble_eq_true rfl) (Nat.le_refl _) (Nat.le_refl _) rfl ?_
          refine mv_if_eq C rfl (fun c16 => ?_) (fun c16 => ?_)
          · refine mv_inc2 C rfl rfl ?_
            refine mv_goto C rfl ?_
            simp only [nI_1]
            exact ih (i + 1) (by omega) he
          · exact absurd rfl c16
  refine mv_iconst C rfl ?_
  refine mv_is_n2 C rfl rfl ?_
  exact loop (u 21 0) 0 (by omega) rfl
theorem m_weight (u : hM) (z : mv_Z) (p : Int32) (hi : hI u) (hz : rM u z) : mR 166 [.int p] u z (.int (a_weight u p)) u := by
  have h0 := rM_free hz 68 0 0 (Or.inr ⟨rfl, by decide⟩)
  have hn := rM_s h0 36 27 (by decide)
  have h12 : u 27 0 ≤ 12 := hi.2.2.2.2.2.2.2.2.2.2.2.2.2.2.2.2.2.2.1
  have R0 := r_inI (mv_u z 68 0 0) p 0 (nI (u 27 0) - 1 : Int32).toInt64 _ (inN (by omega))
  unfold a_weight
  refine ⟨_, mv_up (d := 3) (S1 := mv_E (mv_u z 68 0 0)) ?_ rfl, h0, fM_u fM_rf (by decide)⟩
  by_cases hc : 0 ≤ p ∧ p < nI (u 27 0)
  · rw [if_pos hc] at R0 ⊢
    have e := nI_rngc hc.1 hc.2 (by omega)
    generalize p.toNatClampNeg = k at *
    obtain ⟨hk, rfl⟩ := e
    have R := r_weightOf _ u k hk hi (rMh_of h0)
    refine mv_start pX11_weight (some .int) [some (.ref 68), some (.int (nI k))] rfl rfl rfl rfl (fun V C => ?_)
    refine mv_aload_n C rfl rfl ?_
    refine mv_iconst C rfl ?_
    refine mv_putI C rfl rfl rfl rfl ?_
    refine mv_iload_n C rfl rfl ?_
    refine mv_i2l C rfl ?_
    refine mv_lconst C rfl ?_
    refine mv_aload_n C rfl rfl ?_
    refine mv_getJ C rfl rfl rfl hn ?_
    refine mv_iconst C rfl ?_
    refine mv_isub C rfl ?_
    refine mv_i2l C rfl ?_
    refine mv_cS C rfl (mv_up R0 rfl) (by decide) rfl (Nat.le_of_ble_eq_true rfl) (Nat.le_refl _) (Nat.le_refl _) rfl ?_
    refine mv_if_eq C rfl (fun c18 => ?_) (fun c18 => ?_)
    · exact absurd c18 (by decide)
    · refine mv_aload_n C rfl rfl ?_
      refine mv_iload_n C rfl rfl ?_
      refine mv_cV C rfl R (by decide) rfl rfl rfl (Nat.le_of_ble_eq_true rfl) (Nat.le_refl _) (Nat.le_refl _) rfl ?_
      refine mv_goto C rfl ?_
      refine mv_ireturn C rfl mv_okI ?_ ?_
      all_goals rfl
  · rw [if_neg hc] at R0 ⊢
    refine mv_start pX11_weight (some .int) [some (.ref 68), some (.int p)] rfl rfl rfl rfl (fun V C => ?_)
    refine mv_aload_n C rfl rfl ?_
    refine mv_iconst C rfl ?_
    refine mv_putI C rfl rfl rfl rfl ?_
    refine mv_iload_n C rfl rfl ?_
    refine mv_i2l C rfl ?_
    refine mv_lconst C rfl ?_
    refine mv_aload_n C rfl rfl ?_
    refine mv_getJ C rfl rfl rfl hn ?_
    refine mv_iconst C rfl ?_
    refine mv_isub C rfl ?_
    refine mv_i2l C rfl ?_
    refine mv_cS C rfl (mv_up R0 rfl) (by decide) rfl (Nat.le_of_ble_eq_true rfl) (Nat.le_refl _) (Nat.le_refl _) rfl ?_
    refine mv_if_eq C rfl (fun c18 => ?_) (fun c18 => ?_)
    · refine mv_iconst C rfl ?_
      refine mv_ireturn C rfl mv_okI ?_ ?_
      all_goals rfl
    · exact absurd rfl c18
end

