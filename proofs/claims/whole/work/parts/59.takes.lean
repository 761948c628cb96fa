section
def kx (z : mv_Z) (a : Nat) (f0 f1 f2 f3 : Nat → Int32) : mv_Z := (fun q => if q = 34 + 4 * a then f0 else if q = 35 + 4 * a then f1 else if q = 36 + 4 * a then f2 else if q = 37 + 4 * a then f3 else z.1 q, z.2)
theorem kx_self (z : mv_Z) (a : Nat) : kx z a (z.1 (34 + 4 * a)) (z.1 (35 + 4 * a)) (z.1 (36 + 4 * a)) (z.1 (37 + 4 * a)) = z := by
  unfold kx
  refine Prod.ext (funext fun q => ?_) rfl
  dsimp only
  by_cases h0 : q = 34 + 4 * a
  · rw [if_pos h0, h0]
  · rw [if_neg h0]
    by_cases h1 : q = 35 + 4 * a
    · rw [if_pos h1, h1]
    · rw [if_neg h1]
      by_cases h2 : q = 36 + 4 * a
      · rw [if_pos h2, h2]
      · rw [if_neg h2]
        by_cases h3 : q = 37 + 4 * a
        · rw [if_pos h3, h3]
        · rw [if_neg h3]
theorem kx_0 {z : mv_Z} {a : Nat} {f0 f1 f2 f3 : Nat → Int32} : (kx z a f0 f1 f2 f3).1 (34 + 4 * a) = f0 := by simp [kx]
theorem kx_1 {z : mv_Z} {a : Nat} {f0 f1 f2 f3 : Nat → Int32} : (kx z a f0 f1 f2 f3).1 (35 + 4 * a) = f1 := by
  unfold kx; dsimp only; rw [if_neg (by omega), if_pos rfl]
theorem kx_2 {z : mv_Z} {a : Nat} {f0 f1 f2 f3 : Nat → Int32} : (kx z a f0 f1 f2 f3).1 (36 + 4 * a) = f2 := by
  unfold kx; dsimp only; rw [if_neg (by omega), if_neg (by omega), if_pos rfl]
theorem kx_3 {z : mv_Z} {a : Nat} {f0 f1 f2 f3 : Nat → Int32} : (kx z a f0 f1 f2 f3).1 (37 + 4 * a) = f3 := by
  unfold kx; dsimp only; rw [if_neg (by omega), if_neg (by omega), if_neg (by omega), if_pos rfl]
theorem kx_ne {z : mv_Z} {a : Nat} {f0 f1 f2 f3 : Nat → Int32} {q : Nat} (h : q < 34 + 4 * a ∨ 37 + 4 * a < q) : (kx z a f0 f1 f2 f3).1 q = z.1 q := by
  unfold kx; dsimp only; rw [if_neg (by omega), if_neg (by omega), if_neg (by omega), if_neg (by omega)]
theorem kx_u0 {z : mv_Z} {a : Nat} {f0 f1 f2 f3 : Nat → Int32} {i : Nat} {x : Int32} : mv_u (kx z a f0 f1 f2 f3) (34 + 4 * a) i x = kx z a (upd f0 i x) f1 f2 f3 := by
  unfold mv_u
  refine Prod.ext (funext fun q => ?_) rfl
  dsimp only [va_up]
  by_cases h : q = 34 + 4 * a
  · rw [if_pos h, kx_0]; simp [kx, h]
  · rw [if_neg h]; simp [kx, h]
theorem kx_u1 {z : mv_Z} {a : Nat} {f0 f1 f2 f3 : Nat → Int32} {i : Nat} {x : Int32} : mv_u (kx z a f0 f1 f2 f3) (35 + 4 * a) i x = kx z a f0 (upd f1 i x) f2 f3 := by
  unfold mv_u
  refine Prod.ext (funext fun q => ?_) rfl
  dsimp only [va_up]
  by_cases h : q = 35 + 4 * a
  · rw [if_pos h, kx_1, h]; exact kx_1.symm
  · rw [if_neg h]; simp [kx, h]
theorem kx_u2 {z : mv_Z} {a : Nat} {f0 f1 f2 f3 : Nat → Int32} {i : Nat} {x : Int32} : mv_u (kx z a f0 f1 f2 f3) (36 + 4 * a) i x = kx z a f0 f1 (upd f2 i x) f3 := by
  unfold mv_u
  refine Prod.ext (funext fun q => ?_) rfl
  dsimp only [va_up]
  by_cases h : q = 36 + 4 * a
  · rw [if_pos h, kx_2, h]; exact kx_2.symm
  · rw [if_neg h]; simp [kx, h]
theorem kx_u3 {z : mv_Z} {a : Nat} {f0 f1 f2 f3 : Nat → Int32} {i : Nat} {x : Int32} : mv_u (kx z a f0 f1 f2 f3) (37 + 4 * a) i x = kx z a f0 f1 f2 (upd f3 i x) := by
  unfold mv_u
  refine Prod.ext (funext fun q => ?_) rfl
  dsimp only [va_up]
  by_cases h : q = 37 + 4 * a
  · rw [if_pos h, kx_3, h]; exact kx_3.symm
  · rw [if_neg h]; simp [kx, h]
def kAc (c : hM) (f0 f1 f2 f3 : Nat → Int32) : Prop := f0 3 = nI (c 1 0) ∧ f0 4 = nI (c 3 0) ∧ f0 5 = nI (c 0 0) ∧ (2 ≤ c 0 0 → f0 6 = nI (c 2 0)) ∧ (∀ j, j < c 1 0 → f1 j = nI (c 4 j) ∧ f2 j = nI (c 5 j) ∧ f3 j = nI (c 6 j)) ∧ (1 ≤ c 0 0 → c 0 0 ≤ 2 → f1 (c 1 0) = nI (c 4 (c 1 0))) ∧ (c 0 0 = 2 → f2 (c 1 0) = nI (c 5 (c 1 0)) ∧ f3 (c 1 0) = nI (c 6 (c 1 0)))
theorem nI_eqv {x b : Nat} (hx : x < 256) (hb : b < 256) : nI x = nI b ↔ x = b := nI_eq (by omega) (by omega)
theorem r_takesLetter (z : mv_Z) (a k x : Nat) (f0 f1 f2 f3 : Nat → Int32) (ha : a < 8) (hx : x < 256) (hk : k < 10) (h3 : f0 3 = nI k) (hP : x = 110 ∨ x = 104 ∨ x = 99) : mv_Runs 1 3 [.ref (34 + 4 * a), .int (nI x)] (mv_E (kx z a f0 f1 f2 f3)) (some (.int 1)) (mv_E (kx z a (upd f0 5 1) (upd f1 k (nI x)) f2 f3)) := by
  obtain ⟨l1, l2, l3⟩ := lay_a1 a ha
  have l0 := lay_act a ha
  have hP : nI x = 110 ∨ nI x = 104 ∨ nI x = 99 := hP.elim (fun q => Or.inl (congrArg nI q)) (fun q => Or.inr (q.elim (fun q => Or.inl (congrArg nI q)) (fun q => Or.inr (congrArg nI q))))
  refine mv_start pX0_takesLetter (some .boolean) [some (.ref (34 + 4 * a)), some (.int (nI x)), none] rfl rfl rfl rfl (fun V C => ?_)
  have fin : ∀ w2 : Option Value, V 39 [some (.ref (34 + 4 * a)), some (.int (nI x)), w2] [] (mv_E (kx z a f0 f1 f2 f3)) := by
    intro w2
    refine mv_aload_n C rfl rfl ?_
    refine mv_getR C rfl l0 rfl ?_
    refine mv_aload_n C rfl rfl ?_
    refine mv_getJ C rfl l0 rfl ((congrFun kx_0 3).trans h3) ?_
    refine mv_iload_n C rfl rfl ?_
    refine mv_ast C rfl l1 rfl (by omega) ?_
    refine mv_sto kx_u1 ?_
    refine mv_aload_n C rfl rfl ?_
    refine mv_iconst C rfl ?_
    refine mv_putI C rfl l0 rfl rfl ?_
    refine mv_sto kx_u0 ?_
    refine mv_iconst C rfl ?_
    refine mv_ireturn C rfl mv_okZ1 ?_ ?_
    all_goals rfl
  refine mv_iload_n C rfl rfl ?_
  refine mv_bipush C rfl ?_
  refine mv_icmp_eq C rfl (fun c3 => ?_) (fun c3 => ?_)
  · refine mv_iconst C rfl ?_
    refine mv_goto C rfl ?_
    refine mv_is_n2 C rfl rfl ?_
    refine mv_iload_n C rfl rfl ?_
    refine mv_if_eq C rfl (fun c25 => ?_) (fun c25 => ?_)
    · exact absurd c25 (by decide)
    · refine mv_aload_n C rfl rfl ?_
      refine mv_getJ C rfl l0 rfl ((congrFun kx_0 3).trans h3) ?_
      refine mv_bipush C rfl ?_
      refine mv_icmp_lt C rfl (fun c34 => ?_) (fun c34 => ?_)
      · exact fin _
      · exact absurd (nI_lt (b := 10) hk (by decide)) c34
  · refine mv_iload_n C rfl rfl ?_
    refine mv_bipush C rfl ?_
    refine mv_icmp_eq C rfl (fun c9 => ?_) (fun c9 => ?_)
    · refine mv_iconst C rfl ?_
      refine mv_goto C rfl ?_
      refine mv_is_n2 C rfl rfl ?_
      refine mv_iload_n C rfl rfl ?_
      refine mv_if_eq C rfl (fun c25 => ?_) (fun c25 => ?_)
      · exact absurd c25 (by decide)
      · refine mv_aload_n C rfl rfl ?_
        refine mv_getJ C rfl l0 rfl ((congrFun kx_0 3).trans h3) ?_
        refine mv_bipush C rfl ?_
        refine mv_icmp_lt C rfl (fun c34 => ?_) (fun c34 => ?_)
        · exact fin _
        · exact absurd (nI_lt (b := 10) hk (by decide)) c34
    · refine mv_iload_n C rfl rfl ?_
      refine mv_bipush C rfl ?_
      refine mv_icmp_ne C rfl (fun c15 => ?_) (fun c15 => ?_)
      · exact (hP.elim c3 (fun h => h.elim c9 c15)).elim
      · refine mv_iconst C rfl ?_
        refine mv_goto C rfl ?_
        refine mv_is_n2 C rfl rfl ?_
        refine mv_iload_n C rfl rfl ?_
        refine mv_if_eq C rfl (fun c25 => ?_) (fun c25 => ?_)
        · exact absurd c25 (by decide)
        · refine mv_aload_n C rfl rfl ?_
          refine mv_getJ C rfl l0 rfl ((congrFun kx_0 3).trans h3) ?_
          refine mv_bipush C rfl ?_
          refine mv_icmp_lt C rfl (fun c34 => ?_) (fun c34 => ?_)
          · exact fin _
          · exact absurd (nI_lt (b := 10) hk (by decide)) c34
theorem r_takesLetterN (z : mv_Z) (a x : Nat) (f0 f1 f2 f3 : Nat → Int32) (ha : a < 8) (hx : x < 256) (hP : ¬ (x = 110 ∨ x = 104 ∨ x = 99)) : mv_Runs 1 3 [.ref (34 + 4 * a), .int (nI x)] (mv_E (kx z a f0 f1 f2 f3)) (some (.int 0)) (mv_E (kx z a f0 f1 f2 f3)) := by
  have n1 : ¬ nI x = 110 := fun q => hP (Or.inl ((nI_eqv (b := 110) hx (by decide)).mp q))
  have n2 : ¬ nI x = 104 := fun q => hP (Or.inr (Or.inl ((nI_eqv (b := 104) hx (by decide)).mp q)))
  have n3 : ¬ nI x = 99 := fun q => hP (Or.inr (Or.inr ((nI_eqv (b := 99) hx (by decide)).mp q)))
  refine mv_start pX0_takesLetter (some .boolean) [some (.ref (34 + 4 * a)), some (.int (nI x)), none] rfl rfl rfl rfl (fun V C => ?_)
  refine mv_iload_n C rfl rfl ?_
  refine mv_bipush C rfl ?_
  refine mv_icmp_eq C rfl (fun c3 => ?_) (fun c3 => ?_)
  · exact absurd c3 n1
  · refine mv_iload_n C rfl rfl ?_
    refine mv_bipush C rfl ?_
    refine mv_icmp_eq C rfl (fun c9 => ?_) (fun c9 => ?_)
    · exact absurd c9 n2
    · refine mv_iload_n C rfl rfl ?_
      refine mv_bipush C rfl ?_
      refine mv_icmp_ne C rfl (fun c15 => ?_) (fun c15 => ?_)
      · refine mv_iconst C rfl ?_
        refine mv_is_n2 C rfl rfl ?_
        refine mv_iload_n C rfl rfl ?_
        refine mv_if_eq C rfl (fun c25 => ?_) (fun c25 => ?_)
        · refine mv_iconst C rfl ?_
          refine mv_ireturn C rfl mv_okZ0 ?_ ?_
          all_goals rfl
        · exact absurd rfl c25
      · exact absurd c15 n3
theorem r_takesComparison (z : mv_Z) (a k x : Nat) (f0 f1 f2 f3 : Nat → Int32) (ha : a < 8) (hx : x < 256) (hk : k < 10) (h3 : f0 3 = nI k) (hP : x = 60 ∨ x = 62 ∨ x = 61) : mv_Runs 1 4 [.ref (34 + 4 * a), .int (nI x)] (mv_E (kx z a f0 f1 f2 f3)) (some (.int 1)) (mv_E (kx z a (upd (upd f0 6 0) 5 2) f1 (upd f2 k (nI x)) (upd f3 k 0))) := by
  obtain ⟨l1, l2, l3⟩ := lay_a1 a ha
  have l0 := lay_act a ha
  have hP : nI x = 60 ∨ nI x = 62 ∨ nI x = 61 := hP.elim (fun q => Or.inl (congrArg nI q)) (fun q => Or.inr (q.elim (fun q => Or.inl (congrArg nI q)) (fun q => Or.inr (congrArg nI q))))
  refine mv_start pX0_takesComparison (some .boolean) [some (.ref (34 + 4 * a)), some (.int (nI x)), none] rfl rfl rfl rfl (fun V C => ?_)
  have fin : ∀ w2 : Option Value, V 39 [some (.ref (34 + 4 * a)), some (.int (nI x)), w2] [] (mv_E (kx z a f0 f1 f2 f3)) := by
    intro w2
    refine mv_aload_n C rfl rfl ?_
    refine mv_getR C rfl l0 rfl ?_
    refine mv_aload_n C rfl rfl ?_
    refine mv_getJ C rfl l0 rfl ((congrFun kx_0 3).trans h3) ?_
    refine mv_iload_n C rfl rfl ?_
    refine mv_ast C rfl l2 rfl (by omega) ?_
    refine mv_sto kx_u2 ?_
    refine mv_aload_n C rfl rfl ?_
    refine mv_getR C rfl l0 rfl ?_
    refine mv_aload_n C rfl rfl ?_
    refine mv_getJ C rfl l0 rfl ((congrFun kx_0 3).trans h3) ?_
    refine mv_iconst C rfl ?_
    refine mv_ast C rfl l3 rfl (by omega) ?_
    refine mv_sto kx_u3 ?_
    refine mv_aload_n C rfl rfl ?_
    refine mv_iconst C rfl ?_
    refine mv_putI C rfl l0 rfl rfl ?_
    refine mv_sto kx_u0 ?_
    refine mv_aload_n C rfl rfl ?_
    refine mv_iconst C rfl ?_
    refine mv_putI C rfl l0 rfl rfl ?_
    refine mv_sto kx_u0 ?_
    refine mv_iconst C rfl ?_
    refine mv_ireturn C rfl mv_okZ1 ?_ ?_
    all_goals rfl
  refine mv_iload_n C rfl rfl ?_
  refine mv_bipush C rfl ?_
  refine mv_icmp_eq C rfl (fun c3 => ?_) (fun c3 => ?_)
  · refine mv_iconst C rfl ?_
    refine mv_goto C rfl ?_
    refine mv_is_n2 C rfl rfl ?_
    refine mv_iload_n C rfl rfl ?_
    refine mv_if_eq C rfl (fun c25 => ?_) (fun c25 => ?_)
    · exact absurd c25 (by decide)
    · refine mv_aload_n C rfl rfl ?_
      refine mv_getJ C rfl l0 rfl ((congrFun kx_0 3).trans h3) ?_
      refine mv_bipush C rfl ?_
      refine mv_icmp_lt C rfl (fun c34 => ?_) (fun c34 => ?_)
      · exact fin _
      · exact absurd (nI_lt (b := 10) hk (by decide)) c34
  · refine mv_iload_n C rfl rfl ?_
    refine mv_bipush C rfl ?_
    refine mv_icmp_eq C rfl (fun c9 => ?_) (fun c9 => ?_)
    · refine mv_iconst C rfl ?_
      refine mv_goto C rfl ?_
      refine mv_is_n2 C rfl rfl ?_
      refine mv_iload_n C rfl rfl ?_
      refine mv_if_eq C rfl (fun c25 => ?_) (fun c25 => ?_)
      · exact absurd c25 (by decide)
      · refine mv_aload_n C rfl rfl ?_
        refine mv_getJ C rfl l0 rfl ((congrFun kx_0 3).trans h3) ?_
        refine mv_bipush C rfl ?_
        refine mv_icmp_lt C rfl (fun c34 => ?_) (fun c34 => ?_)
        · exact fin _
        · exact absurd (nI_lt (b := 10) hk (by decide)) c34
    · refine mv_iload_n C rfl rfl ?_
      refine mv_bipush C rfl ?_
      refine mv_icmp_ne C rfl (fun c15 => ?_) (fun c15 => ?_)
      · exact (hP.elim c3 (fun h => h.elim c9 c15)).elim
      · refine mv_iconst C rfl ?_
        refine mv_goto C rfl ?_
        refine mv_is_n2 C rfl rfl ?_
        refine mv_iload_n C rfl rfl ?_
        refine mv_if_eq C rfl (fun c25 => ?_) (fun c25 => ?_)
        · exact absurd c25 (by decide)
        · refine mv_aload_n C rfl rfl ?_
          refine mv_getJ C rfl l0 rfl ((congrFun kx_0 3).trans h3) ?_
          refine mv_bipush C rfl ?_
          refine mv_icmp_lt C rfl (fun c34 => ?_) (fun c34 => ?_)
          · exact fin _
          · exact absurd (nI_lt (b := 10) hk (by decide)) c34
theorem r_takesComparisonN (z : mv_Z) (a x : Nat) (f0 f1 f2 f3 : Nat → Int32) (ha : a < 8) (hx : x < 256) (hP : ¬ (x = 60 ∨ x = 62 ∨ x = 61)) : mv_Runs 1 4 [.ref (34 + 4 * a), .int (nI x)] (mv_E (kx z a f0 f1 f2 f3)) (some (.int 0)) (mv_E (kx z a f0 f1 f2 f3)) := by
  have n1 : ¬ nI x = 60 := fun q => hP (Or.inl ((nI_eqv (b := 60) hx (by decide)).mp q))
  have n2 : ¬ nI x = 62 := fun q => hP (Or.inr (Or.inl ((nI_eqv (b := 62) hx (by decide)).mp q)))
  have n3 : ¬ nI x = 61 := fun q => hP (Or.inr (Or.inr ((nI_eqv (b := 61) hx (by decide)).mp q)))
  refine mv_start pX0_takesComparison (some .boolean) [some (.ref (34 + 4 * a)), some (.int (nI x)), none] rfl rfl rfl rfl (fun V C => ?_)
  refine mv_iload_n C rfl rfl ?_
  refine mv_bipush C rfl ?_
  refine mv_icmp_eq C rfl (fun c3 => ?_) (fun c3 => ?_)
  · exact absurd c3 n1
  · refine mv_iload_n C rfl rfl ?_
    refine mv_bipush C rfl ?_
    refine mv_icmp_eq C rfl (fun c9 => ?_) (fun c9 => ?_)
    · exact absurd c9 n2
    · refine mv_iload_n C rfl rfl ?_
      refine mv_bipush C rfl ?_
      refine mv_icmp_ne C rfl (fun c15 => ?_) (fun c15 => ?_)
      · refine mv_iconst C rfl ?_
        refine mv_is_n2 C rfl rfl ?_
        refine mv_iload_n C rfl rfl ?_
        refine mv_if_eq C rfl (fun c25 => ?_) (fun c25 => ?_)
        · refine mv_iconst C rfl ?_
          refine mv_ireturn C rfl mv_okZ0 ?_ ?_
          all_goals rfl
        · exact absurd rfl c25
      · exact absurd c15 n3
theorem r_isDigit (z : mv_Z) (x : Nat) (hx : x < 256) : mv_Runs 1 7 [.int (nI x)] (mv_E z) (some (.int (if kdig x then 1 else 0))) (mv_E z) := by
  by_cases h : kdig x
  · rw [if_pos h]
    refine mv_start pX0_isDigit (some .boolean) [some (.int (nI x))] rfl rfl rfl rfl (fun V C => ?_)
    refine mv_iload_n C rfl rfl ?_
    refine mv_bipush C rfl ?_
    refine mv_icmp_lt C rfl (fun c3 => ?_) (fun c3 => ?_)
    · exact absurd ((nI_ltI (b := 48) (by omega) (by decide)).mp c3) (by omega)
    · refine mv_iload_n C rfl rfl ?_
      refine mv_bipush C rfl ?_
      refine mv_icmp_gt C rfl (fun c9 => ?_) (fun c9 => ?_)
      · exact absurd ((nI_ltI (a := 57) (by decide) (by omega)).mp c9) (by omega)
      · refine mv_iconst C rfl ?_
        refine mv_goto C rfl ?_
        refine mv_ireturn C rfl mv_okZ1 ?_ ?_
        all_goals rfl
  · rw [if_neg h]
    refine mv_start pX0_isDigit (some .boolean) [some (.int (nI x))] rfl rfl rfl rfl (fun V C => ?_)
    refine mv_iload_n C rfl rfl ?_
    refine mv_bipush C rfl ?_
    refine mv_icmp_lt C rfl (fun c3 => ?_) (fun c3 => ?_)
    · refine mv_iconst C rfl ?_
      refine mv_ireturn C rfl mv_okZ0 ?_ ?_
      all_goals rfl
    · refine mv_iload_n C rfl rfl ?_
      refine mv_bipush C rfl ?_
      refine mv_icmp_gt C rfl (fun c9 => ?_) (fun c9 => ?_)
      · refine mv_iconst C rfl ?_
        refine mv_ireturn C rfl mv_okZ0 ?_ ?_
        all_goals rfl
      · (have q1 : ¬ x < 48 := fun q => c3 (nI_lt (b := 48) q (by decide)); have q2 : ¬ 57 < x := fun q => c9 (nI_lt (a := 57) q (by omega)); exact absurd ⟨by omega, by omega⟩ h)
theorem nI_dg {v x : Nat} (hv : v < 1000000) (h : 48 ≤ x) (hx : x < 256) : nI v * 10 + nI x - 48 = nI (v * 10 + x - 48) := by
  rw [show (10 : Int32) = nI 10 from rfl, pk_mul, nI_add]; exact pk_sub (b := 48) (by omega)
theorem r_inNumberD (z : mv_Z) (a k d v x : Nat) (f0 f1 f2 f3 : Nat → Int32) (ha : a < 8) (hx : x < 256) (hk : k < 10) (h3 : f0 3 = nI k) (h6 : f0 6 = nI d) (hv : f3 k = nI v) (hv1 : v < 1000) (hd : d < 3) (hP : kdig x) : mv_Runs 2 5 [.ref (34 + 4 * a), .int (nI x)] (mv_E (kx z a f0 f1 f2 f3)) (some (.int 1)) (mv_E (kx z a (upd f0 6 (nI (d + 1))) f1 f2 (upd f3 k (nI (v * 10 + x - 48))))) := by
  obtain ⟨l1, l2, l3⟩ := lay_a1 a ha
  have l0 := lay_act a ha
  have R1 := r_isDigit (kx z a f0 f1 f2 f3) x hx
  rw [if_pos hP] at R1
  refine mv_start pX0_takesInNumber (some .boolean) [some (.ref (34 + 4 * a)), some (.int (nI x))] rfl rfl rfl rfl (fun V C => ?_)
  refine mv_aload_n C rfl rfl ?_
  refine mv_getJ C rfl l0 rfl ((congrFun kx_0 3).trans h3) ?_
  refine mv_bipush C rfl ?_
  refine mv_icmp_lt C rfl (fun c6 => ?_) (fun c6 => ?_)
  · refine mv_iload_n C rfl rfl ?_
    refine mv_cS C rfl R1 (by decide) rfl (Nat.le_of_ble_eq_true rfl) (Nat.le_refl _) (Nat.le_refl _) rfl ?_
    refine mv_if_eq C rfl (fun c15 => ?_) (fun c15 => ?_)
    · exact absurd c15 (by decide)
    · refine mv_aload_n C rfl rfl ?_
      refine mv_getJ C rfl l0 rfl ((congrFun kx_0 6).trans h6) ?_
      refine mv_iconst C rfl ?_
      refine mv_icmp_ge C rfl (fun c23 => ?_) (fun c23 => ?_)
      · exact absurd c23 (nI_ge (b := 3) hd (by decide))
      · refine mv_aload_n C rfl rfl ?_
        refine mv_getR C rfl l0 rfl ?_
        refine mv_aload_n C rfl rfl ?_
        refine mv_getJ C rfl l0 rfl ((congrFun kx_0 3).trans h3) ?_
        refine mv_aload_n C rfl rfl ?_
        refine mv_getR C rfl l0 rfl ?_
        refine mv_aload_n C rfl rfl ?_
        refine mv_getJ C rfl l0 rfl ((congrFun kx_0 3).trans h3) ?_
        refine mv_aldJ C rfl l3 rfl (by omega) ((congrFun kx_3 k).trans hv) ?_
        refine mv_bipush C rfl ?_
        refine mv_imul C rfl ?_
        refine mv_iload_n C rfl rfl ?_
        refine mv_iadd C rfl ?_
        refine mv_bipush C rfl ?_
        refine mv_isub C rfl ?_
        refine mv_top (nI_dg (by omega) hP.1 hx) ?_
        refine mv_ast C rfl l3 rfl (by omega) ?_
        refine mv_sto kx_u3 ?_
        refine mv_aload_n C rfl rfl ?_
        refine mv_dup C rfl rfl ?_
        refine mv_getJ C rfl l0 rfl ((congrFun kx_0 6).trans h6) ?_
        refine mv_iconst C rfl ?_
        refine mv_iadd C rfl ?_
        refine mv_top (nI_1 _) ?_
        refine mv_putI C rfl l0 rfl rfl ?_
        refine mv_sto kx_u0 ?_
        refine mv_iconst C rfl ?_
        refine mv_ireturn C rfl mv_okZ1 ?_ ?_
        all_goals rfl
  · exact absurd (nI_lt (b := 10) hk (by decide)) c6
theorem r_inNumberE (z : mv_Z) (a k d x : Nat) (f0 f1 f2 f3 : Nat → Int32) (ha : a < 8) (hx : x < 256) (hk : k < 10) (h3 : f0 3 = nI k) (h6 : f0 6 = nI d) (hd : d ≤ 3) (hP : ¬ (kdig x ∧ d < 3)) (hE : ¬ d = 0 ∧ (x = 38 ∨ x = 58)) : mv_Runs 2 5 [.ref (34 + 4 * a), .int (nI x)] (mv_E (kx z a f0 f1 f2 f3)) (some (.int 1)) (mv_E (kx z a (upd (upd (upd f0 3 (nI (k + 1))) 6 0) 5 (nI (if x = 38 then 0 else 3))) f1 f2 f3)) := by
  have l0 := lay_act a ha
  have R1 := r_isDigit (kx z a f0 f1 f2 f3) x hx
  rw [if_neg (fun q : kdig x => by have := hE.2; omega)] at R1
  have d0 : ¬ nI d = 0 := fun q => hE.1 ((nI_eq (b := 0) (by omega) (by decide)).mp q)
  rcases hE.2 with rfl | rfl
  · rw [if_pos rfl]
    refine mv_start pX0_takesInNumber (some .boolean) [some (.ref (34 + 4 * a)), some (.int (nI 38))] rfl rfl rfl rfl (fun V C => ?_)
    refine mv_aload_n C rfl rfl ?_
    refine mv_getJ C rfl l0 rfl ((congrFun kx_0 3).trans h3) ?_
    refine mv_bipush C rfl ?_
    refine mv_icmp_lt C rfl (fun c6 => ?_) (fun c6 => ?_)
    · refine mv_iload_n C rfl rfl ?_
      refine mv_cS C rfl R1 (by decide) rfl (Nat.le_of_ble_eq_true rfl) (Nat.le_refl _) (Nat.le_refl _) rfl ?_
      refine mv_if_eq C rfl (fun c15 => ?_) (fun c15 => ?_)
      · refine mv_aload_n C rfl rfl ?_
        refine mv_getJ C rfl l0 rfl ((congrFun kx_0 6).trans h6) ?_
        refine mv_if_eq C rfl (fun c68 => ?_) (fun c68 => ?_)
        · exact absurd c68 d0
        · refine mv_iload_n C rfl rfl ?_
          refine mv_bipush C rfl ?_
          refine mv_icmp_eq C rfl (fun c74 => ?_) (fun c74 => ?_)
          · refine mv_aload_n C rfl rfl ?_
            refine mv_dup C rfl rfl ?_
            refine mv_getJ C rfl l0 rfl ((congrFun kx_0 3).trans h3) ?_
            refine mv_iconst C rfl ?_
            refine mv_iadd C rfl ?_
            refine mv_top (nI_1 _) ?_
            refine mv_putI C rfl l0 rfl rfl ?_
            refine mv_sto kx_u0 ?_
            refine mv_aload_n C rfl rfl ?_
            refine mv_iconst C rfl ?_
            refine mv_putI C rfl l0 rfl rfl ?_
            refine mv_sto kx_u0 ?_
            refine mv_aload_n C rfl rfl ?_
            refine mv_iload_n C rfl rfl ?_
            refine mv_bipush C rfl ?_
            refine mv_icmp_ne C rfl (fun c104 => ?_) (fun c104 => ?_)
            · exact absurd rfl c104
            · refine mv_iconst C rfl ?_
              refine mv_goto C rfl ?_
              refine mv_putI C rfl l0 rfl rfl ?_
              refine mv_sto kx_u0 ?_
              refine mv_iconst C rfl ?_
              refine mv_ireturn C rfl mv_okZ1 ?_ ?_
              all_goals rfl
          · exact absurd rfl c74
      · exact absurd rfl c15
    · exact absurd (nI_lt (b := 10) hk (by decide)) c6
  · rw [if_neg (by decide)]
    refine mv_start pX0_takesInNumber (some .boolean) [some (.ref (34 + 4 * a)), some (.int (nI 58))] rfl rfl rfl rfl (fun V C => ?_)
    refine mv_aload_n C rfl rfl ?_
    refine mv_getJ C rfl l0 rfl ((congrFun kx_0 3).trans h3) ?_
    refine mv_bipush C rfl ?_
    refine mv_icmp_lt C rfl (fun c6 => ?_) (fun c6 => ?_)
    · refine mv_iload_n C rfl rfl ?_
      refine mv_cS C rfl R1 (by decide) rfl (Nat.le_of_ble_eq_true rfl) (Nat.le_refl _) (Nat.le_refl _) rfl ?_
      refine mv_if_eq C rfl (fun c15 => ?_) (fun c15 => ?_)
      · refine mv_aload_n C rfl rfl ?_
        refine mv_getJ C rfl l0 rfl ((congrFun kx_0 6).trans h6) ?_
        refine mv_if_eq C rfl (fun c68 => ?_) (fun c68 => ?_)
        · exact absurd c68 d0
        · refine mv_iload_n C rfl rfl ?_
          refine mv_bipush C rfl ?_
          refine mv_icmp_eq C rfl (fun c74 => ?_) (fun c74 => ?_)
          · exact absurd c74 (by decide)
          · refine mv_iload_n C rfl rfl ?_
            refine mv_bipush C rfl ?_
            refine mv_icmp_eq C rfl (fun c80 => ?_) (fun c80 => ?_)
            · refine mv_aload_n C rfl rfl ?_
              refine mv_dup C rfl rfl ?_
              refine mv_getJ C rfl l0 rfl ((congrFun kx_0 3).trans h3) ?_
              refine mv_iconst C rfl ?_
              refine mv_iadd C rfl ?_
              refine mv_top (nI_1 _) ?_
              refine mv_putI C rfl l0 rfl rfl ?_
              refine mv_sto kx_u0 ?_
              refine mv_aload_n C rfl rfl ?_
              refine mv_iconst C rfl ?_
              refine mv_putI C rfl l0 rfl rfl ?_
              refine mv_sto kx_u0 ?_
              refine mv_aload_n C rfl rfl ?_
              refine mv_iload_n C rfl rfl ?_
              refine mv_bipush C rfl ?_
              refine mv_icmp_ne C rfl (fun c104 => ?_) (fun c104 => ?_)
              · refine mv_iconst C rfl ?_
                refine mv_putI C rfl l0 rfl rfl ?_
                refine mv_sto kx_u0 ?_
                refine mv_iconst C rfl ?_
                refine mv_ireturn C rfl mv_okZ1 ?_ ?_
                all_goals rfl
              · exact absurd c104 (by decide)
            · exact absurd rfl c80
      · exact absurd rfl c15
    · exact absurd (nI_lt (b := 10) hk (by decide)) c6
theorem r_inNumberN (z : mv_Z) (a k d x : Nat) (f0 f1 f2 f3 : Nat → Int32) (ha : a < 8) (hx : x < 256) (hk : k < 10) (h3 : f0 3 = nI k) (h6 : f0 6 = nI d) (hd : d ≤ 3) (hP : ¬ (kdig x ∧ d < 3)) (hE : ¬ (¬ d = 0 ∧ (x = 38 ∨ x = 58))) : mv_Runs 2 5 [.ref (34 + 4 * a), .int (nI x)] (mv_E (kx z a f0 f1 f2 f3)) (some (.int 0)) (mv_E (kx z a f0 f1 f2 f3)) := by
  have l0 := lay_act a ha
  have R1 := r_isDigit (kx z a f0 f1 f2 f3) x hx
  refine mv_start pX0_takesInNumber (some .boolean) [some (.ref (34 + 4 * a)), some (.int (nI x))] rfl rfl rfl rfl (fun V C => ?_)
  have fin : V 64 [some (.ref (34 + 4 * a)), some (.int (nI x))] [] (mv_E (kx z a f0 f1 f2 f3)) := by
    refine mv_aload_n C rfl rfl ?_
    refine mv_getJ C rfl l0 rfl ((congrFun kx_0 6).trans h6) ?_
    refine mv_if_eq C rfl (fun c68 => ?_) (fun c68 => ?_)
    · refine mv_iconst C rfl ?_
      refine mv_ireturn C rfl mv_okZ0 ?_ ?_
      all_goals rfl
    · refine mv_iload_n C rfl rfl ?_
      refine mv_bipush C rfl ?_
      refine mv_icmp_eq C rfl (fun c74 => ?_) (fun c74 => ?_)
      · exact absurd ⟨fun q => c68 (by rw [q]; rfl), Or.inl ((nI_eqv (b := 38) hx (by decide)).mp c74)⟩ hE
      · refine mv_iload_n C rfl rfl ?_
        refine mv_bipush C rfl ?_
        refine mv_icmp_eq C rfl (fun c80 => ?_) (fun c80 => ?_)
        · exact absurd ⟨fun q => c68 (by rw [q]; rfl), Or.inr ((nI_eqv (b := 58) hx (by decide)).mp c80)⟩ hE
        · refine mv_iconst C rfl ?_
          refine mv_ireturn C rfl mv_okZ0 ?_ ?_
          all_goals rfl
  refine mv_aload_n C rfl rfl ?_
  refine mv_getJ C rfl l0 rfl ((congrFun kx_0 3).trans h3) ?_
  refine mv_bipush C rfl ?_
  refine mv_icmp_lt C rfl (fun c6 => ?_) (fun c6 => ?_)
  · refine mv_iload_n C rfl rfl ?_
    refine mv_cS C rfl R1 (by decide) rfl (Nat.le_of_ble_eq_true rfl) (Nat.le_refl _) (Nat.le_refl _) rfl ?_
    refine mv_if_eq C rfl (fun c15 => ?_) (fun c15 => ?_)
    · exact fin
    · refine mv_aload_n C rfl rfl ?_
      refine mv_getJ C rfl l0 rfl ((congrFun kx_0 6).trans h6) ?_
      refine mv_iconst C rfl ?_
      refine mv_icmp_ge C rfl (fun c23 => ?_) (fun c23 => ?_)
      · exact fin
      · exact absurd ⟨b10.mp c15, by rw [show (3 : Int32) = nI 3 from rfl, nI_leI (by omega) (by omega)] at c23; omega⟩ hP
  · exact absurd (nI_lt (b := 10) hk (by decide)) c6
theorem r_inWeight (z : mv_Z) (a d v x : Nat) (f0 f1 f2 f3 : Nat → Int32) (ha : a < 8) (hx : x < 256) (h4 : f0 4 = nI v) (h6 : f0 6 = nI d) (hv1 : v < 1000) (hd : d < 3) (hP : kdig x) : mv_Runs 2 6 [.ref (34 + 4 * a), .int (nI x)] (mv_E (kx z a f0 f1 f2 f3)) (some (.int 1)) (mv_E (kx z a (upd (upd f0 4 (nI (v * 10 + x - 48))) 6 (nI (d + 1))) f1 f2 f3)) := by
  have l0 := lay_act a ha
  have R1 := r_isDigit (kx z a f0 f1 f2 f3) x hx
  rw [if_pos hP] at R1
  refine mv_start pX0_takesInWeight (some .boolean) [some (.ref (34 + 4 * a)), some (.int (nI x))] rfl rfl rfl rfl (fun V C => ?_)
  refine mv_iload_n C rfl rfl ?_
  refine mv_cS C rfl R1 (by decide) rfl (Nat.le_of_ble_eq_true rfl) (Nat.le_refl _) (Nat.le_refl _) rfl ?_
  refine mv_if_eq C rfl (fun c4 => ?_) (fun c4 => ?_)
  · exact absurd c4 (by decide)
  · refine mv_aload_n C rfl rfl ?_
    refine mv_getJ C rfl l0 rfl ((congrFun kx_0 6).trans h6) ?_
    refine mv_iconst C rfl ?_
    refine mv_icmp_lt C rfl (fun c12 => ?_) (fun c12 => ?_)
    · refine mv_aload_n C rfl rfl ?_
      refine mv_aload_n C rfl rfl ?_
      refine mv_getJ C rfl l0 rfl ((congrFun kx_0 4).trans h4) ?_
      refine mv_bipush C rfl ?_
      refine mv_imul C rfl ?_
      refine mv_iload_n C rfl rfl ?_
      refine mv_iadd C rfl ?_
      refine mv_bipush C rfl ?_
      refine mv_isub C rfl ?_
      refine mv_top (nI_dg (by omega) hP.1 hx) ?_
      refine mv_putI C rfl l0 rfl rfl ?_
      refine mv_sto kx_u0 ?_
      refine mv_aload_n C rfl rfl ?_
      refine mv_dup C rfl rfl ?_
      refine mv_getJ C rfl l0 rfl ((congrFun kx_0 6).trans h6) ?_
      refine mv_iconst C rfl ?_
      refine mv_iadd C rfl ?_
      refine mv_top (nI_1 _) ?_
      refine mv_putI C rfl l0 rfl rfl ?_
      refine mv_sto kx_u0 ?_
      refine mv_iconst C rfl ?_
      refine mv_ireturn C rfl mv_okZ1 ?_ ?_
      all_goals rfl
    · exact absurd (nI_lt (b := 3) hd (by decide)) c12
theorem r_inWeightN (z : mv_Z) (a d x : Nat) (f0 f1 f2 f3 : Nat → Int32) (ha : a < 8) (hx : x < 256) (h6 : f0 6 = nI d) (hd : d ≤ 3) (hP : ¬ (kdig x ∧ d < 3)) : mv_Runs 2 6 [.ref (34 + 4 * a), .int (nI x)] (mv_E (kx z a f0 f1 f2 f3)) (some (.int 0)) (mv_E (kx z a f0 f1 f2 f3)) := by
  have l0 := lay_act a ha
  have R1 := r_isDigit (kx z a f0 f1 f2 f3) x hx
  refine mv_start pX0_takesInWeight (some .boolean) [some (.ref (34 + 4 * a)), some (.int (nI x))] rfl rfl rfl rfl (fun V C => ?_)
  refine mv_iload_n C rfl rfl ?_
  refine mv_cS C rfl R1 (by decide) rfl (Nat.le_of_ble_eq_true rfl) (Nat.le_refl _) (Nat.le_refl _) rfl ?_
  refine mv_if_eq C rfl (fun c4 => ?_) (fun c4 => ?_)
  · refine mv_iconst C rfl ?_
    refine mv_ireturn C rfl mv_okZ0 ?_ ?_
    all_goals rfl
  · refine mv_aload_n C rfl rfl ?_
    refine mv_getJ C rfl l0 rfl ((congrFun kx_0 6).trans h6) ?_
    refine mv_iconst C rfl ?_
    refine mv_icmp_lt C rfl (fun c12 => ?_) (fun c12 => ?_)
    · exact absurd ⟨b10.mp c4, (nI_ltI (b := 3) (by omega) (by decide)).mp c12⟩ hP
    · refine mv_iconst C rfl ?_
      refine mv_ireturn C rfl mv_okZ0 ?_ ?_
      all_goals rfl
end

