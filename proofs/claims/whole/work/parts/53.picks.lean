section
theorem kchk_a {n s : Nat} (hn : n ≤ 24) (hs : s ≤ 3) : kchk n s = true := kall_t (kall_t kchk_ok n (by omega)) s (by omega)
theorem kcl_ch {n s : Nat} (hn : n ≤ 24) (hs : s ≤ 3) : kch n s (kcl n s n []) = true ∧ (kcl n s n []).length ≤ 2024 := by
  have h := kchk_a hn hs
  unfold kchk at h
  simp only [Bool.and_eq_true] at h
  exact ⟨h.1.1, Nat.le_of_ble_eq_true h.1.2⟩
theorem kcl_hd {n s : Nat} (hn : n ≤ 24) (hs : s ≤ 3) (h : s ≤ n) : ∃ l rest, kcl n s n [] = l :: rest ∧ ∀ i, i < s → kgd l i = i := by
  have h1 := kchk_a hn hs
  unfold kchk at h1
  simp only [Bool.and_eq_true] at h1
  have h2 := h1.2
  cases hk : kcl n s n [] with
  | nil => rw [hk] at h2; dsimp only at h2; have := Nat.blt_eq.mp h2; omega
  | cons l rest =>
    rw [hk] at h2
    dsimp only at h2
    rw [Bool.and_eq_true] at h2
    exact ⟨l, rest, rfl, fun i hi => Nat.eq_of_beq_eq_true (kall_t h2.2 i hi)⟩
theorem kcl_nil {n s : Nat} (hn : n ≤ 24) (hs : s ≤ 3) (h : n < s) : kcl n s n [] = [] := by
  have h1 := kchk_a hn hs
  unfold kchk at h1
  simp only [Bool.and_eq_true] at h1
  have h2 := h1.2
  cases hk : kcl n s n [] with
  | nil => rfl
  | cons l rest =>
    rw [hk] at h2
    dsimp only at h2
    rw [Bool.and_eq_true] at h2
    have := Nat.le_of_ble_eq_true h2.1
    omega
theorem kch_l {n s : Nat} {l : List Nat} {rest : List (List Nat)} (h : kch n s (l :: rest) = true) : l.length = s ∧ (∀ i, i < s → kgd l i < n ∧ (1 ≤ i → kgd l (i - 1) < kgd l i)) ∧ kch n s rest = true := by
  simp only [kch, Bool.and_eq_true] at h
  refine ⟨Nat.eq_of_beq_eq_true h.1.1.1, fun i hi => ?_, h.2⟩
  have := kall_t h.1.1.2 i hi
  rw [Bool.and_eq_true, Bool.or_eq_true] at this
  refine ⟨Nat.blt_eq.mp this.1, fun h1 => ?_⟩
  rcases this.2 with q | q
  · have := Nat.eq_of_beq_eq_true q; omega
  · exact Nat.blt_eq.mp q
theorem kch_0 {n s : Nat} {l : List Nat} (h : kch n s [l] = true) : kpi n s (kgd l) s = 0 := by
  simp only [kch, Bool.and_eq_true] at h
  exact Nat.eq_of_beq_eq_true h.1.2
theorem kch_1 {n s : Nat} {l l1 : List Nat} {rest : List (List Nat)} (h : kch n s (l :: l1 :: rest) = true) : ∃ j, kpi n s (kgd l) s = j + 1 ∧ ∀ x, x < s → kgd l1 x = knq (kgd l) j x := by
  simp only [kch, Bool.and_eq_true] at h
  have h1 := Nat.blt_eq.mp h.1.2.1
  refine ⟨kpi n s (kgd l) s - 1, by omega, fun x hx => Nat.eq_of_beq_eq_true (kall_t h.1.2.2 x hx)⟩
theorem kch_m {n s : Nat} : ∀ {L : List (List Nat)}, kch n s L = true → ∀ l, l ∈ L → l.length = s ∧ ∀ i, i < s → kgd l i < n ∧ (1 ≤ i → kgd l (i - 1) < kgd l i)
  | [], _, l, hl => absurd hl (by simp)
  | l1 :: rest, h, l, hl => by
    obtain ⟨h1, h2, h3⟩ := kch_l h
    rcases List.mem_cons.mp hl with e | e
    · subst e; exact ⟨h1, h2⟩
    · exact kch_m h3 l e
/-- the parishes of a row, as a set -/
def kset (l : List Nat) (p : Nat) : Bool := kany (fun i => decide (kgd l i = p)) l.length
theorem r_picked (z : mv_Z) (l : List Nat) (s : Nat) (hl : l.length = s) (hs : s ≤ 3) (h24 : ∀ i, i < s → kgd l i < 24) (hp : ∀ i, i < s → z.1 19 i = nI (kgd l i)) : mv_Runs 2 62 [.ref 1, .int (nI s)] (mv_E z) (some (.int (kb (kset l)))) (mv_E z) := by
  refine mv_start pX7_picked (some .int) [some (.ref 1), some (.int (nI s)), none, none] rfl rfl rfl rfl (fun V C => ?_)
  have loop : ∀ (k i : Nat), i + k = s → V 4 [some (.ref 1), some (.int (nI s)), some (.int (kb (fun p => kany (fun i => decide (kgd l i = p)) i))), some (.int (nI i))] [] (mv_E z) := by
    intro k
    induction k with
    | zero =>
      intro i hi
      obtain rfl : i = s := by omega
      refine mv_iload_n C rfl rfl ?_
      refine mv_iload_n C rfl rfl ?_
      refine mv_icmp_ge C rfl (fun c6 => ?_) (fun c6 => ?_)
      · refine mv_iload_n C rfl rfl ?_
        refine mv_ireturn C rfl mv_okI ?_ ?_
        all_goals first | rfl | (rw [← hl]; rfl)
      · exact absurd (nI_le (by omega) (by omega)) c6
    | succ k ih =>
      intro i hi
      have e := ih (i + 1) (by omega)
      have R1 := r_bit z (nI (kgd l i))
      have := h24 i (by omega)
      rw [kb_bit (by omega)] at R1
      have ev : kb (fun p => kany (fun i => decide (kgd l i = p)) i) ||| kb (fun p => decide (p = kgd l i)) = kb (fun p => kany (fun i => decide (kgd l i = p)) (i + 1)) := by
        rw [kb_or]; apply kb_c; intro p _
        simp only [kany]
        congr 1
        rw [decide_eq_decide]; exact eq_comm
      refine mv_iload_n C rfl rfl ?_
      refine mv_iload_n C rfl rfl ?_
      refine mv_icmp_ge C rfl (fun c6 => ?_) (fun c6 => ?_)
      · exact absurd c6 (nI_ge (by omega) (by omega))
      · refine mv_iload_n C rfl rfl ?_
        refine mv_aload_n C rfl rfl ?_
        refine mv_getR C rfl rfl rfl ?_
        refine mv_iload_n C rfl rfl ?_
        refine mv_aldJ C rfl rfl rfl (by omega) (hp i (by omega)) ?_
        refine mv_cS C rfl (mv_up R1 rfl) (by decide) rfl (Nat.le_of_ble_eq_true rfl) (Nat.le_refl _) (Nat.le_refl _) rfl ?_
        refine mv_ior C rfl ?_
        refine mv_top ev ?_
        refine mv_is_n2 C rfl rfl ?_
        refine mv_inc3 C rfl rfl ?_
        refine mv_goto C rfl ?_
        simp only [nI_1]
        exact e
  have e := loop s 0 (by omega)
  rw [show kb (fun p => kany (fun i => decide (kgd l i = p)) 0) = 0 from by rw [kb_0]; rfl] at e
  refine mv_iconst C rfl ?_
  refine mv_is_n2 C rfl rfl ?_
  refine mv_iconst C rfl ?_
  refine mv_is_n3 C rfl rfl ?_
  exact e
def kid (F : Nat → Int32) (i x : Nat) : Int32 := if x < i then nI x else F x
theorem r_pickLowest (z : mv_Z) (s : Nat) (hs : s ≤ 3) : mv_Runs 1 60 [.ref 1, .int (nI s)] (mv_E z) none (mv_E (mv_w z 19 (kid (z.1 19) s))) := by
  refine mv_start pX7_pickLowest none [some (.ref 1), some (.int (nI s)), none] rfl rfl rfl rfl (fun V C => ?_)
  have loop : ∀ (k i : Nat), i + k = s → V 2 [some (.ref 1), some (.int (nI s)), some (.int (nI i))] [] (mv_E (mv_w z 19 (kid (z.1 19) i))) := by
    intro k
    induction k with
    | zero =>
      intro i hi
      obtain rfl : i = s := by omega
      refine mv_iload_n C rfl rfl ?_
      refine mv_iload_n C rfl rfl ?_
      refine mv_icmp_ge C rfl (fun c4 => ?_) (fun c4 => ?_)
      · refine mv_return_ C rfl rfl ?_ ?_
        all_goals rfl
      · exact absurd (nI_le (by omega) (by omega)) c4
    | succ k ih =>
      intro i hi
      have e := ih (i + 1) (by omega)
      rw [show kid (z.1 19) (i + 1) = upd (kid (z.1 19) i) i (nI i) from by
        funext x
        unfold upd kid
        by_cases h : x = i
        · rw [if_pos (by omega), if_pos h, h]
        · rw [if_neg h]
          by_cases h2 : x < i
          · rw [if_pos (by omega), if_pos h2]
          · rw [if_neg (by omega), if_neg h2]] at e
      refine mv_iload_n C rfl rfl ?_
      refine mv_iload_n C rfl rfl ?_
      refine mv_icmp_ge C rfl (fun c4 => ?_) (fun c4 => ?_)
      · exact absurd c4 (nI_ge (by omega) (by omega))
      · refine mv_aload_n C rfl rfl ?_
        refine mv_getR C rfl rfl rfl ?_
        refine mv_iload_n C rfl rfl ?_
        refine mv_iload_n C rfl rfl ?_
        refine mv_ast C rfl rfl rfl (by omega) ?_
        refine mv_sto mv_uw ?_
        refine mv_inc2 C rfl rfl ?_
        refine mv_goto C rfl ?_
        simp only [nI_1]
        exact e
  have e := loop s 0 (by omega)
  rw [show kid (z.1 19) 0 = z.1 19 from by funext x; unfold kid; rw [if_neg (by omega)], mv_w_self] at e
  refine mv_iconst C rfl ?_
  refine mv_is_n2 C rfl rfl ?_
  exact e
theorem nI_pre (s : Nat) : nI s - 1 = hst s := by
  cases s with
  | zero => decide
  | succ n => exact pk_sub (b := 1) (by omega)
def kfl3 (F : Nat → Int32) (j v x y : Nat) : Int32 := if j ≤ y ∧ y < x then nI (v + (y - j)) else F y
theorem kfl3_s {F : Nat → Int32} {j v x : Nat} (h : j ≤ x) : upd (kfl3 F j v x) x (nI (v + (x - j))) = kfl3 F j v (x + 1) := by
  funext y
  unfold upd kfl3
  by_cases e : y = x
  · rw [if_pos e, if_pos (by omega), e]
  · rw [if_neg e]
    by_cases q : j ≤ y ∧ y < x
    · rw [if_pos q, if_pos (by omega)]
    · rw [if_neg q, if_neg (by omega)]
theorem r_pickNext (z : mv_Z) (q : Nat → Nat) (n s : Nat) (hs : s ≤ 3) (hsn : s ≤ n) (hn : n ≤ 24) (hq : ∀ i, i < s → q i < 24) (h6 : z.1 3 6 = nI n) (hp : ∀ i, i < s → z.1 19 i = nI (q i)) (v : Nat) (hv : kpi n s q s = v) : mv_Runs 1 61 [.ref 1, .int (nI s)] (mv_E z) (some (.int (if v = 0 then 0 else 1))) (mv_E (mv_w z 19 (if v = 0 then z.1 19 else kfl3 (z.1 19) (v - 1) (q (v - 1) + 1) s))) := by
  refine mv_start pX7_pickNext (some .boolean) [some (.ref 1), some (.int (nI s)), none, none] rfl rfl rfl rfl (fun V C => ?_)
  have loop : ∀ (i : Nat), i ≤ s → kpi n s q i = v → V 4 [some (.ref 1), some (.int (nI s)), some (.int (hst i)), none] [] (mv_E z) := by
    intro i
    induction i with
    | zero =>
      intro hi h
      simp only [kpi] at h
      subst h
      simp only [if_true] at C
      rw [mv_w_self] at C
      refine mv_iload_n C rfl rfl ?_
      refine mv_if_lt C rfl (fun c5 => ?_) (fun c5 => ?_)
      · refine mv_iconst C rfl ?_
        refine mv_ireturn C rfl mv_okZ0 ?_ ?_
        all_goals rfl
      · exact absurd (by decide) c5
    | succ j ih =>
      intro hi h
      simp only [kpi] at h
      have hqj := hq j (by omega)
      have en : nI n - nI s + nI j = nI (n - s + j) := by rw [pk_sub hsn, nI_add]
      by_cases hlt : q j < n - s + j
      · rw [Nat.blt_eq.mpr hlt, cond_true] at h
        subst h
        simp only [show ¬ j + 1 = 0 by omega, if_false, Nat.add_sub_cancel] at C
        have fill : ∀ (k x : Nat), x + k = s → j < x → V 42 [some (.ref 1), some (.int (nI s)), some (.int (nI j)), some (.int (nI x))] [] (mv_E (mv_w z 19 (kfl3 (z.1 19) j (q j + 1) x))) := by
          intro k
          induction k with
          | zero =>
            intro x hx hjx
            obtain rfl : x = s := by omega
            refine mv_iload_n C rfl rfl ?_
            refine mv_iload_n C rfl rfl ?_
            refine mv_icmp_ge C rfl (fun c44 => ?_) (fun c44 => ?_)
            · refine mv_iconst C rfl ?_
              refine mv_ireturn C rfl mv_okZ1 ?_ ?_
              all_goals rfl
            · exact absurd (nI_le (by omega) (by omega)) c44
          | succ k ihk =>
            intro x hx hjx
            have e := ihk (x + 1) (by omega) (by omega)
            rw [← kfl3_s (by omega)] at e
            have y1 : (mv_w z 19 (kfl3 (z.1 19) j (q j + 1) x)).1 19 (x - 1) = nI (q j + 1 + (x - 1 - j)) := by
              rw [mv_w_get]; unfold kfl3; rw [if_pos (by omega)]
            have ex : q j + 1 + (x - 1 - j) + 1 = q j + 1 + (x - j) := by omega
            refine mv_iload_n C rfl rfl ?_
            refine mv_iload_n C rfl rfl ?_
            refine mv_icmp_ge C rfl (fun c44 => ?_) (fun c44 => ?_)
            · exact absurd c44 (nI_ge (by omega) (by omega))
            · refine mv_aload_n C rfl rfl ?_
              refine mv_getR C rfl rfl rfl ?_
              refine mv_iload_n C rfl rfl ?_
              refine mv_aload_n C rfl rfl ?_
              refine mv_getR C rfl rfl rfl ?_
              refine mv_iload_n C rfl rfl ?_
              refine mv_iconst C rfl ?_
              refine mv_isub C rfl ?_
              refine mv_top (pk_sub (b := 1) (by omega)) ?_
              refine mv_aldJ C rfl rfl rfl (by omega) y1 ?_
              refine mv_iconst C rfl ?_
              refine mv_iadd C rfl ?_
              refine mv_top ((nI_1 _).trans (congrArg nI ex)) ?_
              refine mv_ast C rfl rfl rfl (by omega) ?_
              refine mv_sto mv_uw ?_
              refine mv_inc3 C rfl rfl ?_
              refine mv_goto C rfl ?_
              simp only [nI_1]
              exact e
        have e := fill (s - (j + 1)) (j + 1) (by omega) (by omega)
        rw [← kfl3_s (Nat.le_refl j), show kfl3 (z.1 19) j (q j + 1) j = z.1 19 from by funext y; unfold kfl3; rw [if_neg (by omega)], Nat.sub_self, Nat.add_zero, ← mv_uw, mv_w_self] at e
        refine mv_iload_n C rfl rfl ?_
        refine mv_if_lt C rfl (fun c5 => ?_) (fun c5 => ?_)
        · exact absurd c5 (nI_pos (by omega))
        · refine mv_aload_n C rfl rfl ?_
          refine mv_getR C rfl rfl rfl ?_
          refine mv_iload_n C rfl rfl ?_
          refine mv_aldJ C rfl rfl (show hst (j + 1) = nI j from rfl) (by omega) (hp j (by omega)) ?_
          refine mv_aload_n C rfl rfl ?_
          refine mv_getR C rfl rfl rfl ?_
          refine mv_getJ C rfl rfl rfl h6 ?_
          refine mv_iload_n C rfl rfl ?_
          refine mv_isub C rfl ?_
          refine mv_iload_n C rfl rfl ?_
          refine mv_iadd C rfl ?_
          refine mv_top en ?_
          refine mv_icmp_ge C rfl (fun c25 => ?_) (fun c25 => ?_)
          · exact absurd c25 (nI_ge hlt (by omega))
          · refine mv_aload_n C rfl rfl ?_
            refine mv_getR C rfl rfl rfl ?_
            refine mv_iload_n C rfl rfl ?_
            refine mv_dup2 C rfl rfl rfl ?_
            refine mv_aldJ C rfl rfl (show hst (j + 1) = nI j from rfl) (by omega) (hp j (by omega)) ?_
            refine mv_iconst C rfl ?_
            refine mv_iadd C rfl ?_
            refine mv_top (nI_1 _) ?_
            refine mv_ast C rfl rfl (show hst (j + 1) = nI j from rfl) (by omega) ?_
            refine mv_iload_n C rfl rfl ?_
            refine mv_iconst C rfl ?_
            refine mv_iadd C rfl ?_
            refine mv_top (nI_1 _) ?_
            refine mv_is_n3 C rfl rfl ?_
            exact e
      · rw [show Nat.blt (q j) (n - s + j) = false from by
          cases hb : Nat.blt (q j) (n - s + j) with
          | false => rfl
          | true => exact absurd (Nat.blt_eq.mp hb) hlt, cond_false] at h
        have e := ih (by omega) h
        refine mv_iload_n C rfl rfl ?_
        refine mv_if_lt C rfl (fun c5 => ?_) (fun c5 => ?_)
        · exact absurd c5 (nI_pos (by omega))
        · refine mv_aload_n C rfl rfl ?_
          refine mv_getR C rfl rfl rfl ?_
          refine mv_iload_n C rfl rfl ?_
          refine mv_aldJ C rfl rfl (show hst (j + 1) = nI j from rfl) (by omega) (hp j (by omega)) ?_
          refine mv_aload_n C rfl rfl ?_
          refine mv_getR C rfl rfl rfl ?_
          refine mv_getJ C rfl rfl rfl h6 ?_
          refine mv_iload_n C rfl rfl ?_
          refine mv_isub C rfl ?_
          refine mv_iload_n C rfl rfl ?_
          refine mv_iadd C rfl ?_
          refine mv_top en ?_
          refine mv_icmp_ge C rfl (fun c25 => ?_) (fun c25 => ?_)
          · refine mv_inc2 C rfl rfl ?_
            refine mv_goto C rfl ?_
            rw [hst_dec]
            exact e
          · exact absurd (nI_le (by omega) (by omega)) c25
  refine mv_iload_n C rfl rfl ?_
  refine mv_iconst C rfl ?_
  refine mv_isub C rfl ?_
  refine mv_top (nI_pre s) ?_
  refine mv_is_n2 C rfl rfl ?_
  exact loop s (Nat.le_refl _) hv
theorem r_tellPicks (z : mv_Z) (l : List Nat) (s : Nat) (hs : s ≤ 3) (hp : ∀ i, i < s → z.1 19 i = nI (kgd l i)) : mv_Runs 2 59 [.ref 1, .int (nI s), .ref 66] (mv_E z) none (mv_E (kr z s (kF (z.1 67) (kgd l) s))) := by
  refine mv_start pX7_tellPicks none [some (.ref 1), some (.int (nI s)), some (.ref 66), none] rfl rfl rfl rfl (fun V C => ?_)
  have loop : ∀ (k i : Nat), i + k = s → V 7 [some (.ref 1), some (.int (nI s)), some (.ref 66), some (.int (nI i))] [] (mv_E (kr z i (kF (z.1 67) (kgd l) i))) := by
    intro k
    induction k with
    | zero =>
      intro i hi
      obtain rfl : i = s := by omega
      refine mv_iload_n C rfl rfl ?_
      refine mv_iload_n C rfl rfl ?_
      refine mv_icmp_ge C rfl (fun c9 => ?_) (fun c9 => ?_)
      · refine mv_return_ C rfl rfl ?_ ?_
        all_goals rfl
      · exact absurd (nI_le (by omega) (by omega)) c9
    | succ k ih =>
      intro i hi
      have e := ih (i + 1) (by omega)
      have y1 : (kr z i (kF (z.1 67) (kgd l) i)).1 19 i = nI (kgd l i) := hp i (by omega)
      have R1 := r_rowAdd (kr z i (kF (z.1 67) (kgd l) i)) (nI (kgd l i)) i (kr_66 (z := z) (F := kF (z.1 67) (kgd l) i)) (by omega)
      rw [kr_add, kF_s2] at R1
      refine mv_iload_n C rfl rfl ?_
      refine mv_iload_n C rfl rfl ?_
      refine mv_icmp_ge C rfl (fun c9 => ?_) (fun c9 => ?_)
      · exact absurd c9 (nI_ge (by omega) (by omega))
      · refine mv_iload_n C rfl rfl ?_
        refine mv_iconst C rfl ?_
        refine mv_icmp_ge C rfl (fun c14 => ?_) (fun c14 => ?_)
        · exact absurd c14 (nI_ge (b := 3) (by omega) (by decide))
        · refine mv_aload_n C rfl rfl ?_
          refine mv_aload_n C rfl rfl ?_
          refine mv_getR C rfl rfl rfl ?_
          refine mv_iload_n C rfl rfl ?_
          refine mv_aldJ C rfl rfl rfl (by omega) y1 ?_
          refine mv_cV C rfl R1 (by decide) rfl rfl rfl (Nat.le_of_ble_eq_true rfl) (Nat.le_refl _) (Nat.le_refl _) rfl ?_
          refine mv_inc3 C rfl rfl ?_
          refine mv_goto C rfl ?_
          simp only [nI_1]
          exact e
  have e := loop s 0 (by omega)
  rw [kF_0, ← kr_u0] at e
  refine mv_aload_n C rfl rfl ?_
  refine mv_iconst C rfl ?_
  refine mv_putI C rfl rfl rfl rfl ?_
  refine mv_iconst C rfl ?_
  refine mv_is_n3 C rfl rfl ?_
  exact e
end

