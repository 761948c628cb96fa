section
/-- the first road that serves: 0 none, r + 1 -/
def kfd (g : Nat → Bool) : Nat → Nat → Nat
  | 0, _ => 0
  | k + 1, i => bif g i then i + 1 else kfd g k (i + 1)
theorem kfd_s {g : Nat → Bool} : ∀ {k i r : Nat}, kfd g k i = r + 1 → i ≤ r ∧ r < i + k ∧ g r = true ∧ ∀ j, i ≤ j → j < r → g j = false
  | 0, i, r, h => by simp [kfd] at h
  | k + 1, i, r, h => by
    simp only [kfd] at h
    cases hg : g i with
    | true =>
      rw [hg] at h
      have : i = r := by simpa using h
      subst this
      exact ⟨by omega, by omega, hg, fun j h1 h2 => absurd h1 (by omega)⟩
    | false =>
      rw [hg] at h
      obtain ⟨h1, h2, h3, h4⟩ := kfd_s (g := g) (k := k) (i := i + 1) (r := r) h
      refine ⟨by omega, by omega, h3, fun j q1 q2 => ?_⟩
      by_cases e : j = i
      · rw [e]; exact hg
      · exact h4 j (by omega) q2
theorem kfd_n {g : Nat → Bool} : ∀ {k i : Nat}, kfd g k i = 0 → ∀ j, i ≤ j → j < i + k → g j = false
  | 0, i, h, j, h1, h2 => absurd h1 (by omega)
  | k + 1, i, h, j, h1, h2 => by
    simp only [kfd] at h
    cases hg : g i with
    | true => rw [hg] at h; simp at h
    | false =>
      rw [hg] at h
      by_cases e : j = i
      · rw [e]; exact hg
      · exact kfd_n (g := g) (k := k) (i := i + 1) h j (by omega) (by omega)
theorem kfd_c {g h : Nat → Bool} : ∀ {k i : Nat}, (∀ j, i ≤ j → j < i + k → g j = h j) → kfd g k i = kfd h k i
  | 0, _, _ => rfl
  | k + 1, i, e => by simp only [kfd]; rw [e i (by omega) (by omega), kfd_c (k := k) (i := i + 1) (fun j h1 h2 => e j (by omega) (by omega))]
/-- the road by which he came: 0 he stayed -/
def kcb (A : Nat → Bool) (u : hM) (R : Nat → Nat → Bool) (t p : Nat) : Nat := bif R (t - 1) p then 0 else kfd (fun r => kcm A u R r p t) (u 2 0) 0
theorem kcb_s {A : Nat → Bool} {u : hM} {R : Nat → Nat → Bool} {t p r : Nat} (h : kcb A u R t p = r + 1) : R (t - 1) p = false ∧ r < u 2 0 ∧ kcm A u R r p t = true ∧ ∀ j, j < r → kcm A u R j p t = false := by
  unfold kcb at h
  cases hR : R (t - 1) p with
  | true => rw [hR] at h; simp at h
  | false =>
    rw [hR] at h
    obtain ⟨h1, h2, h3, h4⟩ := kfd_s h
    exact ⟨rfl, by omega, h3, fun j q => h4 j (by omega) q⟩
theorem kcb_A {A B : Nat → Bool} {u : hM} {R : Nat → Nat → Bool} {t p : Nat} (h : ∀ f, f < u 9 0 → u 12 f < t → A f = B f) : kcb A u R t p = kcb B u R t p := by
  unfold kcb
  rw [kfd_c (fun j _ _ => kcm_A h)]
theorem kcb_row (A : Nat → Bool) (u : hM) (R : Nat → Nat → Bool) (t p n : Nat) (g : Nat → Nat) : kcb A (hrw u n g) R t p = kcb A u R t p := rfl
theorem kOK_row {A : Nat → Bool} {u : hM} {a : Nat → Int32} {b : Nat → Int64} {n : Nat} {g : Nat → Nat} (h : kOK A u a b) : kOK A (hrw u n g) a b := h
theorem r_cameBy (z : mv_Z) (u : hM) (A : Nat → Bool) (R : Nat → Nat → Bool) (a : Nat → Int32) (b : Nat → Int64) (c d : Nat → Int32) (p t : Nat) (hi : hI u) (hz : rX u z) (hp : p < 32) (ht : t < 48) (ht1 : 1 ≤ t) (ok : kOK A u a b) (hc : ∀ t1, t1 < t → c t1 = kb (R t1)) : mv_Runs 3 27 [.ref 2, .int (nI p), .int (nI t)] (mv_E (kz z a b c d)) (some (.int (hst (kcb A u R t p)))) (mv_E (kz z a b c d)) := by
  have hr40 := hi.2.2.1
  have hr : (kz z a b c d).1 3 7 = nI (u 2 0) := rX_s hz 3 7 2 (by decide)
  have y1 : (kz z a b c d).1 17 (t - 1) = kb (R (t - 1)) := hc _ (by omega)
  have R1 := r_has (kz z a b c d) (kb (R (t - 1))) (nI p)
  rw [k_has01 hp] at R1
  unfold kcb
  cases hR : R (t - 1) p with
  | true =>
    rw [hR] at R1
    refine mv_start pX1_cameBy (some .int) [some (.ref 2), some (.int (nI p)), some (.int (nI t)), none] rfl rfl rfl rfl (fun V C => ?_)
    refine mv_aload_n C rfl rfl ?_
    refine mv_getR C rfl rfl rfl ?_
    refine mv_iload_n C rfl rfl ?_
    refine mv_iconst C rfl ?_
    refine mv_isub C rfl ?_
    refine mv_top (pk_sub (b := 1) (by omega)) ?_
    refine mv_aldJ C rfl rfl rfl (by omega) y1 ?_
    refine mv_iload_n C rfl rfl ?_
    refine mv_cS C rfl (mv_up R1 rfl) (by decide) rfl (Nat.le_of_ble_eq_true rfl) (Nat.le_refl _) (Nat.le_refl _) rfl ?_
    refine mv_if_eq C rfl (fun c12 => ?_) (fun c12 => ?_)
    · exact absurd c12 (by decide)
    · refine mv_iconst C rfl ?_
      refine mv_ireturn C rfl mv_okI ?_ ?_
      all_goals rfl
  | false =>
    rw [hR] at R1
    simp only [cond_false]
    generalize hv : kfd (fun r => kcm A u R r p t) (u 2 0) 0 = v
    refine mv_start pX1_cameBy (some .int) [some (.ref 2), some (.int (nI p)), some (.int (nI t)), none] rfl rfl rfl rfl (fun V C => ?_)
    have loop : ∀ (k i : Nat), i + k = u 2 0 → kfd (fun r => kcm A u R r p t) k i = v → V 19 [some (.ref 2), some (.int (nI p)), some (.int (nI t)), some (.int (nI i))] [] (mv_E (kz z a b c d)) := by
      intro k
      induction k with
      | zero =>
        intro i hi2 hv
        simp only [kfd] at hv
        refine mv_iload_n C rfl rfl ?_
        refine mv_aload_n C rfl rfl ?_
        refine mv_getR C rfl rfl rfl ?_
        refine mv_getJ C rfl rfl rfl hr ?_
        refine mv_icmp_ge C rfl (fun c27 => ?_) (fun c27 => ?_)
        · refine mv_iconst C rfl ?_
          refine mv_ireturn C rfl mv_okI ?_ ?_
          all_goals first | rfl | (rw [← hv]; rfl)
        · exact absurd (nI_le (by omega) (by omega)) c27
      | succ k ih =>
        intro i hi2 hv
        simp only [kfd] at hv
        have R2 := r_arrivalsBy z u A R a b c d i t hi hz (by omega) ht ok hc
        have R3 := r_has (kz z a b c d) (kb (fun p => kcm A u R i p t)) (nI p)
        rw [k_has01 hp] at R3
        cases hk : kcm A u R i p t with
        | true =>
          simp only [hk] at R3
          rw [hk] at hv
          simp only [cond_true] at hv
          refine mv_iload_n C rfl rfl ?_
          refine mv_aload_n C rfl rfl ?_
          refine mv_getR C rfl rfl rfl ?_
          refine mv_getJ C rfl rfl rfl hr ?_
          refine mv_icmp_ge C rfl (fun c27 => ?_) (fun c27 => ?_)
          · exact absurd c27 (nI_ge (by omega) (by omega))
          · refine mv_aload_n C rfl rfl ?_
            refine mv_iload_n C rfl rfl ?_
            refine mv_iload_n C rfl rfl ?_
            refine mv_cV C rfl R2 (by decide) rfl rfl rfl (Nat.le_of_ble_eq_true rfl) (Nat.le_refl _) (Nat.le_refl _) rfl ?_
            refine mv_iload_n C rfl rfl ?_
            refine mv_cS C rfl (mv_up R3 rfl) (by decide) rfl (Nat.le_of_ble_eq_true rfl) (Nat.le_refl _) (Nat.le_refl _) rfl ?_
            refine mv_if_eq C rfl (fun c40 => ?_) (fun c40 => ?_)
            · exact absurd c40 (by decide)
            · refine mv_iload_n C rfl rfl ?_
              refine mv_ireturn C rfl mv_okI ?_ ?_
              all_goals first | rfl | (rw [← hv]; rfl)
        | false =>
          simp only [hk] at R3
          rw [hk] at hv
          have e := ih (i + 1) (by omega) hv
          refine mv_iload_n C rfl rfl ?_
          refine mv_aload_n C rfl rfl ?_
          refine mv_getR C rfl rfl rfl ?_
          refine mv_getJ C rfl rfl rfl hr ?_
          refine mv_icmp_ge C rfl (fun c27 => ?_) (fun c27 => ?_)
          · exact absurd c27 (nI_ge (by omega) (by omega))
          · refine mv_aload_n C rfl rfl ?_
            refine mv_iload_n C rfl rfl ?_
            refine mv_iload_n C rfl rfl ?_
            refine mv_cV C rfl R2 (by decide) rfl rfl rfl (Nat.le_of_ble_eq_true rfl) (Nat.le_refl _) (Nat.le_refl _) rfl ?_
            refine mv_iload_n C rfl rfl ?_
            refine mv_cS C rfl (mv_up R3 rfl) (by decide) rfl (Nat.le_of_ble_eq_true rfl) (Nat.le_refl _) (Nat.le_refl _) rfl ?_
            refine mv_if_eq C rfl (fun c40 => ?_) (fun c40 => ?_)
            · refine mv_inc3 C rfl rfl ?_
              refine mv_goto C rfl ?_
              simp only [nI_1]
              exact e
            · exact absurd rfl c40
    refine mv_aload_n C rfl rfl ?_
    refine mv_getR C rfl rfl rfl ?_
    refine mv_iload_n C rfl rfl ?_
    refine mv_iconst C rfl ?_
    refine mv_isub C rfl ?_
    refine mv_top (pk_sub (b := 1) (by omega)) ?_
    refine mv_aldJ C rfl rfl rfl (by omega) y1 ?_
    refine mv_iload_n C rfl rfl ?_
    refine mv_cS C rfl (mv_up R1 rfl) (by decide) rfl (Nat.le_of_ble_eq_true rfl) (Nat.le_refl _) (Nat.le_refl _) rfl ?_
    refine mv_if_eq C rfl (fun c12 => ?_) (fun c12 => ?_)
    · refine mv_iconst C rfl ?_
      refine mv_is_n3 C rfl rfl ?_
      exact loop (u 2 0) 0 (by omega) hv
    · exact absurd rfl c12
theorem r_otherEndU (z : mv_Z) (u : hM) (r p : Nat) (hi : hI u) (hz : rX u z) (hr : r < u 2 0) (hp : u 3 r = p ∨ u 4 r = p) : mv_Runs 1 54 [.ref 3, .int (nI r), .int (nI p)] (mv_E z) (some (.int (nI (kot u r p - 1)))) (mv_E z) := by
  have h240 := hi.2.2.1
  have h24 := hi.1
  obtain ⟨q1, q2, q3, q4, q5⟩ := hi.2.2.2.1 r hr
  have y1 := rX_a hz 6 3 (by decide) r
  have y2 := rX_a hz 7 4 (by decide) r
  by_cases h : u 3 r = p
  · rw [show kot u r p - 1 = u 4 r from by unfold kot; rw [if_pos h]; rfl]
    refine mv_start pX6_otherEnd (some .int) [some (.ref 3), some (.int (nI r)), some (.int (nI p))] rfl rfl rfl rfl (fun V C => ?_)
    refine mv_aload_n C rfl rfl ?_
    refine mv_getR C rfl rfl rfl ?_
    refine mv_iload_n C rfl rfl ?_
    refine mv_aldJ C rfl rfl rfl (by omega) y1 ?_
    refine mv_iload_n C rfl rfl ?_
    refine mv_icmp_ne C rfl (fun c7 => ?_) (fun c7 => ?_)
    · exact absurd (by rw [h]) c7
    · refine mv_aload_n C rfl rfl ?_
      refine mv_getR C rfl rfl rfl ?_
      refine mv_iload_n C rfl rfl ?_
      refine mv_aldJ C rfl rfl rfl (by omega) y2 ?_
      refine mv_goto C rfl ?_
      refine mv_ireturn C rfl mv_okI ?_ ?_
      all_goals rfl
  · rw [show kot u r p - 1 = u 3 r from by unfold kot; rw [if_neg h, if_pos (hp.resolve_left h)]; rfl]
    refine mv_start pX6_otherEnd (some .int) [some (.ref 3), some (.int (nI r)), some (.int (nI p))] rfl rfl rfl rfl (fun V C => ?_)
    refine mv_aload_n C rfl rfl ?_
    refine mv_getR C rfl rfl rfl ?_
    refine mv_iload_n C rfl rfl ?_
    refine mv_aldJ C rfl rfl rfl (by omega) y1 ?_
    refine mv_iload_n C rfl rfl ?_
    refine mv_icmp_ne C rfl (fun c7 => ?_) (fun c7 => ?_)
    · refine mv_aload_n C rfl rfl ?_
      refine mv_getR C rfl rfl rfl ?_
      refine mv_iload_n C rfl rfl ?_
      refine mv_aldJ C rfl rfl rfl (by omega) y1 ?_
      refine mv_ireturn C rfl mv_okI ?_ ?_
      all_goals rfl
    · exact absurd ((nI_eq (by omega) (by omega)).mp c7) h
/-- the way back: how many parishes and which -/
def kbk (A : Nat → Bool) (u : hM) (R : Nat → Nat → Bool) : Nat → Nat → Nat → (Nat → Nat) → Nat → Nat × (Nat → Nat)
  | 0, _, _, f, n => (n, f)
  | k + 1, t, p, f, n => if t = 0 then (n, f) else match kcb A u R t p with
    | 0 => kbk A u R k (t - 1) p f n
    | r + 1 => kbk A u R k (t - u 5 r) (kot u r p - 1) (updN f n (kot u r p - 1)) (n + 1)
theorem kcm_ends {A : Nat → Bool} {u : hM} {R : Nat → Nat → Bool} {r p t : Nat} (h : kcm A u R r p t = true) (h34 : ¬ u 3 r = u 4 r) : (u 3 r = p ∨ u 4 r = p) ∧ u 6 r = 0 ∧ u 5 r ≤ t ∧ ¬ kot u r p = 0 ∧ R (t - u 5 r) (kot u r p - 1) = true := by
  have h2 := h
  rw [kcm_o h34] at h2
  simp only [kcm, Bool.and_eq_true, Bool.or_eq_true, decide_eq_true_eq] at h h2
  refine ⟨?_, h.1.1.1, h.1.1.2.2, h2.1.2.1, h2.1.2.2⟩
  rcases h.1.2 with q | q
  · exact Or.inr q.1
  · exact Or.inl q.1
theorem kbk_le {u : hM} {A : Nat → Bool} {R : Nat → Nat → Bool} (hi : hI u) : ∀ (k t p : Nat) (f : Nat → Nat) (n : Nat), (∀ i, f i ≤ 24) → n + t ≤ 48 → (kbk A u R k t p f n).1 ≤ 48 ∧ ∀ i, (kbk A u R k t p f n).2 i ≤ 24
  | 0, t, p, f, n, h1, h2 => ⟨by simp only [kbk]; omega, h1⟩
  | k + 1, t, p, f, n, h1, h2 => by
    simp only [kbk]
    by_cases h0 : t = 0
    · rw [if_pos h0]; exact ⟨by omega, h1⟩
    · rw [if_neg h0]
      cases hk : kcb A u R t p with
      | zero => exact kbk_le hi k (t - 1) p f n h1 (by omega)
      | succ r =>
        obtain ⟨g1, g2, g3, g4⟩ := kcb_s hk
        obtain ⟨q1, q2, q3, q4, q5⟩ := hi.2.2.2.1 r g2
        obtain ⟨e1, e2, e3, e4, e5⟩ := kcm_ends g3 q3
        have hl := kot_lt (p := p) hi g2
        have h24 := hi.1
        refine kbk_le hi k _ _ _ _ (fun i => ?_) (by omega)
        unfold updN
        split
        · omega
        · exact h1 i
def kr (z : mv_Z) (n : Nat) (F : Nat → Int32) : mv_Z := mv_u (mv_w z 67 F) 66 1 (nI n)
theorem kz_u {z : mv_Z} {a : Nat → Int32} {b : Nat → Int64} {c d : Nat → Int32} {q i : Nat} {x : Int32} (h : q ∉ [15, 17, 18]) : mv_u (kz z a b c d) q i x = kz (mv_u z q i x) a b c d := by
  simp only [List.mem_cons, List.not_mem_nil, or_false, not_or] at h
  unfold kz mv_u
  refine Prod.ext (funext fun q1 => ?_) rfl
  dsimp only [va_up]
  by_cases e : q1 = q
  · subst e; simp [h]
  · simp [e]
theorem kr_u0 {z : mv_Z} : mv_u z 66 1 0 = kr z 0 (z.1 67) := by unfold kr; rw [mv_w_self]; rfl
theorem kr_add {z : mv_Z} {n : Nat} {F : Nat → Int32} {x : Int32} : mv_u (mv_u (kr z n F) 67 n x) 66 1 (nI (n + 1)) = kr z (n + 1) (upd F n x) := by
  unfold kr mv_u mv_w
  refine Prod.ext (funext fun q => ?_) rfl
  dsimp only [va_up]
  by_cases e : q = 66
  · subst e; simp only [if_true]; funext j; simp [upd]; split <;> rfl
  · by_cases e2 : q = 67
    · subst e2; simp
    · simp [e, e2]
theorem kr_66 {z : mv_Z} {n : Nat} {F : Nat → Int32} : (kr z n F).1 66 1 = nI n := mv_u_eq
theorem kr_67 {z : mv_Z} {n : Nat} {F : Nat → Int32} : (kr z n F).1 67 = F := by unfold kr; rw [mv_u_ne (by decide), mv_w_get]
theorem kr_fX {z z1 : mv_Z} (h : fX z z1) {n : Nat} {F : Nat → Int32} : fX z (kr z1 n F) := by unfold kr; exact fX_u (fX_w h (by decide)) (by decide)
theorem kr_w {z : mv_Z} {n i : Nat} {F : Nat → Int32} {x : Int32} : mv_u (kr z n F) 67 i x = kr z n (upd F i x) := by
  unfold kr mv_u mv_w
  refine Prod.ext (funext fun q => ?_) rfl
  dsimp only [va_up]
  by_cases e : q = 66
  · subst e; simp
  · by_cases e2 : q = 67
    · subst e2; simp
    · simp [e, e2]
/-- turned round up to place i -/
def krv (F : Nat → Int32) (n i : Nat) : Nat → Int32 := fun j => if j < n ∧ (j < i ∨ n - i ≤ j) then F (n - 1 - j) else F j
theorem krv_0 {F : Nat → Int32} {n : Nat} : krv F n 0 = F := by funext j; unfold krv; rw [if_neg (by omega)]
theorem krv_s {F : Nat → Int32} {n i : Nat} (h : i < n / 2) : upd (upd (krv F n i) i (krv F n i (n - 1 - i))) (n - 1 - i) (krv F n i i) = krv F n (i + 1) := by
  have e1 : krv F n i (n - 1 - i) = F (n - 1 - i) := by unfold krv; rw [if_neg (by omega)]
  have e2 : krv F n i i = F i := by unfold krv; rw [if_neg (by omega)]
  rw [e1, e2]
  funext j
  unfold upd krv
  by_cases h1 : j = n - 1 - i
  · rw [if_pos h1, if_pos (by omega), show n - 1 - j = i by omega]
  · rw [if_neg h1]
    by_cases h2 : j = i
    · rw [if_pos h2, if_pos (by omega), h2]
    · rw [if_neg h2]
      by_cases h3 : j < n ∧ (j < i ∨ n - i ≤ j)
      · rw [if_pos h3, if_pos (by omega)]
      · rw [if_neg h3, if_neg (by omega)]
theorem krv_i {F : Nat → Int32} {n j : Nat} (h : j < n) : krv F n (n / 2) j = F (n - 1 - j) := by
  unfold krv
  by_cases e : j < n / 2 ∨ n - n / 2 ≤ j
  · rw [if_pos ⟨h, e⟩]
  · rw [if_neg (by omega), show n - 1 - j = j by omega]
theorem nI_half : ∀ n, n < 49 → nI n / 2 = nI (n / 2) := by decide +kernel
theorem r_turnRound (z : mv_Z) (n : Nat) (F : Nat → Int32) (hn : n ≤ 48) : mv_Runs 1 67 [.ref 66] (mv_E (kr z n F)) none (mv_E (kr z n (krv F n (n / 2)))) := by
  refine mv_start pX8_turnRound none [some (.ref 66), none, none, none] rfl rfl rfl rfl (fun V C => ?_)
  have loop : ∀ (k i : Nat), i + k = n / 2 → ∀ w2 w3 : Option Value, V 2 [some (.ref 66), some (.int (nI i)), w2, w3] [] (mv_E (kr z n (krv F n i))) := by
    intro k
    induction k with
    | zero =>
      intro i hi w2 w3
      obtain rfl : i = n / 2 := by omega
      refine mv_iload_n C rfl rfl ?_
      refine mv_aload_n C rfl rfl ?_
      refine mv_getJ C rfl rfl rfl kr_66 ?_
      refine mv_iconst C rfl ?_
      refine mv_idiv C rfl (by decide) ?_
      refine mv_top (nI_half _ (by omega)) ?_
      refine mv_icmp_ge C rfl (fun c9 => ?_) (fun c9 => ?_)
      · refine mv_return_ C rfl rfl ?_ ?_
        all_goals rfl
      · exact absurd (nI_le (by omega) (by omega)) c9
    | succ k ih =>
      intro i hi w2 w3
      have e := ih (i + 1) (by omega)
      have y1 : (kr z n (krv F n i)).1 67 i = krv F n i i := by rw [kr_67]
      have y2 : (kr z n (krv F n i)).1 67 (n - 1 - i) = krv F n i (n - 1 - i) := by rw [kr_67]
      rw [← krv_s (by omega)] at e
      refine mv_iload_n C rfl rfl ?_
      refine mv_aload_n C rfl rfl ?_
      refine mv_getJ C rfl rfl rfl kr_66 ?_
      refine mv_iconst C rfl ?_
      refine mv_idiv C rfl (by decide) ?_
      refine mv_top (nI_half _ (by omega)) ?_
      refine mv_icmp_ge C rfl (fun c9 => ?_) (fun c9 => ?_)
      · exact absurd c9 (nI_ge (by omega) (by omega))
      · refine mv_aload_n C rfl rfl ?_
        refine mv_getJ C rfl rfl rfl kr_66 ?_
        refine mv_iconst C rfl ?_
        refine mv_isub C rfl ?_
        refine mv_top (pk_sub (b := 1) (by omega)) ?_
        refine mv_iload_n C rfl rfl ?_
        refine mv_isub C rfl ?_
        refine mv_top (pk_sub (by omega)) ?_
        refine mv_is_n2 C rfl rfl ?_
        refine mv_aload_n C rfl rfl ?_
        refine mv_getR C rfl rfl rfl ?_
        refine mv_iload_n C rfl rfl ?_
        refine mv_aldJ C rfl rfl rfl (by omega) y1 ?_
        refine mv_is_n3 C rfl rfl ?_
        refine mv_aload_n C rfl rfl ?_
        refine mv_getR C rfl rfl rfl ?_
        refine mv_iload_n C rfl rfl ?_
        refine mv_aload_n C rfl rfl ?_
        refine mv_getR C rfl rfl rfl ?_
        refine mv_iload_n C rfl rfl ?_
        refine mv_aldJ C rfl rfl rfl (by omega) y2 ?_
        refine mv_ast C rfl rfl rfl (by omega) ?_
        refine mv_sto kr_w ?_
        refine mv_aload_n C rfl rfl ?_
        refine mv_getR C rfl rfl rfl ?_
        refine mv_iload_n C rfl rfl ?_
        refine mv_iload_n C rfl rfl ?_
        refine mv_ast C rfl rfl rfl (by omega) ?_
        refine mv_sto kr_w ?_
        refine mv_inc1 C rfl rfl ?_
        refine mv_goto C rfl ?_
        simp only [nI_1]
        exact e _ _
  have e := loop (n / 2) 0 (by omega) none none
  rw [krv_0] at e
  refine mv_iconst C rfl ?_
  refine mv_is_n1 C rfl rfl ?_
  exact e
end

