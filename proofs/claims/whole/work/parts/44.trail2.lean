section
def kF (F0 : Nat → Int32) (f : Nat → Nat) (n : Nat) : Nat → Int32 := fun i => if i < n then nI (f i) else F0 i
theorem kF_i {F0 : Nat → Int32} {f : Nat → Nat} {n i : Nat} (h : i < n) : kF F0 f n i = nI (f i) := by unfold kF; rw [if_pos h]
theorem kF_0 {F0 : Nat → Int32} {f : Nat → Nat} : kF F0 f 0 = F0 := by funext i; unfold kF; rw [if_neg (by omega)]
theorem kF_s {F0 : Nat → Int32} {f : Nat → Nat} {n x : Nat} : upd (kF F0 f n) n (nI x) = kF F0 (updN f n x) (n + 1) := by
  funext i
  unfold upd kF updN
  by_cases h : i = n
  · rw [if_pos h, if_pos (by omega), if_pos h]
  · rw [if_neg h]
    by_cases h2 : i < n
    · rw [if_pos h2, if_pos (by omega), if_neg h]
    · rw [if_neg h2, if_neg (by omega)]
theorem updN_le {f : Nat → Nat} {n x : Nat} (h : ∀ i, f i ≤ 24) (hx : x ≤ 24) : ∀ i, updN f n x i ≤ 24 := fun i => by
  unfold updN
  by_cases e : i = n
  · rw [if_pos e]; exact hx
  · rw [if_neg e]; exact h i
theorem nI_dec {t : Nat} (h : 1 ≤ t) : nI t + (-1) = nI (t - 1) := by
  obtain ⟨s, rfl⟩ : ∃ s, t = s + 1 := ⟨t - 1, by omega⟩
  exact hst_dec (s + 1)
theorem r_tellWay (z : mv_Z) (u : hM) (A : Nat → Bool) (R : Nat → Nat → Bool) (a : Nat → Int32) (b : Nat → Int64) (c d : Nat → Int32) (p0 t0 : Nat) (hi : hI u) (hz : rX u z) (hp : p0 < u 0 0) (ht : t0 < 48) (ok : kOK A u a b) (hc : ∀ t1, t1 ≤ t0 → c t1 = kb (R t1)) (n1 : Nat) (f1 : Nat → Nat) (hres : kbk A u R 48 t0 p0 (updN (fun _ => 0) 0 p0) 1 = (n1, f1)) : mv_Runs 4 28 [.ref 2, .int (nI p0), .int (nI t0), .ref 66] (mv_E (kz z a b c d)) none (mv_E (kz (kr z n1 (krv (kF (z.1 67) f1 n1) n1 (n1 / 2))) a b c d)) := by
  have h24 := hi.1
  have h8a : u 21 0 ≤ 8 := hi.2.2.2.2.2.2.2.2.2.2.2.2.2.2.2.2.1
  have hn48 : n1 ≤ 48 := by
    have := (kbk_le (A := A) (R := R) hi 48 t0 p0 (updN (fun _ => 0) 0 p0) 1 (updN_le (fun _ => Nat.zero_le _) (by omega)) (by omega)).1
    rw [hres] at this; exact this
  generalize hF0 : z.1 67 = F0
  refine mv_start pX1_tellWay none [some (.ref 2), some (.int (nI p0)), some (.int (nI t0)), some (.ref 66), none, none, none, none] rfl rfl rfl rfl (fun V C => ?_)
  have fin : ∀ (w4 w5 w6 w7 : Option Value), V 93 [some (.ref 2), some (.int (nI p0)), some (.int (nI t0)), some (.ref 66), w4, w5, w6, w7] [] (mv_E (kz (kr z n1 (kF F0 f1 n1)) a b c d)) := by
    intro w4 w5 w6 w7
    have R1 := r_turnRound (kz z a b c d) n1 (kF F0 f1 n1) hn48
    have ek : ∀ F, kr (kz z a b c d) n1 F = kz (kr z n1 F) a b c d := fun F => by
      unfold kr
      rw [← kz_u (by decide)]
      congr 1
      unfold mv_w kz
      refine Prod.ext (funext fun q => ?_) rfl
      dsimp only [va_up]
      by_cases e : q = 67
      · subst e; rfl
      · simp [e]
    rw [ek, ek] at R1
    refine mv_aload_n C rfl rfl ?_
    refine mv_cV C rfl (mv_up R1 rfl) (by decide) rfl rfl rfl (Nat.le_of_ble_eq_true rfl) (Nat.le_refl _) (Nat.le_refl _) rfl ?_
    refine mv_return_ C rfl rfl ?_ ?_
    all_goals rfl
  have loop : ∀ (k i t p : Nat) (f : Nat → Nat) (n : Nat) (w7 : Option Value), i + k = 48 → t ≤ k → t ≤ t0 → n + t ≤ 48 → p < u 0 0 → (∀ i, f i ≤ 24) → kbk A u R k t p f n = (n1, f1) → V 19 [some (.ref 2), some (.int (nI p0)), some (.int (nI t0)), some (.ref 66), some (.int (nI p)), some (.int (nI t)), some (.int (nI i)), w7] [] (mv_E (kz (kr z n (kF F0 f n)) a b c d)) := by
    intro k
    induction k with
    | zero =>
      intro i t p f n w7 h1 h2 h3 h4 h5 h6 h7
      simp only [kbk] at h7
      obtain ⟨rfl, rfl⟩ := Prod.mk.inj h7
      refine mv_iload C rfl rfl ?_
      refine mv_bipush C rfl ?_
      refine mv_icmp_ge C rfl (fun c23 => ?_) (fun c23 => ?_)
      · exact fin _ _ _ _
      · exact absurd (nI_le (a := 48) (by omega) (by omega)) c23
    | succ k ih =>
      intro i t p f n w7 h1 h2 h3 h4 h5 h6 h7
      simp only [kbk] at h7
      by_cases h0 : t = 0
      · rw [if_pos h0] at h7
        obtain ⟨rfl, rfl⟩ := Prod.mk.inj h7
        subst h0
        refine mv_iload C rfl rfl ?_
        refine mv_bipush C rfl ?_
        refine mv_icmp_ge C rfl (fun c23 => ?_) (fun c23 => ?_)
        · exact absurd c23 (nI_ge (b := 48) (by omega) (by decide))
        · refine mv_iload C rfl rfl ?_
          refine mv_if_le C rfl (fun c28 => ?_) (fun c28 => ?_)
          · exact fin _ _ _ _
          · exact absurd (by decide) c28
      · rw [if_neg h0] at h7
        have hz1 : rX (hrw u n f) (kr z n (kF F0 f n)) := rX_row hz n f _ (fun i h => kF_i h) h8a
        have hi1 : hI (hrw u n f) := hI_row u n f (by omega) (fun i => by have := h6 i; omega) hi
        have R1 := r_cameBy (kr z n (kF F0 f n)) (hrw u n f) A R a b c d p t hi1 hz1 (by omega) (by omega) (by omega) (kOK_row ok) (fun t1 q => hc t1 (by omega))
        rw [kcb_row] at R1
        have p28 : ¬ nI t ≤ 0 := fun q => by
          have := (nI_leI (b := 0) (by omega) (by decide)).mp q
          omega
        cases hk : kcb A u R t p with
        | zero =>
          rw [hk] at R1 h7
          have e := ih (i + 1) (t - 1) p f n (some (.int (-1))) (by omega) (by omega) (by omega) (by omega) h5 h6 h7
          refine mv_iload C rfl rfl ?_
          refine mv_bipush C rfl ?_
          refine mv_icmp_ge C rfl (fun c23 => ?_) (fun c23 => ?_)
          · exact absurd c23 (nI_ge (b := 48) (by omega) (by decide))
          · refine mv_iload C rfl rfl ?_
            refine mv_if_le C rfl (fun c28 => ?_) (fun c28 => ?_)
            · exact absurd c28 p28
            · refine mv_aload_n C rfl rfl ?_
              refine mv_iload C rfl rfl ?_
              refine mv_iload C rfl rfl ?_
              refine mv_cV C rfl R1 (by decide) rfl rfl rfl (Nat.le_of_ble_eq_true rfl) (Nat.le_refl _) (Nat.le_refl _) rfl ?_
              refine mv_is7 C rfl rfl ?_
              refine mv_iload C rfl rfl ?_
              refine mv_iconst C rfl ?_
              refine mv_icmp_ne C rfl (fun c44 => ?_) (fun c44 => ?_)
              · exact absurd rfl c44
              · refine mv_inc5 C rfl rfl ?_
                refine mv_goto C rfl ?_
                refine mv_inc6 C rfl rfl ?_
                refine mv_goto C rfl ?_
                simp only [nI_1]
                rw [nI_dec (by omega)]
                exact e
        | succ r =>
          rw [hk] at R1 h7
          obtain ⟨g1, g2, g3, g4⟩ := kcb_s hk
          obtain ⟨q1, q2, q3, q4, q5⟩ := hi.2.2.2.1 r g2
          obtain ⟨e1, e2, e3, e4, e5⟩ := kcm_ends g3 q3
          have hl := kot_lt (p := p) hi g2
          have hr40 := hi.2.2.1
          have e := ih (i + 1) (t - u 5 r) (kot u r p - 1) (updN f n (kot u r p - 1)) (n + 1) (some (.int (nI r))) (by omega) (by omega) (by omega) (by omega) (by omega) (updN_le h6 (by omega)) h7
          have y1 : (kz (kr z n (kF F0 f n)) a b c d).1 8 r = nI (u 5 r) := rX_a hz1 8 5 (by decide) r
          have R2 := r_otherEndU (kz (kr z n (kF F0 f n)) a b c d) (hrw u n f) r p hi1 (kz_rX hz1 _ _ _ _) g2 e1
          rw [show kot (hrw u n f) r p = kot u r p from rfl] at R2
          have R3 := r_rowAdd (kz (kr z n (kF F0 f n)) a b c d) (nI (kot u r p - 1)) n (kr_66 (z := z) (F := kF F0 f n)) (by omega)
          rw [kz_u (by decide), kz_u (by decide), kr_add, kF_s] at R3
          refine mv_iload C rfl rfl ?_
          refine mv_bipush C rfl ?_
          refine mv_icmp_ge C rfl (fun c23 => ?_) (fun c23 => ?_)
          · exact absurd c23 (nI_ge (b := 48) (by omega) (by decide))
          · refine mv_iload C rfl rfl ?_
            refine mv_if_le C rfl (fun c28 => ?_) (fun c28 => ?_)
            · exact absurd c28 p28
            · refine mv_aload_n C rfl rfl ?_
              refine mv_iload C rfl rfl ?_
              refine mv_iload C rfl rfl ?_
              refine mv_cV C rfl R1 (by decide) rfl rfl rfl (Nat.le_of_ble_eq_true rfl) (Nat.le_refl _) (Nat.le_refl _) rfl ?_
              refine mv_is7 C rfl rfl ?_
              refine mv_iload C rfl rfl ?_
              refine mv_iconst C rfl ?_
              refine mv_icmp_ne C rfl (fun c44 => ?_) (fun c44 => ?_)
              · refine mv_iload C rfl rfl ?_
                refine mv_aload_n C rfl rfl ?_
                refine mv_getR C rfl rfl rfl ?_
                refine mv_getR C rfl rfl rfl ?_
                refine mv_iload C rfl rfl ?_
                refine mv_aldJ C rfl rfl rfl (by omega) y1 ?_
                refine mv_isub C rfl ?_
                refine mv_top (pk_sub e3) ?_
                refine mv_is5 C rfl rfl ?_
                refine mv_aload_n C rfl rfl ?_
                refine mv_getR C rfl rfl rfl ?_
                refine mv_iload C rfl rfl ?_
                refine mv_iload C rfl rfl ?_
                refine mv_cV C rfl (mv_up R2 rfl) (by decide) rfl rfl rfl (Nat.le_of_ble_eq_true rfl) (Nat.le_refl _) (Nat.le_refl _) rfl ?_
                refine mv_is4 C rfl rfl ?_
                refine mv_aload_n C rfl rfl ?_
                refine mv_iload C rfl rfl ?_
                refine mv_cV C rfl (mv_up R3 rfl) (by decide) rfl rfl rfl (Nat.le_of_ble_eq_true rfl) (Nat.le_refl _) (Nat.le_refl _) rfl ?_
                refine mv_inc6 C rfl rfl ?_
                refine mv_goto C rfl ?_
                simp only [nI_1]
                exact e
              · exact absurd c44 (nI_nm1 (by omega))
  have e := loop 48 0 t0 p0 (updN (fun _ => 0) 0 p0) 1 none (by omega) (by omega) (by omega) (by omega) hp (updN_le (fun _ => Nat.zero_le _) (by omega)) hres
  have R0 := r_rowAdd (kz (kr z 0 (z.1 67)) a b c d) (nI p0) 0 (kr_66 (z := z) (F := z.1 67)) (by decide)
  rw [kz_u (by decide), kz_u (by decide), kr_add, hF0, ← kF_0 (F0 := F0) (f := fun _ => 0), kF_s, kF_0] at R0
  refine mv_aload_n C rfl rfl ?_
  refine mv_iconst C rfl ?_
  refine mv_putI C rfl rfl rfl rfl ?_
  refine mv_sto (z1 := kz (kr z 0 F0) a b c d) (by rw [kz_u (by decide), kr_u0, hF0]) ?_
  refine mv_aload_n C rfl rfl ?_
  refine mv_iload_n C rfl rfl ?_
  refine mv_cV C rfl (mv_up R0 rfl) (by decide) rfl rfl rfl (Nat.le_of_ble_eq_true rfl) (Nat.le_refl _) (Nat.le_refl _) rfl ?_
  refine mv_iload_n C rfl rfl ?_
  refine mv_is4 C rfl rfl ?_
  refine mv_iload_n C rfl rfl ?_
  refine mv_is5 C rfl rfl ?_
  refine mv_iconst C rfl ?_
  refine mv_is6 C rfl rfl ?_
  exact e
def ktr (u : hM) (p t : Nat) : Nat × (Nat → Nat) := kbk (kAll u) u (kMay u) 48 t p (updN (fun _ => 0) 0 p) 1
def a_trail (u : hM) (p t : Int32) : Int32 := if kask u p t then (bif kMay u t.toNatClampNeg p.toNatClampNeg then nI (ktr u p.toNatClampNeg t.toNatClampNeg).1 else 0) else -1
def o_trail (u : hM) (p t : Int32) : hM := if kask u p t then (bif kMay u t.toNatClampNeg p.toNatClampNeg then hrw u (ktr u p.toNatClampNeg t.toNatClampNeg).1 (fun i => (ktr u p.toNatClampNeg t.toNatClampNeg).2 ((ktr u p.toNatClampNeg t.toNatClampNeg).1 - 1 - i)) else u) else u
theorem ktr_le {u : hM} {p t : Nat} (hi : hI u) (hp : p < u 0 0) (ht : t < 48) : (ktr u p t).1 ≤ 48 ∧ ∀ i, (ktr u p t).2 i ≤ 24 := kbk_le hi 48 t p _ 1 (updN_le (fun _ => Nat.zero_le _) (by have := hi.1; omega)) (by omega)
theorem i_trail (u : hM) (p t : Int32) (hi : hI u) : hI (o_trail u p t) := by
  unfold o_trail
  by_cases hc : kask u p t
  · rw [if_pos hc]
    obtain ⟨ep, et⟩ := kask_n hi hc
    have h := ktr_le hi ep.1 et.1
    cases kMay u t.toNatClampNeg p.toNatClampNeg with
    | false => exact hi
    | true => exact hI_row u _ _ h.1 (fun i => by have := h.2 ((ktr u p.toNatClampNeg t.toNatClampNeg).1 - 1 - i); omega) hi
  · rw [if_neg hc]; exact hi
theorem kbk_A {u : hM} {A B : Nat → Bool} {R : Nat → Nat → Bool} {L : Nat} (h : ∀ f, f < u 9 0 → u 12 f < L → A f = B f) : ∀ (k t p : Nat) (f : Nat → Nat) (n : Nat), t ≤ L → kbk A u R k t p f n = kbk B u R k t p f n
  | 0, _, _, _, _, _ => rfl
  | k + 1, t, p, f, n, ht => by
    simp only [kbk]
    rw [kcb_A (A := A) (B := B) (fun f hf q => h f hf (by omega))]
    by_cases h0 : t = 0
    · rw [if_pos h0, if_pos h0]
    · rw [if_neg h0, if_neg h0]
      cases kcb B u R t p with
      | zero => exact kbk_A h k _ _ _ _ (by omega)
      | succ r => exact kbk_A h k _ _ _ _ (by omega)
theorem kA_all {u : hM} (hi : hI u) {L : Nat} : ∀ f, f < u 9 0 → u 12 f ≤ L → kA u L (-1) f = kAll u f := by
  intro f hf hh
  have h40 : u 9 0 ≤ 40 := hi.2.2.2.2.2.2.2.1
  unfold kA kAll
  rw [decide_eq_decide]
  exact ⟨fun q => q.1, fun q => ⟨q, nI_nm1 (by omega), by omega⟩⟩
theorem x_trail (u : hM) (z : mv_Z) (p t : Int32) (hi : hI u) (hz : rX u z) : xR 87 [.int p, .int t] u z (.int (a_trail u p t)) (o_trail u p t) := by
  have h24 := hi.1
  have h8a : u 21 0 ≤ 8 := hi.2.2.2.2.2.2.2.2.2.2.2.2.2.2.2.2.1
  have R0 := r_canAskU z u p t hi hz
  unfold a_trail o_trail
  by_cases hc : kask u p t
  · rw [if_pos hc] at R0 ⊢
    rw [if_pos hc]
    obtain ⟨ep, et⟩ := kask_n hi hc
    generalize p.toNatClampNeg = kp at *
    generalize t.toNatClampNeg = kt at *
    obtain ⟨lp, rfl⟩ := ep
    obtain ⟨lt, rfl⟩ := et
    obtain ⟨a, b, c, R, ok, hcc⟩ := r_mayBe z u kt hi hz lt
    have R2 := r_has (kz z a b c (z.1 18)) (kb (kMay u kt)) (nI kp)
    rw [k_has01 (by omega)] at R2
    cases hm : kMay u kt kp with
    | true =>
      rw [hm] at R2
      simp only [cond_true]
      generalize hr : ktr u kp kt = res at *
      obtain ⟨n1, f1⟩ := res
      have hr2 : kbk (kA u kt (-1)) u (kMay u) 48 kt kp (updN (fun _ => 0) 0 kp) 1 = (n1, f1) := by
        rw [kbk_A (B := kAll u) (L := kt) (fun f hf q => kA_all hi f hf (by omega)) _ _ _ _ _ (Nat.le_refl _)]; exact hr
      have R3 := r_tellWay z u (kA u kt (-1)) (kMay u) a b c (z.1 18) kp kt hi hz lp lt ok hcc n1 f1 hr2
      generalize hF : krv (kF (z.1 67) f1 n1) n1 (n1 / 2) = F at *
      have hrx : rX (hrw u n1 (fun i => f1 (n1 - 1 - i))) (kr z n1 F) := rX_row hz n1 _ F (fun i h => by rw [← hF, krv_i h, kF_i (by omega)]) h8a
      refine ⟨_, mv_up (d := 6) (S1 := mv_E (kz (kr z n1 F) a b c (z.1 18))) ?_ rfl, kz_rX hrx _ _ _ _, kz_fX (kr_fX fX_rf) _ _ _ _⟩
      have y1 : (kz (kr z n1 F) a b c (z.1 18)).1 66 1 = nI n1 := kr_66 (z := z) (F := F)
      refine mv_start pX10_trail (some .int) [some (.ref 0), some (.int (nI kp)), some (.int (nI kt))] rfl rfl rfl rfl (fun V C => ?_)
      refine mv_aload_n C rfl rfl ?_
      refine mv_iload_n C rfl rfl ?_
      refine mv_iload_n C rfl rfl ?_
      refine mv_cV C rfl (mv_up R0 rfl) (by decide) rfl rfl rfl (Nat.le_of_ble_eq_true rfl) (Nat.le_refl _) (Nat.le_refl _) rfl ?_
      refine mv_if_ne C rfl (fun c6 => ?_) (fun c6 => ?_)
      · refine mv_aload_n C rfl rfl ?_
        refine mv_getR C rfl rfl rfl ?_
        refine mv_iload_n C rfl rfl ?_
        refine mv_cV C rfl R (by decide) rfl rfl rfl (Nat.le_of_ble_eq_true rfl) (Nat.le_refl _) (Nat.le_refl _) rfl ?_
        refine mv_iload_n C rfl rfl ?_
        refine mv_cS C rfl (mv_up R2 rfl) (by decide) rfl (Nat.le_of_ble_eq_true rfl) (Nat.le_refl _) (Nat.le_refl _) rfl ?_
        refine mv_if_ne C rfl (fun c23 => ?_) (fun c23 => ?_)
        · refine mv_aload_n C rfl rfl ?_
          refine mv_getR C rfl rfl rfl ?_
          refine mv_iload_n C rfl rfl ?_
          refine mv_iload_n C rfl rfl ?_
          refine mv_aload_n C rfl rfl ?_
          refine mv_getR C rfl rfl rfl ?_
          refine mv_cV C rfl (mv_up R3 rfl) (by decide) rfl rfl rfl (Nat.le_of_ble_eq_true rfl) (Nat.le_refl _) (Nat.le_refl _) rfl ?_
          refine mv_aload_n C rfl rfl ?_
          refine mv_getR C rfl rfl rfl ?_
          refine mv_getJ C rfl rfl rfl y1 ?_
          refine mv_ireturn C rfl mv_okI ?_ ?_
          all_goals rfl
        · exact absurd c23 (by decide)
      · exact absurd c6 (by decide)
    | false =>
      rw [hm] at R2
      refine ⟨_, mv_up (d := 6) (S1 := mv_E (kz z a b c (z.1 18))) ?_ rfl, kz_rX hz _ _ _ _, kz_fX fX_rf _ _ _ _⟩
      refine mv_start pX10_trail (some .int) [some (.ref 0), some (.int (nI kp)), some (.int (nI kt))] rfl rfl rfl rfl (fun V C => ?_)
      refine mv_aload_n C rfl rfl ?_
      refine mv_iload_n C rfl rfl ?_
      refine mv_iload_n C rfl rfl ?_
      refine mv_cV C rfl (mv_up R0 rfl) (by decide) rfl rfl rfl (Nat.le_of_ble_eq_true rfl) (Nat.le_refl _) (Nat.le_refl _) rfl ?_
      refine mv_if_ne C rfl (fun c6 => ?_) (fun c6 => ?_)
      · refine mv_aload_n C rfl rfl ?_
        refine mv_getR C rfl rfl rfl ?_
        refine mv_iload_n C rfl rfl ?_
        refine mv_cV C rfl R (by decide) rfl rfl rfl (Nat.le_of_ble_eq_true rfl) (Nat.le_refl _) (Nat.le_refl _) rfl ?_
        refine mv_iload_n C rfl rfl ?_
        refine mv_cS C rfl (mv_up R2 rfl) (by decide) rfl (Nat.le_of_ble_eq_true rfl) (Nat.le_refl _) (Nat.le_refl _) rfl ?_
        refine mv_if_ne C rfl (fun c23 => ?_) (fun c23 => ?_)
        · exact absurd rfl c23
        · refine mv_iconst C rfl ?_
          refine mv_ireturn C rfl mv_okI ?_ ?_
          all_goals rfl
      · exact absurd c6 (by decide)
  · rw [if_neg hc] at R0 ⊢
    rw [if_neg hc]
    refine ⟨_, mv_up (d := 3) (S1 := mv_E z) ?_ rfl, hz, fX_rf⟩
    refine mv_start pX10_trail (some .int) [some (.ref 0), some (.int p), some (.int t)] rfl rfl rfl rfl (fun V C => ?_)
    refine mv_aload_n C rfl rfl ?_
    refine mv_iload_n C rfl rfl ?_
    refine mv_iload_n C rfl rfl ?_
    refine mv_cV C rfl R0 (by decide) rfl rfl rfl (Nat.le_of_ble_eq_true rfl) (Nat.le_refl _) (Nat.le_refl _) rfl ?_
    refine mv_if_ne C rfl (fun c6 => ?_) (fun c6 => ?_)
    · exact absurd rfl c6
    · refine mv_iconst C rfl ?_
      refine mv_ireturn C rfl mv_okI ?_ ?_
      all_goals rfl
end

