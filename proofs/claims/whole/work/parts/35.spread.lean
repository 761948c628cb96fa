section
theorem kx_sh {g : Nat → Bool} {x y : Nat} (hx : x < 32) (hy : y < 32) : ((kb g >>> (nI x &&& 31)) &&& 1) <<< (nI y &&& 31) = kb (fun p => decide (y = p) && g x) := by
  apply kb_eq
  intro i hi
  rw [hb_shl y hy _ hi, hb_and]
  by_cases e : y = i
  · subst e
    rw [hb_1 _ (by omega), hb_sshr x hx _ (by omega)]
    simp [hx, kb_b]
  · by_cases h : y ≤ i
    · have e2 : ¬ i - y = 0 := by omega
      rw [hb_1 _ (by omega)]
      simp [e, e2]
    · simp [h, e]
def kcr (u : hM) (g : Nat → Bool) (r p : Nat) : Bool := decide (u 6 r = 0) && (decide (u 4 r = p) && g (u 3 r) || decide (u 3 r = p) && g (u 4 r))
theorem r_across (z : mv_Z) (u : hM) (a : Nat → Int32) (b : Nat → Int64) (c d : Nat → Int32) (r : Nat) (g : Nat → Bool) (hi : hI u) (hz : rX u z) (hr : r < u 2 0) : mv_Runs 1 53 [.ref 3, .int (nI r), .int (kb g)] (mv_E (kz z a b c d)) (some (.int (kb (kcr u g r)))) (mv_E (kz z a b c d)) := by
  have hr40 := hi.2.2.1
  have h24 := hi.1
  obtain ⟨q1, q2, q3, q4, q5⟩ := hi.2.2.2.1 r hr
  have q6 := hi.2.2.2.2.1 r
  have y1 : (kz z a b c d).1 6 r = nI (u 3 r) := rX_a hz 6 3 (by decide) r
  have y2 : (kz z a b c d).1 7 r = nI (u 4 r) := rX_a hz 7 4 (by decide) r
  have y3 : (kz z a b c d).1 9 r = nI (u 6 r) := rX_a hz 9 6 (by decide) r
  by_cases h6 : u 6 r = 0
  · have ev : kb (fun p => decide (u 4 r = p) && g (u 3 r)) ||| kb (fun p => decide (u 3 r = p) && g (u 4 r)) = kb (kcr u g r) := by
      rw [kb_or]; apply kb_c; intro p _; simp [kcr, h6]
    refine mv_start pX6_across (some .int) [some (.ref 3), some (.int (nI r)), some (.int (kb g)), none, none] rfl rfl rfl rfl (fun V C => ?_)
    refine mv_aload_n C rfl rfl ?_
    refine mv_getR C rfl rfl rfl ?_
    refine mv_iload_n C rfl rfl ?_
    refine mv_zldJ C rfl rfl rfl (by omega) y3 ?_
    refine mv_if_eq C rfl (fun c6 => ?_) (fun c6 => ?_)
    · refine mv_iload_n C rfl rfl ?_
      refine mv_aload_n C rfl rfl ?_
      refine mv_getR C rfl rfl rfl ?_
      refine mv_iload_n C rfl rfl ?_
      refine mv_aldJ C rfl rfl rfl (by omega) y1 ?_
      refine mv_ishr C rfl ?_
      refine mv_iconst C rfl ?_
      refine mv_iand C rfl ?_
      refine mv_aload_n C rfl rfl ?_
      refine mv_getR C rfl rfl rfl ?_
      refine mv_iload_n C rfl rfl ?_
      refine mv_aldJ C rfl rfl rfl (by omega) y2 ?_
      refine mv_ishl C rfl ?_
      refine mv_top (kx_sh (by omega) (by omega)) ?_
      refine mv_is_n3 C rfl rfl ?_
      refine mv_iload_n C rfl rfl ?_
      refine mv_aload_n C rfl rfl ?_
      refine mv_getR C rfl rfl rfl ?_
      refine mv_iload_n C rfl rfl ?_
      refine mv_aldJ C rfl rfl rfl (by omega) y2 ?_
      refine mv_ishr C rfl ?_
      refine mv_iconst C rfl ?_
      refine mv_iand C rfl ?_
      refine mv_aload_n C rfl rfl ?_
      refine mv_getR C rfl rfl rfl ?_
      refine mv_iload_n C rfl rfl ?_
      refine mv_aldJ C rfl rfl rfl (by omega) y1 ?_
      refine mv_ishl C rfl ?_
      refine mv_top (kx_sh (by omega) (by omega)) ?_
      refine mv_is4 C rfl rfl ?_
      refine mv_iload_n C rfl rfl ?_
      refine mv_iload C rfl rfl ?_
      refine mv_ior C rfl ?_
      refine mv_top ev ?_
      refine mv_ireturn C rfl mv_okI ?_ ?_
      all_goals rfl
    · exact absurd (by rw [h6]; rfl) c6
  · have ev : kb (kcr u g r) = 0 := by rw [kb_0]; apply kb_c; intro p _; simp [kcr, h6]
    rw [ev]
    have h61 : u 6 r = 1 := by omega
    refine mv_start pX6_across (some .int) [some (.ref 3), some (.int (nI r)), some (.int (kb g)), none, none] rfl rfl rfl rfl (fun V C => ?_)
    refine mv_aload_n C rfl rfl ?_
    refine mv_getR C rfl rfl rfl ?_
    refine mv_iload_n C rfl rfl ?_
    refine mv_zldJ C rfl rfl rfl (by omega) y3 ?_
    refine mv_if_eq C rfl (fun c6 => ?_) (fun c6 => ?_)
    · (rw [h61] at c6; exact absurd c6 (by decide))
    · refine mv_iconst C rfl ?_
      refine mv_ireturn C rfl mv_okI ?_ ?_
      all_goals rfl
/-- what the facts let: as the cells have it -/
def kOK (A : Nat → Bool) (u : hM) (a : Nat → Int32) (b : Nat → Int64) : Prop := (∀ t, t < 48 → a t = kb (fun p => klet A u p t)) ∧ ∀ r, r < u 2 0 → b r = kL (fun t => kbar A u r t)
theorem kOK_of (A : Nat → Bool) (u : hM) (a : Nat → Int32) (b : Nat → Int64) : kOK A u (kaa A u a) (kbb A u b) := ⟨fun _ h => kaa_i h, fun _ h => kbb_i h⟩
theorem nI_neg : ∀ t, t < 48 → ∀ h, h < 13 → t < h → nI t - nI h < 0 := by decide +kernel
theorem r_arrivalsBy (z : mv_Z) (u : hM) (A : Nat → Bool) (R : Nat → Nat → Bool) (a : Nat → Int32) (b : Nat → Int64) (c d : Nat → Int32) (r t : Nat) (hi : hI u) (hz : rX u z) (hr : r < u 2 0) (ht : t < 48) (ok : kOK A u a b) (hc : ∀ t1, t1 < t → c t1 = kb (R t1)) : mv_Runs 2 22 [.ref 2, .int (nI r), .int (nI t)] (mv_E (kz z a b c d)) (some (.int (kb (fun p => kcm A u R r p t)))) (mv_E (kz z a b c d)) := by
  have hr40 := hi.2.2.1
  obtain ⟨q1, q2, q3, q4, q5⟩ := hi.2.2.2.1 r hr
  have y1 : (kz z a b c d).1 8 r = nI (u 5 r) := rX_a hz 8 5 (by decide) r
  by_cases h : u 5 r ≤ t
  · have y2 : (kz z a b c d).1 17 (t - u 5 r) = kb (R (t - u 5 r)) := hc _ (by omega)
    have R1 := r_isClear z u A a b c d r (t - u 5 r) t (by omega) (by omega) hr40 hr (ok.2 r hr)
    cases hk : kclr A u r (t - u 5 r + 1) t with
    | true =>
      rw [hk] at R1
      have R2 := r_across z u a b c d r (R (t - u 5 r)) hi hz hr
      have ev : kb (fun p => kcm A u R r p t) = kb (kcr u (R (t - u 5 r)) r) := by
        apply kb_c; intro p _; simp [kcm, kcr, hk, h, q4]
      rw [ev]
      refine mv_start pX1_arrivalsBy (some .int) [some (.ref 2), some (.int (nI r)), some (.int (nI t)), none] rfl rfl rfl rfl (fun V C => ?_)
      refine mv_iload_n C rfl rfl ?_
      refine mv_aload_n C rfl rfl ?_
      refine mv_getR C rfl rfl rfl ?_
      refine mv_getR C rfl rfl rfl ?_
      refine mv_iload_n C rfl rfl ?_
      refine mv_aldJ C rfl rfl rfl (by omega) y1 ?_
      refine mv_isub C rfl ?_
      refine mv_top (pk_sub (by omega)) ?_
      refine mv_is_n3 C rfl rfl ?_
      refine mv_iload_n C rfl rfl ?_
      refine mv_if_lt C rfl (fun c13 => ?_) (fun c13 => ?_)
      · exact absurd c13 (nI_pos (by omega))
      · refine mv_aload_n C rfl rfl ?_
        refine mv_iload_n C rfl rfl ?_
        refine mv_iload_n C rfl rfl ?_
        refine mv_iload_n C rfl rfl ?_
        refine mv_cV C rfl R1 (by decide) rfl rfl rfl (Nat.le_of_ble_eq_true rfl) (Nat.le_refl _) (Nat.le_refl _) rfl ?_
        refine mv_if_ne C rfl (fun c23 => ?_) (fun c23 => ?_)
        · refine mv_aload_n C rfl rfl ?_
          refine mv_getR C rfl rfl rfl ?_
          refine mv_iload_n C rfl rfl ?_
          refine mv_aload_n C rfl rfl ?_
          refine mv_getR C rfl rfl rfl ?_
          refine mv_iload_n C rfl rfl ?_
          refine mv_aldJ C rfl rfl rfl (by omega) y2 ?_
          refine mv_cV C rfl (mv_up R2 rfl) (by decide) rfl rfl rfl (Nat.le_of_ble_eq_true rfl) (Nat.le_refl _) (Nat.le_refl _) rfl ?_
          refine mv_ireturn C rfl mv_okI ?_ ?_
          all_goals rfl
        · exact absurd c23 (by decide)
    | false =>
      rw [hk] at R1
      have ev : kb (fun p => kcm A u R r p t) = 0 := by
        rw [kb_0]; apply kb_c; intro p _; simp [kcm, hk]
      rw [ev]
      refine mv_start pX1_arrivalsBy (some .int) [some (.ref 2), some (.int (nI r)), some (.int (nI t)), none] rfl rfl rfl rfl (fun V C => ?_)
      refine mv_iload_n C rfl rfl ?_
      refine mv_aload_n C rfl rfl ?_
      refine mv_getR C rfl rfl rfl ?_
      refine mv_getR C rfl rfl rfl ?_
      refine mv_iload_n C rfl rfl ?_
      refine mv_aldJ C rfl rfl rfl (by omega) y1 ?_
      refine mv_isub C rfl ?_
      refine mv_top (pk_sub (by omega)) ?_
      refine mv_is_n3 C rfl rfl ?_
      refine mv_iload_n C rfl rfl ?_
      refine mv_if_lt C rfl (fun c13 => ?_) (fun c13 => ?_)
      · exact absurd c13 (nI_pos (by omega))
      · refine mv_aload_n C rfl rfl ?_
        refine mv_iload_n C rfl rfl ?_
        refine mv_iload_n C rfl rfl ?_
        refine mv_iload_n C rfl rfl ?_
        refine mv_cV C rfl R1 (by decide) rfl rfl rfl (Nat.le_of_ble_eq_true rfl) (Nat.le_refl _) (Nat.le_refl _) rfl ?_
        refine mv_if_ne C rfl (fun c23 => ?_) (fun c23 => ?_)
        · exact absurd rfl c23
        · refine mv_iconst C rfl ?_
          refine mv_ireturn C rfl mv_okI ?_ ?_
          all_goals rfl
  · have ev : kb (fun p => kcm A u R r p t) = 0 := by
      rw [kb_0]; apply kb_c; intro p _; simp [kcm, h]
    rw [ev]
    refine mv_start pX1_arrivalsBy (some .int) [some (.ref 2), some (.int (nI r)), some (.int (nI t)), none] rfl rfl rfl rfl (fun V C => ?_)
    refine mv_iload_n C rfl rfl ?_
    refine mv_aload_n C rfl rfl ?_
    refine mv_getR C rfl rfl rfl ?_
    refine mv_getR C rfl rfl rfl ?_
    refine mv_iload_n C rfl rfl ?_
    refine mv_aldJ C rfl rfl rfl (by omega) y1 ?_
    refine mv_isub C rfl ?_
    refine mv_is_n3 C rfl rfl ?_
    refine mv_iload_n C rfl rfl ?_
    refine mv_if_lt C rfl (fun c13 => ?_) (fun c13 => ?_)
    · refine mv_iconst C rfl ?_
      refine mv_ireturn C rfl mv_okI ?_ ?_
      all_goals rfl
    · exact absurd (nI_neg t ht (u 5 r) (by omega) (by omega)) c13
theorem r_cameAt (z : mv_Z) (u : hM) (A : Nat → Bool) (R : Nat → Nat → Bool) (a : Nat → Int32) (b : Nat → Int64) (c d : Nat → Int32) (t : Nat) (hi : hI u) (hz : rX u z) (ht : t < 48) (ok : kOK A u a b) (hc : ∀ t1, t1 < t → c t1 = kb (R t1)) : mv_Runs 3 21 [.ref 2, .int (nI t)] (mv_E (kz z a b c d)) (some (.int (kb (fun p => kst A u R t p)))) (mv_E (kz z a b c d)) := by
  have hr40 := hi.2.2.1
  have h24 := hi.1
  have h8 : u 8 0 ≤ u 0 0 := hi.2.2.2.2.2.2.1
  have hr : (kz z a b c d).1 3 7 = nI (u 2 0) := rX_s hz 3 7 2 (by decide)
  have y1 : (kz z a b c d).1 15 t = kb (fun p => klet A u p t) := ok.1 t ht
  by_cases h0 : t = 0
  · subst h0
    have R1 := r_startBit (kz z a b c d)
    have ev : (if (kz z a b c d).1 3 9 = -1 then (0 : Int32) else 1 <<< ((kz z a b c d).1 3 9 &&& 31)) = kb (fun p => decide (u 8 0 = p + 1)) := by
      have e : (kz z a b c d).1 3 9 = hst (u 8 0) := hz.2.2.1
      rw [e]
      by_cases q : u 8 0 = 0
      · rw [q, if_pos (show hst 0 = -1 from rfl), kb_0]; apply kb_c; intro p _; simp
      · rw [if_neg (fun q2 => q ((hst_m1 (by omega)).mp q2)), hst_pos q, kb_bit (by omega)]
        apply kb_c; intro p _; rw [decide_eq_decide]; omega
    rw [ev] at R1
    have e2 : kb (fun p => decide (u 8 0 = p + 1)) &&& kb (fun p => klet A u p 0) = kb (fun p => kst A u R 0 p) := by rw [kb_and]; rfl
    refine mv_start pX1_cameAt (some .int) [some (.ref 2), some (.int (nI 0)), none, none] rfl rfl rfl rfl (fun V C => ?_)
    refine mv_iload_n C rfl rfl ?_
    refine mv_if_ne C rfl (fun c1 => ?_) (fun c1 => ?_)
    · exact absurd rfl c1
    · refine mv_aload_n C rfl rfl ?_
      refine mv_getR C rfl rfl rfl ?_
      refine mv_cV C rfl R1 (by decide) rfl rfl rfl (Nat.le_of_ble_eq_true rfl) (Nat.le_refl _) (Nat.le_refl _) rfl ?_
      refine mv_aload_n C rfl rfl ?_
      refine mv_getR C rfl rfl rfl ?_
      refine mv_iload_n C rfl rfl ?_
      refine mv_aldJ C rfl rfl rfl (by omega) y1 ?_
      refine mv_iand C rfl ?_
      refine mv_top e2 ?_
      refine mv_ireturn C rfl mv_okI ?_ ?_
      all_goals rfl
  · have y2 : (kz z a b c d).1 17 (t - 1) = kb (R (t - 1)) := hc _ (by omega)
    refine mv_start pX1_cameAt (some .int) [some (.ref 2), some (.int (nI t)), none, none] rfl rfl rfl rfl (fun V C => ?_)
    have loop : ∀ (k i : Nat), i + k = u 2 0 → V 30 [some (.ref 2), some (.int (nI t)), some (.int (kb (fun p => R (t - 1) p || kany (fun r => kcm A u R r p t) i))), some (.int (nI i))] [] (mv_E (kz z a b c d)) := by
      intro k
      induction k with
      | zero =>
        intro i hi2
        obtain rfl : i = u 2 0 := by omega
        have e2 : kb (fun p => R (t - 1) p || kany (fun r => kcm A u R r p t) (u 2 0)) &&& kb (fun p => klet A u p t) = kb (fun p => kst A u R t p) := by rw [kb_and]; apply kb_c; intro p _; simp [kst, h0]
        refine mv_iload_n C rfl rfl ?_
        refine mv_aload_n C rfl rfl ?_
        refine mv_getR C rfl rfl rfl ?_
        refine mv_getJ C rfl rfl rfl hr ?_
        refine mv_icmp_ge C rfl (fun c38 => ?_) (fun c38 => ?_)
        · refine mv_iload_n C rfl rfl ?_
          refine mv_aload_n C rfl rfl ?_
          refine mv_getR C rfl rfl rfl ?_
          refine mv_iload_n C rfl rfl ?_
          refine mv_aldJ C rfl rfl rfl (by omega) y1 ?_
          refine mv_iand C rfl ?_
          refine mv_top e2 ?_
          refine mv_ireturn C rfl mv_okI ?_ ?_
          all_goals rfl
        · exact absurd (nI_le (by omega) (by omega)) c38
      | succ k ih =>
        intro i hi2
        have e := ih (i + 1) (by omega)
        have R1 := r_arrivalsBy z u A R a b c d i t hi hz (by omega) ht ok hc
        have ev : kb (fun p => R (t - 1) p || kany (fun r => kcm A u R r p t) i) ||| kb (fun p => kcm A u R i p t) = kb (fun p => R (t - 1) p || kany (fun r => kcm A u R r p t) (i + 1)) := by
          rw [kb_or]; apply kb_c; intro p _; simp only [kany, Bool.or_assoc]
        refine mv_iload_n C rfl rfl ?_
        refine mv_aload_n C rfl rfl ?_
        refine mv_getR C rfl rfl rfl ?_
        refine mv_getJ C rfl rfl rfl hr ?_
        refine mv_icmp_ge C rfl (fun c38 => ?_) (fun c38 => ?_)
        · exact absurd c38 (nI_ge (by omega) (by omega))
        · refine mv_iload_n C rfl rfl ?_
          refine mv_aload_n C rfl rfl ?_
          refine mv_iload_n C rfl rfl ?_
          refine mv_iload_n C rfl rfl ?_
          refine mv_cV C rfl R1 (by decide) rfl rfl rfl (Nat.le_of_ble_eq_true rfl) (Nat.le_refl _) (Nat.le_refl _) rfl ?_
          refine mv_ior C rfl ?_
          refine mv_top ev ?_
          refine mv_is_n2 C rfl rfl ?_
          refine mv_inc3 C rfl rfl ?_
          refine mv_goto C rfl ?_
          simp only [nI_1]
          exact e
    have e := loop (u 2 0) 0 (by omega)
    rw [show kb (fun p => R (t - 1) p || kany (fun r => kcm A u R r p t) 0) = kb (R (t - 1)) by (apply kb_c; intro p _; simp [kany])] at e
    refine mv_iload_n C rfl rfl ?_
    refine mv_if_ne C rfl (fun c1 => ?_) (fun c1 => ?_)
    · refine mv_aload_n C rfl rfl ?_
      refine mv_getR C rfl rfl rfl ?_
      refine mv_iload_n C rfl rfl ?_
      refine mv_iconst C rfl ?_
      refine mv_isub C rfl ?_
      refine mv_top (pk_sub (b := 1) (by omega)) ?_
      refine mv_aldJ C rfl rfl rfl (by omega) y2 ?_
      refine mv_is_n2 C rfl rfl ?_
      refine mv_iconst C rfl ?_
      refine mv_is_n3 C rfl rfl ?_
      exact e
    · exact absurd ((nI_eq (b := 0) (by omega) (by decide)).mp c1) h0
def kfr (f g : Nat → Int32) (lo hi : Nat) : Nat → Int32 := fun i => if lo ≤ i ∧ i < hi then g i else f i
theorem kfr_s (f g : Nat → Int32) (lo n : Nat) (h : lo ≤ n) : upd (kfr f g lo n) n (g n) = kfr f g lo (n + 1) := by
  funext i
  unfold upd kfr
  by_cases e : i = n
  · subst e; simp [h]
  · have : i < n + 1 ↔ i < n := by omega
    simp [e, this]
theorem kfr_d (f g : Nat → Int32) (lo hi : Nat) (h : lo < hi) : upd (kfr f g (lo + 1) hi) lo (g lo) = kfr f g lo hi := by
  funext i
  unfold upd kfr
  by_cases e : i = lo
  · subst e; simp [h]
  · have : lo + 1 ≤ i ↔ lo ≤ i := by omega
    simp [e, this]
theorem kfr_0 (f g : Nat → Int32) (lo hi : Nat) (h : hi ≤ lo) : kfr f g lo hi = f := by
  funext i; unfold kfr; rw [if_neg (by omega)]
theorem kfr_i {f g : Nat → Int32} {lo hi i : Nat} (h : lo ≤ i ∧ i < hi) : kfr f g lo hi i = g i := by simp [kfr, h]
theorem r_spread (z : mv_Z) (u : hM) (A : Nat → Bool) (W : Nat → Nat → Bool) (w : Nat → Bool) (a : Nat → Int32) (b : Nat → Int64) (c d : Nat → Int32) (lo n : Nat) (lst : Int32) (hi : hI u) (hz : rX u z) (hn : n ≤ 48) (hlo : lo ≤ 48) (ok : kOK A u a b) (hl : ∀ i, i ≤ 48 → (lst < nI i ↔ n ≤ i)) (hw : ∀ t p, lo ≤ t → t < n → W t p = w p) (hc : ∀ t1, t1 < lo → c t1 = kb (kR A u W t1)) : mv_Runs 4 20 [.ref 2, .int (nI lo), .int lst, .int (kb w)] (mv_E (kz z a b c d)) none (mv_E (kz z a b (kfr c (fun t => kb (kR A u W t)) lo n) d)) := by
  refine mv_start pX1_spread none [some (.ref 2), some (.int (nI lo)), some (.int lst), some (.int (kb w)), none] rfl rfl rfl rfl (fun V C => ?_)
  have loop : ∀ (k i : Nat), i + k = max n lo → lo ≤ i → V 3 [some (.ref 2), some (.int (nI lo)), some (.int lst), some (.int (kb w)), some (.int (nI i))] [] (mv_E (kz z a b (kfr c (fun t => kb (kR A u W t)) lo i) d)) := by
    intro k
    induction k with
    | zero =>
      intro i hi2 h1
      have ee : kfr c (fun t => kb (kR A u W t)) lo i = kfr c (fun t => kb (kR A u W t)) lo n := by
        rcases Nat.lt_or_ge lo n with q | q
        · rw [show i = n by omega]
        · rw [kfr_0 _ _ _ _ q, kfr_0 _ _ _ _ (by omega)]
      rw [ee]
      refine mv_iload C rfl rfl ?_
      refine mv_iload_n C rfl rfl ?_
      refine mv_icmp_gt C rfl (fun c6 => ?_) (fun c6 => ?_)
      · refine mv_return_ C rfl rfl ?_ ?_
        all_goals rfl
      · exact absurd ((hl i (by omega)).mpr (by omega)) c6
    | succ k ih =>
      intro i hi2 h1
      have e := ih (i + 1) (by omega) (by omega)
      rw [← kfr_s _ _ _ _ h1] at e
      have R1 := r_cameAt z u A (kR A u W) a b (kfr c (fun t => kb (kR A u W t)) lo i) d i hi hz (by omega) ok (fun t1 h => by
        by_cases q : lo ≤ t1
        · rw [kfr_i ⟨q, h⟩]
        · unfold kfr; rw [if_neg (by omega)]; exact hc t1 (by omega))
      have ev : kb (fun p => kst A u (kR A u W) i p) &&& (kb w ^^^ (-1)) = kb (kR A u W i) := by
        rw [kb_not, kb_and]
        apply kb_c
        intro p _
        rw [kR_eq A u W i p, hw i p h1 (by omega)]
      refine mv_iload C rfl rfl ?_
      refine mv_iload_n C rfl rfl ?_
      refine mv_icmp_gt C rfl (fun c6 => ?_) (fun c6 => ?_)
      · exact absurd ((hl i (by omega)).mp c6) (by omega)
      · refine mv_aload_n C rfl rfl ?_
        refine mv_getR C rfl rfl rfl ?_
        refine mv_iload C rfl rfl ?_
        refine mv_aload_n C rfl rfl ?_
        refine mv_iload C rfl rfl ?_
        refine mv_cV C rfl R1 (by decide) rfl rfl rfl (Nat.le_of_ble_eq_true rfl) (Nat.le_refl _) (Nat.le_refl _) rfl ?_
        refine mv_iload_n C rfl rfl ?_
        refine mv_iconst C rfl ?_
        refine mv_ixor C rfl ?_
        refine mv_iand C rfl ?_
        refine mv_top ev ?_
        refine mv_ast C rfl rfl rfl (by omega) ?_
        refine mv_sto kz_u17 ?_
        refine mv_inc4 C rfl rfl ?_
        refine mv_goto C rfl ?_
        simp only [nI_1]
        exact e
  have e := loop (max n lo - lo) lo (by omega) (by omega)
  rw [kfr_0 _ _ _ _ (Nat.le_refl _)] at e
  refine mv_iload_n C rfl rfl ?_
  refine mv_is4 C rfl rfl ?_
  exact e
end

