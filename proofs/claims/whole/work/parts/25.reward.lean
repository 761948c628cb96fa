section
theorem rX_freew {u : hM} {z : mv_Z} (h : rX u z) (cell : Nat) (f : Nat → Int32) (hc : cell ∈ [5, 15, 17, 18, 19, 20, 33]) : rX u (mv_w z cell f) := by
  obtain ⟨⟨h1a, h1b⟩, h2, h3, h4, h5, h6, h7, h8⟩ := h
  have e : ∀ c ∈ [5, 15, 17, 18, 19, 20, 33], c < 34 ∧ c ≠ 3 ∧ c ≠ 23 ∧ c ≠ 26 ∧ c ≠ 31 ∧ (∀ q ∈ tX, q.1 ≠ c) ∧ ∀ q ∈ sX, q.1 ≠ c := by decide
  obtain ⟨c1, c2, c3, c4, c5, c6, c7⟩ := e _ hc
  unfold rX
  rw [mv_w_ne (q := 3) c2.symm, mv_w_ne (q := 23) c3.symm, mv_w_ne (q := 26) c4.symm, mv_w_ne (q := 31) c5.symm, mv_w_ne (q := 67) (by omega)]
  refine ⟨⟨fun q hq => by rw [mv_w_ne (c6 q hq)]; exact h1a q hq, fun q hq => by rw [mv_w_ne (c7 q hq)]; exact h1b q hq⟩, h2, h3, h4, h5, fun a ha => ?_, h7, h8⟩
  rw [mv_w_ne (q := 34 + 4 * a) (by omega), mv_w_ne (q := 35 + 4 * a) (by omega), mv_w_ne (q := 36 + 4 * a) (by omega), mv_w_ne (q := 37 + 4 * a) (by omega)]
  exact h6 a ha
/-- a new row -/
def hrw (u : hM) (n : Nat) (g : Nat → Nat) : hM := fun k i => if k = 30 then n else if k = 31 then g i else u k i
theorem hrw_key {u : hM} {n : Nat} {g : Nat → Nat} {k : Nat} (h : k ≠ 30) (h2 : k ≠ 31) : hrw u n g k = u k := by funext i; simp [hrw, h, h2]
theorem rX_row {u : hM} {z : mv_Z} (h : rX u z) (n : Nat) (g : Nat → Nat) (f : Nat → Int32) (hf : ∀ i, i < n → f i = nI (g i)) (h8a : u 21 0 ≤ 8) : rX (hrw u n g) (mv_u (mv_w z 67 f) 66 1 (nI n)) := by
  obtain ⟨⟨h1a, h1b⟩, h2, h3, h4, h5, h6, h7, h8⟩ := h
  unfold rX
  rw [hrw_key (k := 7) (by decide) (by decide), hrw_key (k := 8) (by decide) (by decide), hrw_key (k := 14) (by decide) (by decide), hrw_key (k := 18) (by decide) (by decide), hrw_key (k := 21) (by decide) (by decide), hrw_key (k := 22) (by decide) (by decide), hrw_key (k := 23) (by decide) (by decide), hrw_key (k := 24) (by decide) (by decide), hrw_key (k := 25) (by decide) (by decide), hrw_key (k := 26) (by decide) (by decide), hrw_key (k := 27) (by decide) (by decide), hrw_key (k := 28) (by decide) (by decide), hrw_key (k := 1) (by decide) (by decide)]
  rw [mv_u_ne (q := 3) (by decide), mv_u_ne (q := 23) (by decide), mv_u_ne (q := 26) (by decide), mv_u_ne (q := 31) (by decide), mv_u_ne (q := 67) (by decide), mv_w_ne (q := 3) (by decide), mv_w_ne (q := 23) (by decide), mv_w_ne (q := 26) (by decide), mv_w_ne (q := 31) (by decide), mv_w_get]
  refine ⟨⟨fun q hq => ?_, fun q hq => ?_⟩, h2, h3, h4, h5, fun a ha => ?_, h7, fun i hi => hf i hi⟩
  · have c := tX_cells q hq
    have k := tX_keys q hq
    rw [mv_u_ne (by omega), mv_w_ne (by omega), hrw_key k.2.2.2.2.2.2.2.2.2.2.2.2.1 k.2.2.2.2.2.2.2.2.2.2.2.2.2]
    exact h1a q hq
  · have hs : ∀ q ∈ sX, (q = (66, 1, 30)) ∨ (q.1 ≠ 66 ∧ q.1 ≠ 67 ∧ q.2.2 ≠ 30 ∧ q.2.2 ≠ 31) := by decide
    rcases hs q hq with rfl | ⟨s1, s2, s3, s4⟩
    · rw [mv_u_eq]; rfl
    · rw [mv_u_ne s1, mv_w_ne s2, hrw_key s3 s4]; exact h1b q hq
  · rw [mv_u_ne (q := 34 + 4 * a) (by omega), mv_u_ne (q := 35 + 4 * a) (by omega), mv_u_ne (q := 36 + 4 * a) (by omega), mv_u_ne (q := 37 + 4 * a) (by omega), mv_w_ne (q := 34 + 4 * a) (by omega), mv_w_ne (q := 35 + 4 * a) (by omega), mv_w_ne (q := 36 + 4 * a) (by omega), mv_w_ne (q := 37 + 4 * a) (by omega)]
    exact h6 a ha
theorem rM_row {u : hM} {z : mv_Z} (h : rM u z) (n : Nat) (g : Nat → Nat) (f : Nat → Int32) (hf : ∀ i, i < n → f i = nI (g i)) : rM (hrw u n g) (mv_u (mv_w z 82 f) 68 18 (nI n)) := by
  obtain ⟨⟨h1a, h1b⟩, h3, h4, h6, h8⟩ := h
  unfold rM
  rw [hrw_key (k := 8) (by decide) (by decide), hrw_key (k := 14) (by decide) (by decide), hrw_key (k := 21) (by decide) (by decide), hrw_key (k := 22) (by decide) (by decide), hrw_key (k := 23) (by decide) (by decide), hrw_key (k := 24) (by decide) (by decide), hrw_key (k := 25) (by decide) (by decide), hrw_key (k := 26) (by decide) (by decide)]
  rw [mv_u_sl (q := 68) (j := 9) (by decide), mv_u_ne (q := 84) (by decide), mv_u_ne (q := 89) (by decide), mv_u_ne (q := 90) (by decide), mv_u_ne (q := 91) (by decide), mv_u_ne (q := 92) (by decide), mv_u_ne (q := 93) (by decide), mv_u_ne (q := 82) (by decide), mv_w_ne (q := 68) (by decide), mv_w_ne (q := 84) (by decide), mv_w_ne (q := 89) (by decide), mv_w_ne (q := 90) (by decide), mv_w_ne (q := 91) (by decide), mv_w_ne (q := 92) (by decide), mv_w_ne (q := 93) (by decide), mv_w_get]
  refine ⟨⟨fun q hq => ?_, fun q hq => ?_⟩, h3, h4, h6, fun i hi => hf i hi⟩
  · have c := tM_cells q hq
    have k := tM_keys q hq
    rw [mv_u_ne (by omega), mv_w_ne c.2.2.2.2.2.2.2, hrw_key k.2.2.2.2.2.2.2.2.1 k.2.2.2.2.2.2.2.2.2]
    exact h1a q hq
  · have hs : ∀ q ∈ sM, (q = (68, 18, 30)) ∨ (q.1 = 68 ∧ q.2.1 ≠ 18 ∧ q.2.2 ≠ 30 ∧ q.2.2 ≠ 31) := by decide
    rcases hs q hq with rfl | ⟨s1, s2, s3, s4⟩
    · rw [mv_u_eq]; rfl
    · rw [mv_u_sl (fun e => s2 e.2.symm), mv_w_ne (by omega), hrw_key s3 s4]; exact h1b q hq
theorem r_rowAdd (z : mv_Z) (x : Int32) (n : Nat) (hn : z.1 66 1 = nI n) (h48 : n < 48) : mv_Runs 1 66 [.ref 66, .int x] (mv_E z) none (mv_E (mv_u (mv_u z 67 n x) 66 1 (nI (n + 1)))) := by
  refine mv_start pX8_add none [some (.ref 66), some (.int x)] rfl rfl rfl rfl (fun V C => ?_)
  refine mv_aload_n C rfl rfl ?_
  refine mv_getJ C rfl rfl rfl hn ?_
  refine mv_bipush C rfl ?_
  refine mv_icmp_ge C rfl (fun c6 => ?_) (fun c6 => ?_)
  · exact absurd c6 (nI_ge (b := 48) (by omega) (by decide))
  · refine mv_aload_n C rfl rfl ?_
    refine mv_getR C rfl rfl rfl ?_
    refine mv_aload_n C rfl rfl ?_
    refine mv_getJ C rfl rfl rfl hn ?_
    refine mv_iload_n C rfl rfl ?_
    refine mv_ast C rfl rfl rfl (by omega) ?_
    refine mv_aload_n C rfl rfl ?_
    refine mv_dup C rfl rfl ?_
    refine mv_getJ C rfl rfl rfl hn ?_
    refine mv_iconst C rfl ?_
    refine mv_iadd C rfl ?_
    refine mv_top (nI_1 _) ?_
    refine mv_putI C rfl rfl rfl rfl ?_
    refine mv_return_ C rfl rfl ?_ ?_
    all_goals rfl
-- the parting of a reward
def hbest (w : Nat → Nat) : Nat → Nat
  | 0 => 0
  | n + 1 => if w (hbest w n) < w n then n else hbest w n
theorem hbest_lt (w : Nat → Nat) : ∀ n, 0 < n → hbest w n < n
  | 0, h => absurd h (by omega)
  | n + 1, _ => by
    simp only [hbest]
    split
    · omega
    · cases n with
      | zero => simp [hbest]
      | succ m => have := hbest_lt w (m + 1) (by omega); omega
theorem hbest_le (w : Nat → Nat) (n : Nat) : hbest w n ≤ n := by
  cases n with
  | zero => simp [hbest]
  | succ m => exact Nat.le_of_lt (hbest_lt w _ (by omega))
def hpart (R all w : Nat) : Nat := if all = 0 then 0 else R * w / all
theorem hpart_sum (R all : Nat) (w : Nat → Nat) (h : all ≠ 0) : ∀ n, hsum (fun c => hpart R all (w c)) n * all ≤ R * hsum w n
  | 0 => by simp [hsum]
  | n + 1 => by
    have ih := hpart_sum R all w h n
    have h1 : R * w n / all * all ≤ R * w n := Nat.div_mul_le_self _ _
    simp only [hsum, hpart, if_neg h, Nat.add_mul, Nat.mul_add] at ih ⊢
    omega
theorem hsum_mono (g : Nat → Nat) {a b : Nat} (h : a ≤ b) : hsum g a ≤ hsum g b := by
  induction h with
  | refl => exact Nat.le_refl _
  | step _ ih => simp only [hsum]; omega
theorem hpart_le (R : Nat) (w : Nat → Nat) (n k : Nat) (hk : k ≤ n) : hsum (fun c => hpart R (hsum w n) (w c)) k ≤ R := by
  by_cases h : hsum w n = 0
  · have : ∀ k, hsum (fun c => hpart R (hsum w n) (w c)) k = 0 := by
      intro k
      induction k with
      | zero => rfl
      | succ k ih => simp only [hsum]; rw [ih]; simp [hpart, h]
    rw [this]; omega
  · have h1 := hpart_sum R (hsum w n) w h k
    have h2 := hsum_mono w hk
    have h3 : R * hsum w k ≤ R * hsum w n := Nat.mul_le_mul_left _ h2
    exact Nat.le_of_mul_le_mul_right (Nat.le_trans h1 h3) (by omega)
theorem hwf_le {g : Nat → Bool} {w : Nat → Nat} {c m : Nat} (h : ∀ i, i < m → w i ≤ c) : ∀ k i, i + k = m → hwf g w k i ≤ c
  | 0, _, _ => Nat.zero_le _
  | k + 1, i, hi => by
    simp only [hwf]
    cases g i with
    | true => exact h i (by omega)
    | false => exact hwf_le h k (i + 1) (by omega)
theorem hwt_le (u : hM) (hi : hI u) (n : Nat) : hwt u n ≤ 999 := hwf_le (fun i h => (hi.2.2.2.2.2.2.2.2.2.2.2.2.2.2.2.2.2.1 i h).2) _ _ (by omega)
def hrest (u : hM) (R : Nat) : Nat := R - hsum (fun c => hpart R (hsum (hwt u) (u 27 0)) (hwt u c)) (u 27 0)
def hrow (u : hM) (R i : Nat) : Nat := if i < u 27 0 ∧ hsum (hwt u) (u 27 0) ≠ 0 then hpart R (hsum (hwt u) (u 27 0)) (hwt u i) + (if i = hbest (hwt u) (u 27 0) then hrest u R else 0) else 0
def a_reward (u : hM) (R : Int32) : Int32 := if 1 ≤ R ∧ R ≤ 1000000 then (if hsum (hwt u) (u 27 0) = 0 then 0 else R) else -1
def o_reward (u : hM) (R : Int32) : hM := if 1 ≤ R ∧ R ≤ 1000000 then hrw u (u 27 0) (hrow u R.toNatClampNeg) else u
end

