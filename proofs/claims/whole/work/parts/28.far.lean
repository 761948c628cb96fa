section
def updN (e : Nat → Nat) (q x : Nat) : Nat → Nat := fun p => if p = q then x else e p
def relq (e : Nat → Nat) (a b h : Nat) : Bool := decide (e a ≠ 0) && (decide (e b = 0) || decide (e a + h < e b))
def rel1 (e : Nat → Nat) (a b h : Nat) : Nat → Nat := bif relq e a b h then updN e b (e a + h) else e
def hrel (u : hM) (e : Nat → Nat) (r : Nat) : Nat → Nat := rel1 (rel1 e (u 3 r) (u 4 r) (u 5 r)) (u 4 r) (u 3 r) (u 5 r)
def hrelq (u : hM) (e : Nat → Nat) (r : Nat) : Bool := relq e (u 3 r) (u 4 r) (u 5 r) || relq (rel1 e (u 3 r) (u 4 r) (u 5 r)) (u 4 r) (u 3 r) (u 5 r)
def hrnd (u : hM) : Nat → Nat → (Nat → Nat) → Nat → Nat
  | 0, _, e => e
  | k + 1, i, e => hrnd u k (i + 1) (if u 6 i = 0 then hrel u e i else e)
def hrndq (u : hM) : Nat → Nat → (Nat → Nat) → Bool → Bool
  | 0, _, _, b => b
  | k + 1, i, e, b => hrndq u k (i + 1) (if u 6 i = 0 then hrel u e i else e) (if u 6 i = 0 then b || hrelq u e i else b)
def hit (u : hM) : Nat → (Nat → Nat) → Nat → Nat
  | 0, e => e
  | k + 1, e => hit u k (hrnd u (u 2 0) 0 e)
theorem hrel_no {u : hM} {e : Nat → Nat} {r : Nat} (h : hrelq u e r = false) : hrel u e r = e := by
  simp only [hrelq, Bool.or_eq_false_iff] at h
  have e1 : rel1 e (u 3 r) (u 4 r) (u 5 r) = e := by unfold rel1; rw [h.1]; rfl
  unfold hrel
  rw [e1] at h ⊢
  unfold rel1; rw [h.2]; rfl
theorem hrndq_t (u : hM) : ∀ k i e, hrndq u k i e true = true
  | 0, _, _ => rfl
  | k + 1, i, e => by
    simp only [hrndq]
    split
    · rw [Bool.true_or]; exact hrndq_t u k _ _
    · exact hrndq_t u k _ _
theorem hrnd_fix (u : hM) : ∀ k i e b, hrndq u k i e b = false → hrnd u k i e = e
  | 0, _, _, _, _ => rfl
  | k + 1, i, e, b, h => by
    simp only [hrndq] at h
    simp only [hrnd]
    by_cases h6 : u 6 i = 0
    · rw [if_pos h6, if_pos h6] at h
      rw [if_pos h6]
      have hb : (b || hrelq u e i) = false := by
        cases q : (b || hrelq u e i) with
        | false => rfl
        | true => rw [q, hrndq_t] at h; cases h
      have h2 := hrel_no (Bool.or_eq_false_iff.mp hb).2
      rw [h2] at h ⊢
      exact hrnd_fix u k (i + 1) e _ h
    · rw [if_neg h6, if_neg h6] at h
      rw [if_neg h6]
      exact hrnd_fix u k (i + 1) e _ h
theorem hit_fix (u : hM) {e : Nat → Nat} (h : hrnd u (u 2 0) 0 e = e) : ∀ k, hit u k e = e
  | 0 => rfl
  | k + 1 => by simp only [hit]; rw [h]; exact hit_fix u h k
theorem rel1_le {e : Nat → Nat} {a b h m : Nat} (he : ∀ p, e p ≤ m) (hh : h ≤ 12) (p : Nat) : rel1 e a b h p ≤ m + 12 := by
  unfold rel1
  cases relq e a b h with
  | true => simp only [cond_true, updN]; split; (have := he a; omega); (have := he p; omega)
  | false => simp only [cond_false]; have := he p; omega
theorem hrel_le {u : hM} {e : Nat → Nat} {r m : Nat} (he : ∀ p, e p ≤ m) (hh : u 5 r ≤ 12) (p : Nat) : hrel u e r p ≤ m + 24 := rel1_le (m := m + 12) (fun q => rel1_le he hh q) hh p
def g5 (z : mv_Z) (n : Nat) (e : Nat → Nat) : Nat → Int32 := fun p => if p < n then hst (e p) else z.1 5 p
theorem g5_upd (z : mv_Z) (n : Nat) (e : Nat → Nat) (q x : Nat) (hq : q < n) : upd (g5 z n e) q (hst x) = g5 z n (updN e q x) := by
  funext p
  by_cases h : p = q
  · subst h; simp [upd, g5, updN, hq]
  · simp [upd, g5, updN, h]
theorem g5_at {z : mv_Z} {n p : Nat} {e : Nat → Nat} (h : p < n) : g5 z n e p = hst (e p) := by simp [g5, h]
theorem hst_pos {e : Nat} (h : e ≠ 0) : hst e = nI (e - 1) := by cases e with | zero => exact absurd rfl h | succ k => rfl
theorem r_shorten (z : mv_Z) (n : Nat) (e : Nat → Nat) (a b h : Nat) (hn : n ≤ 24) (ha : a < n) (hb : b < n) (hh : h ≤ 12) (he : ∀ p, e p ≤ 1000000) : mv_Runs 1 56 [.ref 3, .int (nI a), .int (nI b), .int (nI h)] (mv_E (mv_w z 5 (g5 z n e))) (some (.int (bif relq e a b h then 1 else 0))) (mv_E (mv_w z 5 (g5 z n (rel1 e a b h)))) := by
  have hea := he a
  have heb := he b
  have la : (mv_w z 5 (g5 z n e)).1 5 a = hst (e a) := by rw [mv_w_get, g5_at ha]
  have lb : (mv_w z 5 (g5 z n e)).1 5 b = hst (e b) := by rw [mv_w_get, g5_at hb]
  by_cases h0 : e a = 0
  · have hq : relq e a b h = false := by simp [relq, h0]
    rw [show rel1 e a b h = e by (unfold rel1; rw [hq]; rfl), hq]
    refine mv_start pX6_shorten (some .boolean) [some (.ref 3), some (.int (nI a)), some (.int (nI b)), some (.int (nI h)), none] rfl rfl rfl rfl (fun V C => ?_)
    refine mv_aload_n C rfl rfl ?_
    refine mv_getR C rfl rfl rfl ?_
    refine mv_iload_n C rfl rfl ?_
    refine mv_aldJ C rfl rfl rfl (by omega) la ?_
    refine mv_iconst C rfl ?_
    refine mv_icmp_ne C rfl (fun c7 => ?_) (fun c7 => ?_)
    · exact absurd (by rw [h0]; rfl) c7
    · refine mv_iconst C rfl ?_
      refine mv_ireturn C rfl mv_okZ0 ?_ ?_
      all_goals rfl
  · have la2 : (mv_w z 5 (g5 z n e)).1 5 a = nI (e a - 1) := by rw [la, hst_pos h0]
    have ew : nI (e a - 1) + nI h = hst (e a + h) := by rw [nI_add, hst_pos (by omega)]; congr 1; omega
    by_cases hq1 : e b = 0
    · have hq : relq e a b h = true := by simp [relq, h0, hq1]
      rw [show rel1 e a b h = updN e b (e a + h) by (unfold rel1; rw [hq]; rfl), hq]
      refine mv_start pX6_shorten (some .boolean) [some (.ref 3), some (.int (nI a)), some (.int (nI b)), some (.int (nI h)), none] rfl rfl rfl rfl (fun V C => ?_)
      refine mv_aload_n C rfl rfl ?_
      refine mv_getR C rfl rfl rfl ?_
      refine mv_iload_n C rfl rfl ?_
      refine mv_aldJ C rfl rfl rfl (by omega) la2 ?_
      refine mv_iconst C rfl ?_
      refine mv_icmp_ne C rfl (fun c7 => ?_) (fun c7 => ?_)
      · refine mv_aload_n C rfl rfl ?_
        refine mv_getR C rfl rfl rfl ?_
        refine mv_iload_n C rfl rfl ?_
        refine mv_aldJ C rfl rfl rfl (by omega) la2 ?_
        refine mv_iload_n C rfl rfl ?_
        refine mv_iadd C rfl ?_
        refine mv_top ew ?_
        refine mv_is4 C rfl rfl ?_
        refine mv_aload_n C rfl rfl ?_
        refine mv_getR C rfl rfl rfl ?_
        refine mv_iload_n C rfl rfl ?_
        refine mv_aldJ C rfl rfl rfl (by omega) lb ?_
        refine mv_iconst C rfl ?_
        refine mv_icmp_eq C rfl (fun c29 => ?_) (fun c29 => ?_)
        · refine mv_aload_n C rfl rfl ?_
          refine mv_getR C rfl rfl rfl ?_
          refine mv_iload_n C rfl rfl ?_
          refine mv_iload C rfl rfl ?_
          refine mv_ast C rfl rfl rfl (by omega) ?_
          refine mv_sto (by rw [mv_uw, g5_upd _ _ _ _ _ hb]) ?_
          refine mv_iconst C rfl ?_
          refine mv_ireturn C rfl mv_okZ1 ?_ ?_
          all_goals rfl
        · exact absurd (by rw [hq1]; rfl) c29
      · exact absurd c7 (nI_nm1 (by omega))
    · have lb2 : (mv_w z 5 (g5 z n e)).1 5 b = nI (e b - 1) := by rw [lb, hst_pos hq1]
      by_cases hq2 : e a + h < e b
      · have hq : relq e a b h = true := by simp [relq, h0, hq2]
        rw [show rel1 e a b h = updN e b (e a + h) by (unfold rel1; rw [hq]; rfl), hq]
        refine mv_start pX6_shorten (some .boolean) [some (.ref 3), some (.int (nI a)), some (.int (nI b)), some (.int (nI h)), none] rfl rfl rfl rfl (fun V C => ?_)
        refine mv_aload_n C rfl rfl ?_
        refine mv_getR C rfl rfl rfl ?_
        refine mv_iload_n C rfl rfl ?_
        refine mv_aldJ C rfl rfl rfl (by omega) la2 ?_
        refine mv_iconst C rfl ?_
        refine mv_icmp_ne C rfl (fun c7 => ?_) (fun c7 => ?_)
        · refine mv_aload_n C rfl rfl ?_
          refine mv_getR C rfl rfl rfl ?_
          refine mv_iload_n C rfl rfl ?_
          refine mv_aldJ C rfl rfl rfl (by omega) la2 ?_
          refine mv_iload_n C rfl rfl ?_
          refine mv_iadd C rfl ?_
          refine mv_top ew ?_
          refine mv_is4 C rfl rfl ?_
          refine mv_aload_n C rfl rfl ?_
          refine mv_getR C rfl rfl rfl ?_
          refine mv_iload_n C rfl rfl ?_
          refine mv_aldJ C rfl rfl rfl (by omega) lb2 ?_
          refine mv_iconst C rfl ?_
          refine mv_icmp_eq C rfl (fun c29 => ?_) (fun c29 => ?_)
          · exact absurd c29 (nI_nm1 (by omega))
          · refine mv_aload_n C rfl rfl ?_
            refine mv_getR C rfl rfl rfl ?_
            refine mv_iload_n C rfl rfl ?_
            refine mv_aldJ C rfl rfl rfl (by omega) lb2 ?_
            refine mv_iload C rfl rfl ?_
            refine mv_icmp_gt C rfl (fun c40 => ?_) (fun c40 => ?_)
            · refine mv_aload_n C rfl rfl ?_
              refine mv_getR C rfl rfl rfl ?_
              refine mv_iload_n C rfl rfl ?_
              refine mv_iload C rfl rfl ?_
              refine mv_ast C rfl rfl rfl (by omega) ?_
              refine mv_sto (by rw [mv_uw, g5_upd _ _ _ _ _ hb]) ?_
              refine mv_iconst C rfl ?_
              refine mv_ireturn C rfl mv_okZ1 ?_ ?_
              all_goals rfl
            · exact absurd (by rw [hst_pos (by omega)]; exact nI_lt (by omega) (by omega)) c40
        · exact absurd c7 (nI_nm1 (by omega))
      · have hq : relq e a b h = false := by simp [relq, hq1, hq2]
        rw [show rel1 e a b h = e by (unfold rel1; rw [hq]; rfl), hq]
        refine mv_start pX6_shorten (some .boolean) [some (.ref 3), some (.int (nI a)), some (.int (nI b)), some (.int (nI h)), none] rfl rfl rfl rfl (fun V C => ?_)
        refine mv_aload_n C rfl rfl ?_
        refine mv_getR C rfl rfl rfl ?_
        refine mv_iload_n C rfl rfl ?_
        refine mv_aldJ C rfl rfl rfl (by omega) la2 ?_
        refine mv_iconst C rfl ?_
        refine mv_icmp_ne C rfl (fun c7 => ?_) (fun c7 => ?_)
        · refine mv_aload_n C rfl rfl ?_
          refine mv_getR C rfl rfl rfl ?_
          refine mv_iload_n C rfl rfl ?_
          refine mv_aldJ C rfl rfl rfl (by omega) la2 ?_
          refine mv_iload_n C rfl rfl ?_
          refine mv_iadd C rfl ?_
          refine mv_top ew ?_
          refine mv_is4 C rfl rfl ?_
          refine mv_aload_n C rfl rfl ?_
          refine mv_getR C rfl rfl rfl ?_
          refine mv_iload_n C rfl rfl ?_
          refine mv_aldJ C rfl rfl rfl (by omega) lb2 ?_
          refine mv_iconst C rfl ?_
          refine mv_icmp_eq C rfl (fun c29 => ?_) (fun c29 => ?_)
          · exact absurd c29 (nI_nm1 (by omega))
          · refine mv_aload_n C rfl rfl ?_
            refine mv_getR C rfl rfl rfl ?_
            refine mv_iload_n C rfl rfl ?_
            refine mv_aldJ C rfl rfl rfl (by omega) lb2 ?_
            refine mv_iload C rfl rfl ?_
            refine mv_icmp_gt C rfl (fun c40 => ?_) (fun c40 => ?_)
            · exact absurd c40 (by rw [hst_pos (by omega)]; exact nI_nlt (by omega) (by omega))
            · refine mv_iconst C rfl ?_
              refine mv_ireturn C rfl mv_okZ0 ?_ ?_
              all_goals rfl
        · exact absurd c7 (nI_nm1 (by omega))
end

