section
def hsum (g : Nat → Nat) : Nat → Nat
  | 0 => 0
  | n + 1 => hsum g n + g n
theorem hsum_le {g : Nat → Nat} {c : Nat} (h : ∀ i, g i ≤ c) : ∀ n, hsum g n ≤ n * c
  | 0 => by simp [hsum]
  | n + 1 => by have := hsum_le h n; have := h n; simp only [hsum, Nat.succ_mul]; omega
theorem hsum_cong {g k : Nat → Nat} : ∀ n, (∀ i, i < n → g i = k i) → hsum g n = hsum k n
  | 0, _ => rfl
  | n + 1, h => by simp only [hsum]; rw [hsum_cong n (fun i hi => h i (by omega)), h n (by omega)]
theorem r_standing (z : mv_Z) (n : Nat) (s : Nat → Nat) (hn : z.1 10 4 = nI n) (hn40 : n ≤ 40) (hs : ∀ f, z.1 14 f = nI (s f)) (hs1 : ∀ f, s f ≤ 1) : mv_Runs 1 45 [.ref 10] (mv_E z) (some (.int (nI (hsum (fun f => 1 - s f) n)))) (mv_E z) := by
  refine mv_start pX5_standing (some .int) [some (.ref 10), none, none] rfl rfl rfl rfl (fun V C => ?_)
  have loop : ∀ (k i : Nat), i + k = n → V 4 [some (.ref 10), some (.int (nI (hsum (fun f => 1 - s f) i))), some (.int (nI i))] [] (mv_E z) := by
    intro k
    induction k with
    | zero =>
      intro i hi
      refine mv_iload_n C rfl rfl ?_
      refine mv_aload_n C rfl rfl ?_
      refine mv_getJ C rfl rfl rfl hn ?_
      refine mv_icmp_ge C rfl (fun c9 => ?_) (fun c9 => ?_)
      · refine mv_iload_n C rfl rfl ?_
        refine mv_ireturn C rfl mv_okI ?_ ?_
        all_goals (first | rfl | (rw [show i = n by omega]))
      · exact absurd (nI_le (by omega) (by omega)) c9
    | succ k ih =>
      intro i hi
      have h1 := hs1 i
      have e := ih (i + 1) (by omega)
      simp only [hsum] at e
      refine mv_iload_n C rfl rfl ?_
      refine mv_aload_n C rfl rfl ?_
      refine mv_getJ C rfl rfl rfl hn ?_
      refine mv_icmp_ge C rfl (fun c9 => ?_) (fun c9 => ?_)
      · exact absurd c9 (nI_ge (by omega) (by omega))
      · refine mv_aload_n C rfl rfl ?_
        refine mv_getR C rfl rfl rfl ?_
        refine mv_iload_n C rfl rfl ?_
        refine mv_zldJ C rfl rfl rfl (by omega) (hs i) ?_
        refine mv_if_ne C rfl (fun c18 => ?_) (fun c18 => ?_)
        · have h2 : s i = 1 := by (rcases (show s i = 0 ∨ s i = 1 by omega) with q | q; (rw [q] at c18; exact absurd rfl c18); exact q)
          rw [h2] at e
          refine mv_inc2 C rfl rfl ?_
          refine mv_goto C rfl ?_
          simp only [nI_1]
          exact e
        · have h2 : s i = 0 := by (rcases (show s i = 0 ∨ s i = 1 by omega) with q | q; exact q; (rw [q] at c18; exact absurd c18 (by decide)))
          rw [h2] at e
          refine mv_inc1 C rfl rfl ?_
          refine mv_inc2 C rfl rfl ?_
          refine mv_goto C rfl ?_
          simp only [nI_1]
          exact e
  refine mv_iconst C rfl ?_
  refine mv_is_n1 C rfl rfl ?_
  refine mv_iconst C rfl ?_
  refine mv_is_n2 C rfl rfl ?_
  exact loop n 0 (by omega)
theorem sw10 (x : Int32) : (x.toInt < 0 ∨ 9 < x.toInt) ∨ ∃ k, k < 10 ∧ x = nI k := by
  by_cases h : x.toInt < 0 ∨ 9 < x.toInt
  · exact Or.inl h
  · refine Or.inr ?_
    obtain ⟨j, hj, rfl⟩ := nI_rng (x := x) (n := 10) (by rw [i32_le, i32_0]; omega) (by rw [i32_lt, nI_toInt (by decide)]; omega) (by decide)
    exact ⟨j, hj, rfl⟩
def a_count (u : hM) (x : Int32) : Int32 := if x.toInt < 0 ∨ 9 < x.toInt then -1 else ([nI (u 0 0), nI (u 2 0), nI (u 9 0), nI (hsum (fun f => 1 - u 13 f) (u 9 0)), nI (u 16 0), nI (u 21 0), nI (u 27 0), nI (u 30 0), nI (u 19 0), hst (u 8 0)] : List Int32).getD x.toInt.toNat (-1)
theorem a_count_k (u : hM) {k : Nat} (hk : k < 10) : a_count u (nI k) = ([nI (u 0 0), nI (u 2 0), nI (u 9 0), nI (hsum (fun f => 1 - u 13 f) (u 9 0)), nI (u 16 0), nI (u 21 0), nI (u 27 0), nI (u 30 0), nI (u 19 0), hst (u 8 0)] : List Int32).getD k (-1) := by
  unfold a_count
  rw [nI_toInt (by omega), if_neg (by omega)]
  rfl
theorem x_count (u : hM) (z : mv_Z) (x : Int32) (hi : hI u) (hz : rX u z) : xR 77 [.int x] u z (.int (a_count u x)) u := by
  have R0 := r_standing z _ _ (rX_s hz 10 4 9 (by decide)) hi.2.2.2.2.2.2.2.1 (rX_a hz 14 13 (by decide)) (fun f => (hi.2.2.2.2.2.2.2.2.2.1 f).1)
  refine ⟨z, mv_up (d := 3) (S1 := mv_E z) ?_ rfl, hz, fX_rf⟩
  rcases sw10 x with h | ⟨k, hk, rfl⟩
  · refine mv_start pX10_count (some .int) [some (.ref 0), some (.int x)] rfl rfl rfl rfl (fun V C => ?_)
    refine mv_iload_n C rfl rfl ?_
    refine mv_tsw_out C rfl h rfl ?_
    refine mv_iconst C rfl ?_
    refine mv_ireturn C rfl mv_okI ?_ ?_
    all_goals first | rfl | (unfold a_count; rw [if_pos h])
  · rw [a_count_k u hk]
    have hk2 : k = 0 ∨ k = 1 ∨ k = 2 ∨ k = 3 ∨ k = 4 ∨ k = 5 ∨ k = 6 ∨ k = 7 ∨ k = 8 ∨ k = 9 := by omega
    rcases hk2 with rfl | rfl | rfl | rfl | rfl | rfl | rfl | rfl | rfl | rfl
    · refine mv_start pX10_count (some .int) [some (.ref 0), some (.int (nI 0))] rfl rfl rfl rfl (fun V C => ?_)
      refine mv_iload_n C rfl rfl ?_
      refine mv_tsw_in C rfl (by decide) (by decide) rfl rfl ?_
      refine mv_aload_n C rfl rfl ?_
      refine mv_getR C rfl rfl rfl ?_
      refine mv_getJ C rfl rfl rfl (rX_s hz 3 6 0 (by decide)) ?_
      refine mv_ireturn C rfl mv_okI ?_ ?_
      all_goals rfl
    · refine mv_start pX10_count (some .int) [some (.ref 0), some (.int (nI 1))] rfl rfl rfl rfl (fun V C => ?_)
      refine mv_iload_n C rfl rfl ?_
      refine mv_tsw_in C rfl (by decide) (by decide) rfl rfl ?_
      refine mv_aload_n C rfl rfl ?_
      refine mv_getR C rfl rfl rfl ?_
      refine mv_getJ C rfl rfl rfl (rX_s hz 3 7 2 (by decide)) ?_
      refine mv_ireturn C rfl mv_okI ?_ ?_
      all_goals rfl
    · refine mv_start pX10_count (some .int) [some (.ref 0), some (.int (nI 2))] rfl rfl rfl rfl (fun V C => ?_)
      refine mv_iload_n C rfl rfl ?_
      refine mv_tsw_in C rfl (by decide) (by decide) rfl rfl ?_
      refine mv_aload_n C rfl rfl ?_
      refine mv_getR C rfl rfl rfl ?_
      refine mv_getJ C rfl rfl rfl (rX_s hz 10 4 9 (by decide)) ?_
      refine mv_ireturn C rfl mv_okI ?_ ?_
      all_goals rfl
    · refine mv_start pX10_count (some .int) [some (.ref 0), some (.int (nI 3))] rfl rfl rfl rfl (fun V C => ?_)
      refine mv_iload_n C rfl rfl ?_
      refine mv_tsw_in C rfl (by decide) (by decide) rfl rfl ?_
      refine mv_aload_n C rfl rfl ?_
      refine mv_getR C rfl rfl rfl ?_
      refine mv_cV C rfl (mv_up R0 rfl) (by decide) rfl rfl rfl (Nat.le_of_ble_eq_true rfl) (Nat.le_refl _) (Nat.le_refl _) rfl ?_
      refine mv_ireturn C rfl mv_okI ?_ ?_
      all_goals rfl
    · refine mv_start pX10_count (some .int) [some (.ref 0), some (.int (nI 4))] rfl rfl rfl rfl (fun V C => ?_)
      refine mv_iload_n C rfl rfl ?_
      refine mv_tsw_in C rfl (by decide) (by decide) rfl rfl ?_
      refine mv_aload_n C rfl rfl ?_
      refine mv_getR C rfl rfl rfl ?_
      refine mv_getJ C rfl rfl rfl (rX_s hz 21 3 16 (by decide)) ?_
      refine mv_ireturn C rfl mv_okI ?_ ?_
      all_goals rfl
    · refine mv_start pX10_count (some .int) [some (.ref 0), some (.int (nI 5))] rfl rfl rfl rfl (fun V C => ?_)
      refine mv_iload_n C rfl rfl ?_
      refine mv_tsw_in C rfl (by decide) (by decide) rfl rfl ?_
      refine mv_aload_n C rfl rfl ?_
      refine mv_getR C rfl rfl rfl ?_
      refine mv_getJ C rfl rfl rfl (rX_s hz 29 4 21 (by decide)) ?_
      refine mv_ireturn C rfl mv_okI ?_ ?_
      all_goals rfl
    · refine mv_start pX10_count (some .int) [some (.ref 0), some (.int (nI 6))] rfl rfl rfl rfl (fun V C => ?_)
      refine mv_iload_n C rfl rfl ?_
      refine mv_tsw_in C rfl (by decide) (by decide) rfl rfl ?_
      refine mv_aload_n C rfl rfl ?_
      refine mv_getR C rfl rfl rfl ?_
      refine mv_getJ C rfl rfl rfl (rX_s hz 29 5 27 (by decide)) ?_
      refine mv_ireturn C rfl mv_okI ?_ ?_
      all_goals rfl
    · refine mv_start pX10_count (some .int) [some (.ref 0), some (.int (nI 7))] rfl rfl rfl rfl (fun V C => ?_)
      refine mv_iload_n C rfl rfl ?_
      refine mv_tsw_in C rfl (by decide) (by decide) rfl rfl ?_
      refine mv_aload_n C rfl rfl ?_
      refine mv_getR C rfl rfl rfl ?_
      refine mv_getJ C rfl rfl rfl (rX_s hz 66 1 30 (by decide)) ?_
      refine mv_ireturn C rfl mv_okI ?_ ?_
      all_goals rfl
    · refine mv_start pX10_count (some .int) [some (.ref 0), some (.int (nI 8))] rfl rfl rfl rfl (fun V C => ?_)
      refine mv_iload_n C rfl rfl ?_
      refine mv_tsw_in C rfl (by decide) (by decide) rfl rfl ?_
      refine mv_aload_n C rfl rfl ?_
      refine mv_getR C rfl rfl rfl ?_
      refine mv_getJ C rfl rfl rfl (rX_s hz 27 1 19 (by decide)) ?_
      refine mv_ireturn C rfl mv_okI ?_ ?_
      all_goals rfl
    · refine mv_start pX10_count (some .int) [some (.ref 0), some (.int (nI 9))] rfl rfl rfl rfl (fun V C => ?_)
      refine mv_iload_n C rfl rfl ?_
      refine mv_tsw_in C rfl (by decide) (by decide) rfl rfl ?_
      refine mv_aload_n C rfl rfl ?_
      refine mv_getR C rfl rfl rfl ?_
      refine mv_getJ C rfl rfl rfl hz.2.2.1 ?_
      refine mv_ireturn C rfl mv_okI ?_ ?_
      all_goals rfl
theorem m_count (u : hM) (z : mv_Z) (x : Int32) (hi : hI u) (hz : rM u z) : mR 122 [.int x] u z (.int (a_count u x)) u := by
  have hn := rM_s hz 11 9 (by decide)
  have hs := rM_a hz 79 13 (by decide)
  have hn40 := hi.2.2.2.2.2.2.2.1
  have hs1 : ∀ f, u 13 f ≤ 1 := fun f => (hi.2.2.2.2.2.2.2.2.2.1 f).1
  refine ⟨mv_u z 68 0 0, mv_up (d := 3) (S1 := mv_E (mv_u z 68 0 0)) ?_ rfl, rM_free hz 68 0 0 (Or.inr ⟨rfl, by decide⟩), fM_u fM_rf (by decide)⟩
  refine mv_start pX11_count (some .int) [some (.ref 68), some (.int x), none, none] rfl rfl rfl rfl (fun V C => ?_)
  have fin : V 40 [some (.ref 68), some (.int x), some (.int (nI (hsum (fun f => 1 - u 13 f) (u 9 0)))), none] [] (mv_E (mv_u z 68 0 0)) := by
    rcases sw10 x with h | ⟨k, hk, rfl⟩
    · refine mv_iload_n C rfl rfl ?_
      refine mv_tsw_out C rfl h rfl ?_
      refine mv_iconst C rfl ?_
      refine mv_ireturn C rfl mv_okI ?_ ?_
      all_goals first | rfl | (unfold a_count; rw [if_pos h])
    · rw [a_count_k u hk] at C
      have hk2 : k = 0 ∨ k = 1 ∨ k = 2 ∨ k = 3 ∨ k = 4 ∨ k = 5 ∨ k = 6 ∨ k = 7 ∨ k = 8 ∨ k = 9 := by omega
      rcases hk2 with rfl | rfl | rfl | rfl | rfl | rfl | rfl | rfl | rfl | rfl
      · refine mv_iload_n C rfl rfl ?_
        refine mv_tsw_in C rfl (by decide) (by decide) rfl rfl ?_
        refine mv_aload_n C rfl rfl ?_
        refine mv_getJ C rfl rfl rfl (rM_s hz 1 0 (by decide)) ?_
        refine mv_ireturn C rfl mv_okI ?_ ?_
        all_goals rfl
      · refine mv_iload_n C rfl rfl ?_
        refine mv_tsw_in C rfl (by decide) (by decide) rfl rfl ?_
        refine mv_aload_n C rfl rfl ?_
        refine mv_getJ C rfl rfl rfl (rM_s hz 4 2 (by decide)) ?_
        refine mv_ireturn C rfl mv_okI ?_ ?_
        all_goals rfl
      · refine mv_iload_n C rfl rfl ?_
        refine mv_tsw_in C rfl (by decide) (by decide) rfl rfl ?_
        refine mv_aload_n C rfl rfl ?_
        refine mv_getJ C rfl rfl rfl (rM_s hz 11 9 (by decide)) ?_
        refine mv_ireturn C rfl mv_okI ?_ ?_
        all_goals rfl
      · refine mv_iload_n C rfl rfl ?_
        refine mv_tsw_in C rfl (by decide) (by decide) rfl rfl ?_
        refine mv_iload_n C rfl rfl ?_
        refine mv_ireturn C rfl mv_okI ?_ ?_
        all_goals rfl
      · refine mv_iload_n C rfl rfl ?_
        refine mv_tsw_in C rfl (by decide) (by decide) rfl rfl ?_
        refine mv_aload_n C rfl rfl ?_
        refine mv_getJ C rfl rfl rfl (rM_s hz 23 16 (by decide)) ?_
        refine mv_ireturn C rfl mv_okI ?_ ?_
        all_goals rfl
      · refine mv_iload_n C rfl rfl ?_
        refine mv_tsw_in C rfl (by decide) (by decide) rfl rfl ?_
        refine mv_aload_n C rfl rfl ?_
        refine mv_getJ C rfl rfl rfl (rM_s hz 28 21 (by decide)) ?_
        refine mv_ireturn C rfl mv_okI ?_ ?_
        all_goals rfl
      · refine mv_iload_n C rfl rfl ?_
        refine mv_tsw_in C rfl (by decide) (by decide) rfl rfl ?_
        refine mv_aload_n C rfl rfl ?_
        refine mv_getJ C rfl rfl rfl (rM_s hz 36 27 (by decide)) ?_
        refine mv_ireturn C rfl mv_okI ?_ ?_
        all_goals rfl
      · refine mv_iload_n C rfl rfl ?_
        refine mv_tsw_in C rfl (by decide) (by decide) rfl rfl ?_
        refine mv_aload_n C rfl rfl ?_
        refine mv_getJ C rfl rfl rfl (rM_s hz 18 30 (by decide)) ?_
        refine mv_ireturn C rfl mv_okI ?_ ?_
        all_goals rfl
      · refine mv_iload_n C rfl rfl ?_
        refine mv_tsw_in C rfl (by decide) (by decide) rfl rfl ?_
        refine mv_aload_n C rfl rfl ?_
        refine mv_getJ C rfl rfl rfl (rM_s hz 27 19 (by decide)) ?_
        refine mv_ireturn C rfl mv_okI ?_ ?_
        all_goals rfl
      · refine mv_iload_n C rfl rfl ?_
        refine mv_tsw_in C rfl (by decide) (by decide) rfl rfl ?_
        refine mv_aload_n C rfl rfl ?_
        refine mv_getJ C rfl rfl rfl hz.2.1 ?_
        refine mv_ireturn C rfl mv_okI ?_ ?_
        all_goals rfl
  have loop : ∀ (k i : Nat), i + k = u 9 0 → V 9 [some (.ref 68), some (.int x), some (.int (nI (hsum (fun f => 1 - u 13 f) i))), some (.int (nI i))] [] (mv_E (mv_u z 68 0 0)) := by
    intro k
    induction k with
    | zero =>
      intro i hi
      refine mv_iload_n C rfl rfl ?_
      refine mv_aload_n C rfl rfl ?_
      refine mv_getJ C rfl rfl rfl hn ?_
      refine mv_icmp_ge C rfl (fun c14 => ?_) (fun c14 => ?_)
      · rw [show i = u 9 0 by omega]
        exact mv_forget C _ (mv_le3 _ _ _ _) fin
      · exact absurd (nI_le (by omega) (by omega)) c14
    | succ k ih =>
      intro i hi
      have h1 := hs1 i
      have e := ih (i + 1) (by omega)
      simp only [hsum] at e
      refine mv_iload_n C rfl rfl ?_
      refine mv_aload_n C rfl rfl ?_
      refine mv_getJ C rfl rfl rfl hn ?_
      refine mv_icmp_ge C rfl (fun c14 => ?_) (fun c14 => ?_)
      · exact absurd c14 (nI_ge (by omega) (by omega))
      · refine mv_iload_n C rfl rfl ?_
        refine mv_aload_n C rfl rfl ?_
        refine mv_getR C rfl rfl rfl ?_
        refine mv_iload_n C rfl rfl ?_
        refine mv_zldJ C rfl rfl rfl (by omega) (hs i) ?_
        refine mv_if_eq C rfl (fun c24 => ?_) (fun c24 => ?_)
        · have h2 : u 13 i = 0 := by (rcases (show u 13 i = 0 ∨ u 13 i = 1 by omega) with q | q; exact q; (rw [q] at c24; exact absurd c24 (by decide)))
          rw [h2] at e
          refine mv_iconst C rfl ?_
          refine mv_iadd C rfl ?_
          refine mv_is_n2 C rfl rfl ?_
          refine mv_inc3 C rfl rfl ?_
          refine mv_goto C rfl ?_
          first | (simp only [nI_1]; exact e) | (simp only [nI_1, show ∀ a : Nat, nI a + 0 = nI a from fun a => nI_add a 0]; exact e)
        · have h2 : u 13 i = 1 := by (rcases (show u 13 i = 0 ∨ u 13 i = 1 by omega) with q | q; (rw [q] at c24; exact absurd rfl c24); exact q)
          rw [h2] at e
          refine mv_iconst C rfl ?_
          refine mv_goto C rfl ?_
          refine mv_iadd C rfl ?_
          refine mv_is_n2 C rfl rfl ?_
          refine mv_inc3 C rfl rfl ?_
          refine mv_goto C rfl ?_
          first | (simp only [nI_1]; exact e) | (simp only [nI_1, show ∀ a : Nat, nI a + 0 = nI a from fun a => nI_add a 0]; exact e)
  refine mv_aload_n C rfl rfl ?_
  refine mv_iconst C rfl ?_
  refine mv_putI C rfl rfl rfl rfl ?_
  refine mv_iconst C rfl ?_
  refine mv_is_n2 C rfl rfl ?_
  refine mv_iconst C rfl ?_
  refine mv_is_n3 C rfl rfl ?_
  exact loop (u 9 0) 0 (by omega)
end

