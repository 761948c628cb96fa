section
variable {p : Program} {l : Launch} {e : Env} {s : State} {m : MethodId} {below : List Frame} {meth : Method} {c : Code} {b L : Nat} {xs : Nat → Int32}
theorem lw_onT : mv_NB.all (fun w => w.onTables) = true := by decide +kernel
abbrev lw_tm (i : Nat) : Term := Term.string "HueAndCryModel" (mv_tk (i + 1))
theorem lw_five {P : Nat → Prop} (h0 : P 0) (h1 : P 1) (h2 : P 2) (h3 : P 3) (h4 : P 4) : ∀ i, i < 5 → P i := by
  intro i hi
  have hc : i = 0 ∨ i = 1 ∨ i = 2 ∨ i = 3 ∨ i = 4 := by omega
  rcases hc with rfl | rfl | rfl | rfl | rfl <;> assumption
theorem lw_one {P : Nat → Prop} (h0 : P 0) : ∀ j, j < 1 → P j := by
  intro j hj
  have hc : j = 0 := by omega
  subst hc; exact h0
theorem lw_three {P : Nat → Prop} (h0 : P 0) (h1 : P 1) (h2 : P 2) : ∀ j, j < 3 → P j := by
  intro j hj
  have hc : j = 0 ∨ j = 1 ∨ j = 2 := by omega
  rcases hc with rfl | rfl | rfl <;> assumption
theorem lw_ten {P : Nat → Prop} (h0 : P 0) (h1 : P 1) (h2 : P 2) (h3 : P 3) (h4 : P 4) (h5 : P 5) (h6 : P 6) (h7 : P 7) (h8 : P 8) (h9 : P 9) : ∀ j, j < 10 → P j := by
  intro j hj
  have hc : j = 0 ∨ j = 1 ∨ j = 2 ∨ j = 3 ∨ j = 4 ∨ j = 5 ∨ j = 6 ∨ j = 7 ∨ j = 8 ∨ j = 9 := by omega
  rcases hc with rfl | rfl | rfl | rfl | rfl | rfl | rfl | rfl | rfl | rfl <;> assumption
theorem lw_strs (hgv : (Jvm.Cond.and given_1 narrow_1).before #[Value.ref b] s = true) : ∃ adK adV : Nat → Nat, vk_S 5 mv_len (mv_strs.drop 1) adK adV (fun q => s.heap.size ≤ q) s s.heap ∧ ∀ i : Nat, i < 5 → (lw_tm i).eval #[Value.ref b] s none [] s = some (.ref (adK i)) := by
  have hs := flat_of_before _ hgv
  refine vk_Sof (tm := lw_tm) (by decide) ?_ ?_ ?_ ?_ ?_ ?_ (fun a h => Nat.not_le.mpr h)
  · exact lw_five (hs _ (by decide +kernel)) (hs _ (by decide +kernel)) (hs _ (by decide +kernel)) (hs _ (by decide +kernel)) (hs _ (by decide +kernel))
  · exact lw_five (hs _ (by decide +kernel)) (hs _ (by decide +kernel)) (hs _ (by decide +kernel)) (hs _ (by decide +kernel)) (hs _ (by decide +kernel))
  · exact lw_five (hs _ (by decide +kernel)) (hs _ (by decide +kernel)) (hs _ (by decide +kernel)) (hs _ (by decide +kernel)) (hs _ (by decide +kernel))
  · exact lw_five (hs _ (by decide +kernel)) (hs _ (by decide +kernel)) (hs _ (by decide +kernel)) (hs _ (by decide +kernel)) (hs _ (by decide +kernel))
  · exact lw_five (lw_three (hs _ (by decide +kernel)) (hs _ (by decide +kernel)) (hs _ (by decide +kernel))) (lw_three (hs _ (by decide +kernel)) (hs _ (by decide +kernel)) (hs _ (by decide +kernel))) (lw_ten (hs _ (by decide +kernel)) (hs _ (by decide +kernel)) (hs _ (by decide +kernel)) (hs _ (by decide +kernel)) (hs _ (by decide +kernel)) (hs _ (by decide +kernel)) (hs _ (by decide +kernel)) (hs _ (by decide +kernel)) (hs _ (by decide +kernel)) (hs _ (by decide +kernel))) (lw_one (hs _ (by decide +kernel))) (lw_one (hs _ (by decide +kernel)))
  · have hh : ∀ i, i < 5 → ∀ j, j < 5 → i ≠ j → (Cond.not (Cond.eq (lw_tm i) (lw_tm j))).before #[Value.ref b] s = true ∨ (Cond.not (Cond.eq (lw_tm j) (lw_tm i))).before #[Value.ref b] s = true := lw_five (lw_five (P := fun j => 0 ≠ j → _) (fun h => absurd rfl h) (fun _ => Or.inl (hs _ (by decide +kernel))) (fun _ => Or.inl (hs _ (by decide +kernel))) (fun _ => Or.inl (hs _ (by decide +kernel))) (fun _ => Or.inl (hs _ (by decide +kernel)))) (lw_five (P := fun j => 1 ≠ j → _) (fun _ => Or.inr (hs _ (by decide +kernel))) (fun h => absurd rfl h) (fun _ => Or.inl (hs _ (by decide +kernel))) (fun _ => Or.inl (hs _ (by decide +kernel))) (fun _ => Or.inl (hs _ (by decide +kernel)))) (lw_five (P := fun j => 2 ≠ j → _) (fun _ => Or.inr (hs _ (by decide +kernel))) (fun _ => Or.inr (hs _ (by decide +kernel))) (fun h => absurd rfl h) (fun _ => Or.inl (hs _ (by decide +kernel))) (fun _ => Or.inl (hs _ (by decide +kernel)))) (lw_five (P := fun j => 3 ≠ j → _) (fun _ => Or.inr (hs _ (by decide +kernel))) (fun _ => Or.inr (hs _ (by decide +kernel))) (fun _ => Or.inr (hs _ (by decide +kernel))) (fun h => absurd rfl h) (fun _ => Or.inl (hs _ (by decide +kernel)))) (lw_five (P := fun j => 4 ≠ j → _) (fun _ => Or.inr (hs _ (by decide +kernel))) (fun _ => Or.inr (hs _ (by decide +kernel))) (fun _ => Or.inr (hs _ (by decide +kernel))) (fun _ => Or.inr (hs _ (by decide +kernel))) (fun h => absurd rfl h))
    exact fun i j hi hj hne => hh i hi j hj hne
theorem lw_K (hts : ∀ w ∈ lw_tbl, w.before #[Value.ref b] s = true) : ∃ (D : va_G) (cK : Nat → Nat), va_K D vwCl (mv_tys cK) s := by
  have htB : ∀ w ∈ mv_TB, w.before #[Value.ref b] s = true := fun w hw => hts w (List.mem_filter.mp hw).1
  have h : ∀ ci : Nat, ∃ r : ClassId × (Nat → Nat), ∀ q : vw_C, vwCl[ci]? = some q → u_Kn s q.1 q.2.1 q.2.2 r.1 r.2 := by
    intro ci
    by_cases hc : ci < 12
    · obtain ⟨T, N, hv⟩ := mv_cnA hc
      obtain ⟨cC, iS, hk⟩ := u_known htB (mv_uws hv) (htB _ (mv_inst hc hv))
      refine ⟨(cC, iS), fun q hq => ?_⟩
      rw [hv] at hq
      cases hq
      exact hk
    · refine ⟨(0, fun _ => 0), fun q hq => ?_⟩
      have := (List.getElem?_eq_some_iff.mp hq).1
      exact absurd this hc
  obtain ⟨f, hf⟩ := Classical.axiomOfChoice h
  obtain ⟨c0, k0, o0, a0, b0, d0⟩ := Cond.arrayClass_spec (type := .int) (hts _ (by decide +kernel))
  obtain ⟨c1, k1, o1, a1, b1, d1⟩ := Cond.arrayClass_spec (type := .boolean) (hts _ (by decide +kernel))
  obtain ⟨c2, k2, o2, a2, b2, d2⟩ := Cond.arrayClass_spec (type := .long) (hts _ (by decide +kernel))
  obtain ⟨o3, c3, k3, x1, x2, x3, x4, x5⟩ := Cond.arrayOver_spec (n := "HueAndCry$Act") (hts _ (by decide +kernel))
  refine ⟨(fun i => (f i).1, fun i => (f i).2), fun k => match k with | 0 => c0 | 1 => c1 | 2 => c2 | _ => c3, fun ci q hq => hf ci q hq, fun k q hq => ?_⟩
  have hk4 : k < 4 := (List.getElem?_eq_some_iff.mp hq).1
  have hc : k = 0 ∨ k = 1 ∨ k = 2 ∨ k = 3 := by omega
  rcases hc with rfl | rfl | rfl | rfl
  · cases hq; exact ⟨fun N z => ⟨(fun q hq => by cases hq), k0, b0, o0, d0⟩, a0⟩
  · cases hq; exact ⟨fun N z => ⟨(fun q hq => by cases hq), k1, b1, o1, d1⟩, a1⟩
  · cases hq; exact ⟨fun N z => ⟨(fun q hq => by cases hq), k2, b2, o2, d2⟩, a2⟩
  · cases hq; exact ⟨fun N z => ⟨(fun q hq => by cases hq), k3, x3, o3, x4⟩, k3, o3, x3, x4, x1, x5⟩
abbrev LX1 (p : Program) (s : State) (m : MethodId) (meth : Method) (c : Code) (D : va_G) (ad adV cK : Nat → Nat) (b : Nat) : Prop := mv_Cx p room_1 s m #[Value.ref b] meth c D ad adV cK (fun q => s.heap.size ≤ q) 12 false code pL_h 7 0 0 0 0 0 97 4667 20
theorem lw_ctx (C0 : lw_At p s m meth c b L xs) : ∃ (D : va_G) (ad adV cK : Nat → Nat), ad 2000 = b ∧ (∀ k, k < 97 → ad k = s.heap.size + k) ∧ (∀ kx ks, kx ≤ 600 → ks ≤ 4000 → LX p s m meth c D ad adV cK b kx ks pL_h) ∧ LX1 p s m meth c D ad adV cK b := by
  obtain ⟨hx, hb, hr, hml, hown, hts, hX, hbl, hlocks, hgv⟩ := C0
  have hs := flat_of_before _ hgv
  obtain ⟨D, cK, hK⟩ := lw_K hts
  obtain ⟨adK, adV, hS, hev⟩ := lw_strs hgv
  have htB : ∀ w ∈ mv_TB, w.before #[Value.ref b] s = true := fun w hw => hts w (List.mem_filter.mp hw).1
  have hN : ∀ w ∈ mv_NB, va_Nw w s := fun w hw => va_Nw.of (List.all_eq_true.mp lw_onT w hw) (hts w (List.mem_filter.mp hw).1)
  have hAO : va_AO "HueAndCry$Act" s := va_AO.of (hts _ (by decide +kernel))
  have hRf : ∀ j, j < 5 → vk_R "HueAndCryModel" (mv_tk (j + 1)) (mv_tx (j + 1)) (adK j) s := lw_five (vk_R.of (hts _ (by decide +kernel)) (hev 0 (by decide))) (vk_R.of (hts _ (by decide +kernel)) (hev 1 (by decide))) (vk_R.of (hts _ (by decide +kernel)) (hev 2 (by decide))) (vk_R.of (hts _ (by decide +kernel)) (hev 3 (by decide))) (vk_R.of (hts _ (by decide +kernel)) (hev 4 (by decide)))
  have hZ : va_Z "java/lang/String" "COMPACT_STRINGS" "Z" (.int 1) (fun q => s.heap.size ≤ q) s s.heap := va_Zof (hts _ (by decide +kernel)) (hts _ (by decide +kernel)) (va_eqt (hs _ (by decide +kernel))) (fun a h => Nat.not_le.mpr h)
  refine ⟨D, fun k => if k < 97 then s.heap.size + k else if k = 2000 then b else adK (k - 1001), adV, cK, rfl, fun k hk => if_pos hk, ?_⟩
  have had : ∀ j, j < 5 → (fun k => if k < 97 then s.heap.size + k else if k = 2000 then b else adK (k - 1001)) (1001 + j) = adK j := fun j hj => by
    show (if 1001 + j < 97 then s.heap.size + (1001 + j) else if 1001 + j = 2000 then b else adK (1001 + j - 1001)) = adK j
    rw [if_neg (by omega), if_neg (by omega), show 1001 + j - 1001 = j by omega]
  have hT : mv_T (fun k => if k < 97 then s.heap.size + k else if k = 2000 then b else adK (k - 1001)) adV (fun q => s.heap.size ≤ q) s s.heap := by
    refine ⟨⟨fun i hi => ?_, fun i j hi hj he => ?_⟩, fun j hj => ?_, hZ⟩
    · simp only [had i hi]; exact hS.1 i hi
    · simp only [had i hi, had j hj] at he; exact hS.2 i j hi hj he
    · simp only [had j hj]; exact hRf j hj
  refine ⟨fun kx ks h1 h2 => ⟨hx, hb, hml, hown, htB, hN, hK, fun q h => h, ok_L_h, fun k a1 a2 => absurd a2 (by omega), (fun h => by cases h), hT, ?_, ?_, by decide, by decide, by decide, hAO⟩, hx, hb, hml, hown, htB, hN, hK, fun q h => h, ok_L_h, fun k a1 a2 => ⟨rfl, ?_⟩, (fun h => by cases h), hT, by decide, by decide, by decide, by decide, by decide, hAO⟩
  · show 97 - 0 + kx ≤ 601024; omega
  · show 4667 - 0 + ks ≤ 7293034; omega
  · simp only [if_pos a2, Nat.add_zero]
def lw_u0 : hM := fun key k => bif Nat.beq key 14 && !Nat.blt k 6 then 1 else 0
theorem lw_hI0 : hI lw_u0 := by
  have h14 : ∀ k, lw_u0 14 k ≤ 32 := fun k => by
    unfold lw_u0
    cases (Nat.beq 14 14 && !Nat.blt k 6) <;> decide
  refine ⟨by decide, fun p => (by show 0 < 6; decide), by decide, fun r h => absurd h (by show ¬ r < 0; omega), fun r => Nat.zero_le 1, fun p => ⟨Nat.zero_le 1, fun _ => rfl⟩, by decide, by decide, fun r h => absurd h (by show ¬ r < 0; omega), fun f => ⟨Nat.zero_le 1, fun _ => rfl⟩, fun k => ⟨h14 k, Nat.zero_le 31⟩, by decide, fun r h => absurd h (by show ¬ r < 0; omega), fun k => (by show 0 < 32; decide), by decide, fun k => (by show 0 < 256; decide), by decide, fun r h => absurd h (by show ¬ r < 0; omega), by decide, fun r h => absurd h (by show ¬ r < 0; omega), by decide, fun i => ⟨by show 0 < 256; decide, by show 0 < 256; decide, by show 0 ≤ 999; decide, by show 0 ≤ 1000000; decide⟩⟩
theorem lw_st14 (q : Nat) (hq : q = 23 ∨ q = 84) : hz0.1 q = fun k => hst (lw_u0 14 k) := by
  funext k
  rcases hq with rfl | rfl
  all_goals
    by_cases h : k < 6
    · have hb : Nat.blt k 6 = true := Nat.blt_eq.mpr h
      simp [hz0, lw_u0, hb, hst]
    · have hb : Nat.blt k 6 = false := by cases hh : Nat.blt k 6 with | false => rfl | true => exact absurd (Nat.blt_eq.mp hh) h
      simp only [hz0, lw_u0, hb, Bool.and_false, cond_false]; rfl
theorem lw_rX0 : rX lw_u0 hz0 := by
  refine ⟨⟨?_, ?_⟩, ?_, rfl, lw_st14 23 (Or.inl rfl), ?_, ?_, ?_, ?_⟩
  · have : ∀ q ∈ tX, Nat.beq q.1 23 = false ∧ Nat.beq q.1 84 = false ∧ Nat.beq q.1 3 = false ∧ Nat.beq q.1 68 = false ∧ Nat.beq q.2 14 = false := by decide
    intro q hq
    obtain ⟨h1, h2, h3, h4, h5⟩ := this q hq
    funext i
    simp [hz0, lw_u0, h1, h2, h3, h4, h5, nI]
  · decide
  · decide
  · intro p _
    have h18 : ∀ x, lw_u0 18 x = 0 := fun _ => rfl
    show (0 : Int32) = _
    simp only [h18, Nat.zero_mul, Nat.add_zero]; rfl
  · intro a h; exact absurd h (by show ¬ a < 0; omega)
  · intro a h; exact absurd h (by show ¬ a < 0; omega)
  · intro a h; exact absurd h (by show ¬ a < 0; omega)
theorem lw_rM0 : rM lw_u0 hz0 := by
  refine ⟨⟨?_, ?_⟩, rfl, lw_st14 84 (Or.inr rfl), ?_, ?_⟩
  · have : ∀ q ∈ tM, Nat.beq q.1 23 = false ∧ Nat.beq q.1 84 = false ∧ Nat.beq q.1 3 = false ∧ Nat.beq q.1 68 = false ∧ Nat.beq q.2 14 = false := by decide
    intro q hq
    obtain ⟨h1, h2, h3, h4, h5⟩ := this q hq
    funext i
    simp [hz0, lw_u0, h1, h2, h3, h4, h5, nI]
  · decide
  · intro a h; exact absurd h (by show ¬ a < 0; omega)
  · intro a h; exact absurd h (by show ¬ a < 0; omega)
theorem lw_nil (D : va_G) (ad cK : Nat → Nat) (F : Nat → mv_C) (H : Heap) (A : Nat → Prop) : va_P D vwCl (mv_ws ad cK (0, 0, F)) H ∧ va_D A (mv_ws ad cK (0, 0, F)) := ⟨fun k q h => (by cases h), fun i j p q h => (by cases h), fun k q h => (by cases h)⟩
/-- from the entry to the loop -/
theorem lw_start0 {D : va_G} {ad adV cK : Nat → Nat} (X1 : LX1 p s m meth c D ad adV cK b) (had2 : ad 2000 = b) (kk : LV p l e s m below meth c D ad cK b 0 0 23 (LSt 0 none none) [] (mv_E hz0)) : W p l e room_1 s m #[Value.ref b] below meth c s.heap [] 0 0 (lw_Z below #[Value.ref b] s) (entryFrame m ([Value.ref b] : List Value).toArray 7) := by
  have hl := mv_entry ad [.ref 2000] 7 (by decide)
  have hm : ([Value.ref 2000].map (mv_cv ad)) = [Value.ref b] := by simp [mv_cv, had2]
  rw [hm] at hl
  rw [lg_entry_eq]
  have C := mv_closedL (l := l) (e := e) (below := below) (Q := lw_Z below #[Value.ref b] s) (S0 := mv_E hz0) X1
  have hV : mv_V p l e room_1 s m #[Value.ref b] below meth c (lw_Z below #[Value.ref b] s) D ad cK (fun q => s.heap.size ≤ q) 7 0 0 0 0 0 97 4667 0 [some (.ref 2000), none, none, none, none, none, none] [] (0, 0, mv_H hz0) := by
    refine mi_new C 8 rfl rfl rfl rfl ?_
    refine mv_dup C rfl rfl ?_
    refine lw_cI (as := []) (rest := [.ref 0]) (q := 0) X1 lk_15 (mv_dec ok_L_h (pc := 4) rfl 3 rfl rfl).1 (mv_up (n_init_10_0 (mv_H hz0) (fun k _ _ => rfl)) rfl) rfl (Nat.le_of_ble_eq_true rfl) (Nat.le_of_ble_eq_true rfl) (Nat.le_of_ble_eq_true rfl) (Nat.le_of_ble_eq_true rfl) (Nat.le_of_ble_eq_true rfl) ?_
    refine mi_fix (hv_same rfl) ?_
    refine mv_as_n1 C rfl rfl ?_
    refine mi_new C 39 rfl rfl rfl rfl ?_
    refine mv_dup C rfl rfl ?_
    refine lw_cI (as := []) (rest := [.ref 68]) (q := 68) X1 lk_18 (mv_dec ok_L_h (pc := 12) rfl 3 rfl rfl).1 (mv_up (n_init_11_68 (mv_H hz0) (fun k _ _ => rfl)) rfl) rfl (Nat.le_of_ble_eq_true rfl) (Nat.le_of_ble_eq_true rfl) (Nat.le_of_ble_eq_true rfl) (Nat.le_of_ble_eq_true rfl) (Nat.le_of_ble_eq_true rfl) ?_
    refine mi_fix (hv_same rfl) ?_
    refine mv_as_n2 C rfl rfl ?_
    refine mv_iconst C rfl ?_
    refine mi_new_long C 1 rfl rfl rfl rfl rfl ?_
    refine mi_fix (hv_same (show mv_H hz0 96 = _ from rfl)) ?_
    refine mv_as_n3 C rfl rfl ?_
    refine mv_iconst C rfl ?_
    refine mv_is4 C rfl rfl ?_
    intro H locs la hP hD hS hz hn hs hM hM2 hl
    exact kk H locs la hP hD hS hz (Nat.le_refl _) hs hM hM2 hl
  have := hV s.heap [] _ (lw_nil D ad cK _ s.heap (fun q => s.heap.size ≤ q)).1 (lw_nil D ad cK _ s.heap (fun q => s.heap.size ≤ q)).2 va_S.rf (fun _ => rfl) (Nat.le_refl _) (Nat.le_refl _) (Nat.zero_le _) (Nat.zero_le _) hl
  exact this
theorem whole_start1 (l : Launch) (hL : L ≤ 2048) (C0 : lw_At p s m meth c b L xs) (h32 : ∀ (D : va_G) (ad adV cK : Nat → Nat), ad 2000 = b → (∀ kx ks, kx ≤ 600 → ks ≤ 4000 → LX p s m meth c D ad adV cK b kx ks pL_h) → ∀ kx ks, kx ≤ 512 → ks ≤ 3072 → lw_C32 p l e s m below meth c D ad cK b L kx ks) : W p l e room_1 s m #[Value.ref b] below meth c s.heap [] 0 0 (lw_Z below #[Value.ref b] s) (entryFrame m ([Value.ref b] : List Value).toArray 7) := by
  obtain ⟨D, ad, adV, cK, had2, had, XX, X1⟩ := lw_ctx C0
  obtain ⟨hx, hb, hr, hml, hown, hts, hX, hbl, hlocks, hgv⟩ := C0
  refine lw_start0 X1 had2 ?_
  exact lw_loop XX hX hbl had2 hL hr hlocks (h32 D ad adV cK had2 XX) 512 0 0 0 (by omega) (Nat.zero_le _) (Nat.le_refl _) (Nat.le_refl _) lw_u0 hz0 none none lw_hI0 lw_rX0 lw_rM0
end
