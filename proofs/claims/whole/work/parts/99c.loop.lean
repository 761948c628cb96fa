section
variable {p : Program} {l : Launch} {e : Env} {s : State} {m : MethodId} {below : List Frame} {meth : Method} {c : Code} {D : va_G} {ad adV cK : Nat → Nat} {b L kx ks : Nat} {xs : Nat → Int32} {P0 : List (Nat × mv_I)}
theorem lw_and63 (x : Int32) : ∃ k, k < 64 ∧ x &&& 63 = nI k := ⟨x.toBitVec.toNat % 64, Nat.mod_lt _ (by decide), pk_and x 6 (by decide)⟩
theorem lw_sub4 {L : Nat} (h : L ≤ 2048) : (nI L - 4).toInt = (L : Int) - 4 := by
  by_cases h4 : 4 ≤ L
  · obtain ⟨k, rfl⟩ : ∃ k, L = k + 4 := ⟨L - 4, by omega⟩
    rw [show nI (k + 4) - 4 = nI k by rw [← nI_add k 4]; show nI k + 4 - 4 = nI k; exact Int32.add_sub_cancel _ _, nI_toInt (by omega)]; omega
  · have : L = 0 ∨ L = 1 ∨ L = 2 ∨ L = 3 := by omega
    rcases this with rfl | rfl | rfl | rfl <;> decide
abbrev lw_C32 (p : Program) (l : Launch) (e : Env) (s : State) (m : MethodId) (below : List Frame) (meth : Method) (c : Code) (D : va_G) (ad cK : Nat → Nat) (b L : Nat) (kx ks : Nat) : Prop := ∀ (i : Nat) (u : hM) (z : mv_Z) (w5 w6 : Option Value), i + 4 ≤ L → hI u → rX u z → rM u z → (∀ kx1 ks1, kx1 ≤ kx + 1 → ks1 ≤ ks + 6 → ∀ u z, hI u → rX u z → rM u z → ∀ w5 w6 : Option Value, LV p l e s m below meth c D ad cK b kx1 ks1 1269 (LSt i w5 w6) [] (mv_E z)) → LV p l e s m below meth c D ad cK b kx ks 1213 (LSt i w5 w6) [] (mv_E z)
theorem lw_exit (X : LX p s m meth c D ad adV cK b kx ks P0) (hr : meth.sig.returnType = ret) (hlocks : meth.locks = false) (hkx : kx ≤ 600) (hks : ks ≤ 4000) (ls : mv_L) (z : mv_Z) : LV p l e s m below meth c D ad cK b kx ks 1275 ls [] (mv_E z) := by
  have Xk := mv_Cx_P X ok_L_t
  have C := mv_closedL (l := l) (e := e) (below := below) (Q := lw_Z below #[Value.ref b] s) (S0 := mv_E z) Xk
  refine mv_iconst C rfl ?_
  intro H locs la hP hD hS hz hn hs hM hM2 hl
  refine va_forget (fun q hq => hS.2.2 q hq) ?_
  refine W.widen (k := 601024) (n := 7293034) (show 97 - 0 + kx ≤ 601024 by omega) (show 4667 - 0 + ks ≤ 7293034 by omega) ?_
  exact lw_ret X.1 X.2.1 hr hlocks (mv_dec ok_L_t (pc := 1276) rfl 1 rfl rfl).1
theorem lw_tail (X : LX p s m meth c D ad adV cK b kx ks P0) (i : Nat) (z : mv_Z) (w5 w6 : Option Value) (kk : LV p l e s m below meth c D ad cK b kx ks 23 (LSt (i + 4) w5 w6) [] (mv_E z)) : LV p l e s m below meth c D ad cK b kx ks 1269 (LSt i w5 w6) [] (mv_E z) := by
  have Xk := mv_Cx_P X ok_L_t
  have C := mv_closedL (l := l) (e := e) (below := below) (Q := lw_Z below #[Value.ref b] s) (S0 := mv_E z) Xk
  refine mv_inc4 C rfl rfl ?_
  refine mv_goto C rfl ?_
  rw [show nI i + 4 = nI (i + 4) from nI_add i 4]
  exact kk
theorem lw_body (X : LX p s m meth c D ad adV cK b kx ks P0) (hX : va_X b L xs s s.heap) (hbl : b < s.heap.size) (had2 : ad 2000 = b) (hL : L ≤ 2048) (h32 : lw_C32 p l e s m below meth c D ad cK b L kx ks) (i : Nat) (hi4 : i + 4 ≤ L) (u : hM) (z : mv_Z) (hi : hI u) (hrx : rX u z) (hrm : rM u z) (w5 w6 : Option Value) (next : ∀ kx1 ks1, kx1 ≤ kx + 1 → ks1 ≤ ks + 6 → ∀ u z, hI u → rX u z → rM u z → ∀ w5 w6 : Option Value, LV p l e s m below meth c D ad cK b kx1 ks1 1269 (LSt i w5 w6) [] (mv_E z)) : LV p l e s m below meth c D ad cK b kx ks 32 (LSt i w5 w6) [] (mv_E z) := by
  have Xk := mv_Cx_P X ok_L_h
  have C := mv_closedL (l := l) (e := e) (below := below) (Q := lw_Z below #[Value.ref b] s) (S0 := mv_E z) Xk
  have hbA : ¬ s.heap.size ≤ b := Nat.not_le.mpr hbl
  have nx := next kx ks (by omega) (by omega)
  refine mv_aload_n C rfl rfl ?_
  refine mv_iload C rfl rfl ?_
  refine lw_sld Xk hX hbl hbA had2 (mv_dec ok_L_h (pc := 35) rfl 1 rfl rfl).1 rfl (by omega) (by omega) ?_
  refine mv_bipush C rfl ?_
  refine mv_iand C rfl ?_
  obtain ⟨k, hk, hke⟩ := lw_and63 (xs i)
  rw [hke]
  by_cases h33 : 33 ≤ k
  · exact mv_tsw_out C rfl (Or.inr (by rw [nI_toInt (by omega)]; omega)) (t := 1269) rfl (nx u z hi hrx hrm w5 w6)
  · have hc : k = 0 ∨ k = 1 ∨ k = 2 ∨ k = 3 ∨ k = 4 ∨ k = 5 ∨ k = 6 ∨ k = 7 ∨ k = 8 ∨ k = 9 ∨ k = 10 ∨ k = 11 ∨ k = 12 ∨ k = 13 ∨ k = 14 ∨ k = 15 ∨ k = 16 ∨ k = 17 ∨ k = 18 ∨ k = 19 ∨ k = 20 ∨ k = 21 ∨ k = 22 ∨ k = 23 ∨ k = 24 ∨ k = 25 ∨ k = 26 ∨ k = 27 ∨ k = 28 ∨ k = 29 ∨ k = 30 ∨ k = 31 ∨ k = 32 := by omega
    rcases hc with rfl | rfl | rfl | rfl | rfl | rfl | rfl | rfl | rfl | rfl | rfl | rfl | rfl | rfl | rfl | rfl | rfl | rfl | rfl | rfl | rfl | rfl | rfl | rfl | rfl | rfl | rfl | rfl | rfl | rfl | rfl | rfl | rfl
    · exact mv_tsw_in C rfl (by decide) (by decide) (o := 145) (t := 184) rfl rfl (lc_0 X hX hbl had2 hL i hi4 u z hi hrx hrm w5 w6 nx)
    · exact mv_tsw_in C rfl (by decide) (by decide) (o := 170) (t := 209) rfl rfl (lc_1 X hX hbl had2 hL i hi4 u z hi hrx hrm w5 w6 nx)
    · exact mv_tsw_in C rfl (by decide) (by decide) (o := 219) (t := 258) rfl rfl (lc_2 X hX hbl had2 hL i hi4 u z hi hrx hrm w5 w6 nx)
    · exact mv_tsw_in C rfl (by decide) (by decide) (o := 272) (t := 311) rfl rfl (lc_3 X hX hbl had2 hL i hi4 u z hi hrx hrm w5 w6 nx)
    · exact mv_tsw_in C rfl (by decide) (by decide) (o := 325) (t := 364) rfl rfl (lc_4 X hX hbl had2 hL i hi4 u z hi hrx hrm w5 w6 nx)
    · exact mv_tsw_in C rfl (by decide) (by decide) (o := 350) (t := 389) rfl rfl (lc_5 X hX hbl had2 hL i hi4 u z hi hrx hrm w5 w6 nx)
    · exact mv_tsw_in C rfl (by decide) (by decide) (o := 375) (t := 414) rfl rfl (lc_6 X hX hbl had2 hL i hi4 u z hi hrx hrm w5 w6 nx)
    · exact mv_tsw_in C rfl (by decide) (by decide) (o := 412) (t := 451) rfl rfl (lc_7 X hX hbl had2 hL i hi4 u z hi hrx hrm w5 w6 nx)
    · exact mv_tsw_in C rfl (by decide) (by decide) (o := 449) (t := 488) rfl rfl (lc_8 X hX hbl had2 hL i hi4 u z hi hrx hrm w5 w6 nx)
    · exact mv_tsw_in C rfl (by decide) (by decide) (o := 486) (t := 525) rfl rfl (lc_9 X hX hbl had2 hL i hi4 u z hi hrx hrm w5 w6 nx)
    · exact mv_tsw_in C rfl (by decide) (by decide) (o := 523) (t := 562) rfl rfl (lc_10 X hX hbl had2 hL i hi4 u z hi hrx hrm w5 w6 nx)
    · exact mv_tsw_in C rfl (by decide) (by decide) (o := 576) (t := 615) rfl rfl (lc_11 X hX hbl had2 hL i hi4 u z hi hrx hrm w5 w6 nx)
    · exact mv_tsw_in C rfl (by decide) (by decide) (o := 613) (t := 652) rfl rfl (lc_12 X hX hbl had2 hL i hi4 u z hi hrx hrm w5 w6 nx)
    · exact mv_tsw_in C rfl (by decide) (by decide) (o := 650) (t := 689) rfl rfl (lc_13 X hX hbl had2 hL i hi4 u z hi hrx hrm w5 w6 nx)
    · exact mv_tsw_in C rfl (by decide) (by decide) (o := 687) (t := 726) rfl rfl (lc_14 X hX hbl had2 hL i hi4 u z hi hrx hrm w5 w6 nx)
    · exact mv_tsw_in C rfl (by decide) (by decide) (o := 712) (t := 751) rfl rfl (lc_15 X hX hbl had2 hL i hi4 u z hi hrx hrm w5 w6 nx)
    · exact mv_tsw_in C rfl (by decide) (by decide) (o := 749) (t := 788) rfl rfl (lc_16 X hX hbl had2 hL i hi4 u z hi hrx hrm w5 w6 nx)
    · exact mv_tsw_in C rfl (by decide) (by decide) (o := 763) (t := 802) rfl rfl (lc_17 X hX hbl had2 hL i hi4 u z hi hrx hrm w5 w6 nx)
    · exact mv_tsw_in C rfl (by decide) (by decide) (o := 800) (t := 839) rfl rfl (lc_18 X hX hbl had2 hL i hi4 u z hi hrx hrm w5 w6 nx)
    · exact mv_tsw_in C rfl (by decide) (by decide) (o := 849) (t := 888) rfl rfl (lc_19 X hX hbl had2 hL i hi4 u z hi hrx hrm w5 w6 nx)
    · exact mv_tsw_in C rfl (by decide) (by decide) (o := 874) (t := 913) rfl rfl (lc_20 X hX hbl had2 hL i hi4 u z hi hrx hrm w5 w6 nx)
    · exact mv_tsw_in C rfl (by decide) (by decide) (o := 923) (t := 962) rfl rfl (lc_21 X hX hbl had2 hL i hi4 u z hi hrx hrm w5 w6 nx)
    · exact mv_tsw_in C rfl (by decide) (by decide) (o := 948) (t := 987) rfl rfl (lc_22 X hX hbl had2 hL i hi4 u z hi hrx hrm w5 w6 nx)
    · exact mv_tsw_in C rfl (by decide) (by decide) (o := 973) (t := 1012) rfl rfl (lc_23 X hX hbl had2 hL i hi4 u z hi hrx hrm w5 w6 nx)
    · exact mv_tsw_in C rfl (by decide) (by decide) (o := 998) (t := 1037) rfl rfl (lc_24 X hX hbl had2 hL i hi4 u z hi hrx hrm w5 w6 nx)
    · exact mv_tsw_in C rfl (by decide) (by decide) (o := 1023) (t := 1062) rfl rfl (lc_25 X hX hbl had2 hL i hi4 u z hi hrx hrm w5 w6 nx)
    · exact mv_tsw_in C rfl (by decide) (by decide) (o := 1048) (t := 1087) rfl rfl (lc_26 X hX hbl had2 hL i hi4 u z hi hrx hrm w5 w6 nx)
    · exact mv_tsw_in C rfl (by decide) (by decide) (o := 1061) (t := 1100) rfl rfl (lc_27 X hX hbl had2 hL i hi4 u z hi hrx hrm w5 w6 nx)
    · exact mv_tsw_in C rfl (by decide) (by decide) (o := 1074) (t := 1113) rfl rfl (lc_28 X hX hbl had2 hL i hi4 u z hi hrx hrm w5 w6 nx)
    · exact mv_tsw_in C rfl (by decide) (by decide) (o := 1111) (t := 1150) rfl rfl (lc_29 X hX hbl had2 hL i hi4 u z hi hrx hrm w5 w6 nx)
    · exact mv_tsw_in C rfl (by decide) (by decide) (o := 1136) (t := 1175) rfl rfl (lc_30 X hX hbl had2 hL i hi4 u z hi hrx hrm w5 w6 nx)
    · exact mv_tsw_in C rfl (by decide) (by decide) (o := 1161) (t := 1200) rfl rfl (lc_31 X hX hbl had2 hL i hi4 u z hi hrx hrm w5 w6 nx)
    · exact mv_tsw_in C rfl (by decide) (by decide) (o := 1174) (t := 1213) rfl rfl (h32 i u z w5 w6 hi4 hi hrx hrm next)
theorem lw_loop (XX : ∀ kx ks, kx ≤ 600 → ks ≤ 4000 → LX p s m meth c D ad adV cK b kx ks P0) (hX : va_X b L xs s s.heap) (hbl : b < s.heap.size) (had2 : ad 2000 = b) (hL : L ≤ 2048) (hr : meth.sig.returnType = ret) (hlocks : meth.locks = false) (h32 : ∀ kx ks, kx ≤ 512 → ks ≤ 3072 → lw_C32 p l e s m below meth c D ad cK b L kx ks) : ∀ (n i kx ks : Nat), L < i + 4 * n + 4 → i ≤ L → 4 * kx ≤ i → 2 * ks ≤ 3 * i → ∀ (u : hM) (z : mv_Z) (w5 w6 : Option Value), hI u → rX u z → rM u z → LV p l e s m below meth c D ad cK b kx ks 23 (LSt i w5 w6) [] (mv_E z) := by
  intro n
  induction n with
  | zero =>
    intro i kx ks hn hiL h4 h3 u z w5 w6 hi hrx hrm
    have X := XX kx ks (by omega) (by omega)
    have Xk := mv_Cx_P X ok_L_h
    have C := mv_closedL (l := l) (e := e) (below := below) (Q := lw_Z below #[Value.ref b] s) (S0 := mv_E z) Xk
    have hbA : ¬ s.heap.size ≤ b := Nat.not_le.mpr hbl
    refine mv_iload C rfl rfl ?_
    refine mv_aload_n C rfl rfl ?_
    refine lw_slen Xk hX hbl hbA had2 (mv_dec ok_L_h (pc := 26) rfl 1 rfl rfl).1 ?_
    refine mv_iconst C rfl ?_
    refine mv_isub C rfl ?_
    refine mv_icmp_gt C rfl (fun _ => ?_) (fun h => ?_)
    · exact lw_exit X hr hlocks (by omega) (by omega) _ z
    · rw [Int32.lt_iff_toInt_lt, lw_sub4 hL, nI_toInt (by omega)] at h; omega
  | succ n ih =>
    intro i kx ks hn hiL h4 h3 u z w5 w6 hi hrx hrm
    have X := XX kx ks (by omega) (by omega)
    have Xk := mv_Cx_P X ok_L_h
    have C := mv_closedL (l := l) (e := e) (below := below) (Q := lw_Z below #[Value.ref b] s) (S0 := mv_E z) Xk
    have hbA : ¬ s.heap.size ≤ b := Nat.not_le.mpr hbl
    refine mv_iload C rfl rfl ?_
    refine mv_aload_n C rfl rfl ?_
    refine lw_slen Xk hX hbl hbA had2 (mv_dec ok_L_h (pc := 26) rfl 1 rfl rfl).1 ?_
    refine mv_iconst C rfl ?_
    refine mv_isub C rfl ?_
    refine mv_icmp_gt C rfl (fun _ => ?_) (fun h => ?_)
    · exact lw_exit X hr hlocks (by omega) (by omega) _ z
    · rw [Int32.lt_iff_toInt_lt, lw_sub4 hL, nI_toInt (by omega)] at h
      have hi4 : i + 4 ≤ L := by omega
      refine lw_body X hX hbl had2 hL (h32 kx ks (by omega) (by omega)) i hi4 u z hi hrx hrm w5 w6 (fun kx1 ks1 g1 g2 u1 z1 a1 a2 a3 v5 v6 => ?_)
      exact lw_tail (XX kx1 ks1 (by omega) (by omega)) i z1 v5 v6 (ih (i + 4) kx1 ks1 (by omega) (by omega) (by omega) (by omega) u1 z1 v5 v6 a1 a2 a3)
end
