section
abbrev wl_hh : List (Nat × Nat × Nat × Nat) := [(0, 9, 12, 13)]
def wl_ws : List Cond := Cond.codeWith yL_row cL_row 4 (some .int) wl_hh :: mv_TB
abbrev wl_rm : Room := { frames := 40, cells := 1, slots := 6, locals := 2000 }
def pLr : List (Nat × mv_I) := [(0, .aload_n 2, 1, 0, 0, .null), (1, .iconst 0, 2, 0, 0, .int 0), (2, .aload_n 0, 3, 0, 0, .null), (3, .iload_n 1, 4, 0, 0, .null), (7, .i2l, 8, 0, 0, .null), (8, .lastore, 9, 0, 0, .null), (9, .goto 6, 12, 15, 0, .null), (13, .iconst 1, 14, 0, 0, .int 1), (14, .ireturn, 15, 0, 0, .null), (15, .iconst 0, 16, 0, 0, .int 0), (16, .ireturn, 17, 0, 0, .null)]
theorem ok_Lr : mv_ok 12 false cL_row pLr = true := by decide +kernel
theorem wl_d4 : decode cL_row 4 = .ok (.invokevirtual 7, 3) := by decide +kernel
theorem wl_d12 : decode cL_row 12 = .ok (.astore_n 3, 1) := by decide +kernel
theorem wl_d13 : decode cL_row 13 = .ok (.iconst 1, 1) := by decide +kernel
theorem wl_d14 : decode cL_row 14 = .ok (.ireturn, 1) := by decide +kernel
theorem wl_w1 : Cond.methodLink "HueAndCryLaw" 7 (mv_m 104).1 ∈ mv_TB := by decide +kernel
theorem wl_w2 : Cond.instanceMethod (mv_m 104).1 ∈ mv_TB := by decide +kernel
theorem wl_w3 : Cond.selects (mv_m 104).1.cls (mv_m 104).1 (mv_m 104).1 ∈ mv_TB := by decide +kernel
theorem wl_w4 : Cond.initialized (mv_m 104).1.cls ∈ mv_TB := by decide +kernel
theorem wl_w5 : Cond.classLink "HueAndCryLaw" 13 wx_E ∈ mv_TB := by decide +kernel
theorem wl_w6 : Cond.codeWith yL_row cL_row 4 (some .int) wl_hh ∈ mv_TB := by decide +kernel
theorem wl_k6 : (mv_m 104).1.cls ≠ "java/lang/invoke/MethodHandle" ∧ (mv_m 104).1.cls ≠ "java/lang/invoke/VarHandle" ∧ (parseMethodDescriptor (mv_m 104).1.desc).map (fun d => d.parameters.length) = some 1 := ⟨by decide +kernel, by decide +kernel, by decide +kernel⟩
theorem wl_v10 : ∃ T N, vwCl[10]? = some ((mv_m 104).1.cls, T, N) := ⟨_, _, rfl⟩
theorem wl_S {A B : Nat → Prop} {s T1 t st : State} {H : Heap} {locs L : List Loc} (hB : ∀ q, B q → A q) (hS : va_S A s.heap H locs) (h0 : st.heap = H) (e1 : T1.heap = t.heap) (hL : ∀ q ∈ L, B q.base) (hF : va_F B st t) : va_S A s.heap T1.heap (locs ++ L) := by
  obtain ⟨q4, q5⟩ := hF
  rw [h0] at q4 q5
  exact ⟨Nat.le_trans hS.1 (by rw [e1]; exact q4), fun q h1 h2 => by rw [e1, q5 q (Nat.lt_of_lt_of_le h1 hS.1) (fun z => h2 (hB q z))]; exact hS.2.1 q h1 h2, fun q hq => by
      rcases List.mem_append.mp hq with h | h
      · exact hS.2.2 q h
      · exact hB _ (hL q h)⟩
theorem wl_F {ad cK : Nat → Nat} {z : mv_Z} {A : Nat → Prop} {s : State} {H : Heap} {locs : List Loc} (hA : ∀ q, s.heap.size ≤ q → A q) (hD : va_D A (mv_ws ad cK (mv_E z))) (hS : va_S A s.heap H locs) : ∀ q, va_A (mv_ws ad cK (mv_E z)) H.size q → A q := by
  rintro q (⟨k, e, hk⟩ | hk)
  · exact hD.2 k _ hk
  · exact hA q (Nat.le_trans hS.1 hk)
theorem wl_in (l : Launch) (u : hM) (z : mv_Z) (k : Nat) (hk : k < u 30 0) (hi : hI u) (hz : rX u z) (D : va_G) (ad adV cK : Nat → Nat) (sz sa : Nat) : Met l yL_row wl_ws wl_rm (va_Pc ([Value.ref 0, .int (nI k), .ref 96].map (mv_cv ad)) (wr_B D ad adV cK sz z sa)) (wr_Q D ad cK sz z 0 (mv_uL z 96 0 (nI (u 31 k)).toInt64)) 1 6 (va_A (mv_ws ad cK (mv_E z)) sz) := by
  refine va_MetW (cc := cL_row) (maxL := 4) (ret := some .int) (hh := wl_hh) (ws' := mv_TB) (by decide +kernel) rfl ?_
  intro p e s m args below meth c s₁ B hml hv
  obtain ⟨hae, hsz, hP, hK, hD0, hN, hAO, hT, hX⟩ := hv
  subst hsz
  have hts0 : ∀ w ∈ wl_ws, w.before args s = true := atoms_spec (ws := wl_ws) B.pre
  have hts : ∀ w ∈ mv_TB, w.before args s = true := fun w hw => hts0 w (List.mem_cons_of_mem _ hw)
  have htab : c.exceptionTable.toList = [⟨0, 9, 12, 13⟩] := vx_table (x := yL_row) B (hts0 _ List.mem_cons_self)
  have hown : s.vm.findClass (mv_own 12) = some m.cls := findClass_of_methodNamed B.named
  have hx := B.exec
  have hb := B.bytes
  have hr := B.returns
  have hlocks := B.notSynchronized
  have hD := hD0.self (sz := s.heap.size)
  have hA : ∀ q : Nat, s.heap.size ≤ q → (va_A (mv_ws ad cK (mv_E z)) s.heap.size) q := fun q h => Or.inr h
  have X : mv_Cx p wl_rm s m args meth c D ad adV cK (va_A (mv_ws ad cK (mv_E z)) s.heap.size) 12 false cL_row pLr 4 97 97 4667 0 0 97 4667 0 :=
    ⟨hx, hb, hml, hown, hts, hN, hK, hA, ok_Lr, (fun k a1 a2 => absurd a2 (by omega)), (fun h => by cases h), hT, by decide, by decide, by decide, by decide, by decide, hAO⟩
  have C := mv_closedL (l := l) (e := e) (below := below) (Q := (MQ below (wr_Q D ad cK s.heap.size z 0 (mv_uL z 96 0 (nI (u 31 k)).toInt64)) args s 1 6 (va_A (mv_ws ad cK (mv_E z)) s.heap.size))) (S0 := mv_E z) X
  have X2 : mv_Cx p wl_rm s m args meth c D ad adV cK (va_A (mv_ws ad cK (mv_E z)) s.heap.size) 12 false cL_row pLr 4 97 97 4667 1 6 97 4667 0 :=
    ⟨hx, hb, hml, hown, hts, hN, hK, hA, ok_Lr, (fun k a1 a2 => absurd a2 (by omega)), (fun h => by cases h), hT, by decide, by decide, by decide, by decide, by decide, hAO⟩
  have C2 := mv_closedL (l := l) (e := e) (below := below) (Q := (MQ below (wr_Q D ad cK s.heap.size z 0 (mv_uL z 96 0 (nI (u 31 k)).toInt64)) args s 1 6 (va_A (mv_ws ad cK (mv_E z)) s.heap.size))) (S0 := mv_E z) X2
  have h7 : mv_V p l e wl_rm s m args below meth c (MQ below (wr_Q D ad cK s.heap.size z 0 (mv_uL z 96 0 (nI (u 31 k)).toInt64)) args s 1 6 (va_A (mv_ws ad cK (mv_E z)) s.heap.size)) D ad cK (va_A (mv_ws ad cK (mv_E z)) s.heap.size) 4 97 97 4667 1 6 97 4667 7 [some (.ref 0), some (.int (nI k)), some (.ref 96), none] [.int (nI (u 31 k)), .int 0, .ref 96] (mv_E z) := by
    refine mv_i2l C2 rfl ?_
    refine mv_lst (j := 0) C2 rfl rfl rfl (by decide) ?_
    refine mv_goto C2 rfl ?_
    refine mv_iconst C2 rfl ?_
    intro H locs la hP hD hS hz hn hs hM hM2 hl
    refine W.widen (k := 1) (n := 6) (show 97 - 97 + 1 ≤ 1 by omega) (show 4667 - 4667 + 6 ≤ 6 by omega) ?_
    exact W.iret hx hb hr (fun t ht hW => ⟨rfl, by rw [ht]; exact hP, hD, hS.F ht⟩) hS.2.2 (mv_dec ok_Lr (pc := 16) rfl 1 rfl rfl).1
  have hV : mv_V p l e wl_rm s m args below meth c (MQ below (wr_Q D ad cK s.heap.size z 0 (mv_uL z 96 0 (nI (u 31 k)).toInt64)) args s 1 6 (va_A (mv_ws ad cK (mv_E z)) s.heap.size)) D ad cK (va_A (mv_ws ad cK (mv_E z)) s.heap.size) 4 97 97 4667 0 0 97 4667 0 [some (.ref 0), some (.int (nI k)), some (.ref 96), none] [] (mv_E z) := by
    refine mv_aload_n C rfl rfl ?_
    refine mv_iconst C rfl ?_
    refine mv_aload_n C rfl rfl ?_
    refine mv_iload_n C rfl rfl ?_
    intro H locs la hP hD hS hz0 hn hs hM hM2 hl
    have hF := wl_F hA hD hS
    have hpc := fun U hU hW => wr_at (av := [Value.ref 0, .int (nI k)].map (mv_cv ad)) hN hK hA hT hAO hX hP hD hS U hU hW
    obtain ⟨T9, N9, hv9⟩ := wl_v10
    have he : (mv_ws ad cK (mv_E z))[0]? = some (ad 0, .inr (10, _)) := mv_he (S := mv_E z) (q := 0) (show 0 < 97 by decide) rfl
    have hrcv : ∃ cellB : Cell, H[ad 0]? = some cellB ∧ cellB.vm.isStatics = false ∧ s.vm.findClass (mv_m 104).1.cls = some cellB.cls := va_recv hK hP hv9 he
    rw [show (mv_E z).1 - 97 + 0 = 0 by (show 97 - 97 + 0 = 0; omega), show (mv_E z).2.1 - 4667 + 0 = 0 by (show 4667 - 4667 + 0 = 0; omega)]
    have run := vx_runV (R := wl_rm) (l := l) (e := e) (below := below) (meth := meth) (locs := locs) (cells := 0) (slots := 0) (C := (mv_m 104).1.cls) (b := ad 0) (As := [.int (nI k)]) (rest := [.int 0, .ref (ad 96)]) (g := F0 m 4 la [.int (nI k), .ref (ad 0), .int 0, .ref (ad 96)]) ⟨hx, hb, hml, hown, hts⟩ (wr_in l u z k hk hi hz D ad adV cK H.size sa) ⟨callB_of 1 hts (mv_good 104 (by decide)) rfl rfl rfl (hts _ wl_w4) (hts _ wl_w1) wl_k6 ⟨by decide, by decide⟩, hts _ wl_w2, hts _ wl_w3⟩ ⟨wr_blind, hrcv, hpc⟩ rfl rfl hl.1 rfl (Nat.le_of_ble_eq_true rfl) wl_d4 ⟨Nat.le_refl 1, Nat.le_refl 6⟩
    intro T hT XT
    rcases run T hT XT with ⟨v, st₀, t, T', L, h0, X', hL, e1, e2, hq, st⟩ | ⟨q, st₀, t, T', L, E, ce, h0, X', hL, e1, e2, hxc, hce, hcv, hcl, st⟩
    · obtain ⟨hvv, q1, q2, q4⟩ := hq
      simp only [Outcome.returned.injEq] at hvv
      subst hvv
      have hw := h7 T'.heap (locs ++ L) la (by rw [e1]; exact q1) hD (wl_S hF hS h0 e1 hL q4) (fun h => by cases h) (Nat.le_refl _) (Nat.le_refl _) (Nat.le_refl _) (Nat.le_refl _) hl
      rw [show (mv_E z).1 - 97 + 1 = 1 by (show 97 - 97 + 1 = 1; omega), show (mv_E z).2.1 - 4667 + 6 = 6 by (show 4667 - 4667 + 6 = 6; omega)] at hw
      obtain ⟨t2, a1, b1⟩ := hw T' rfl X'
      exact ⟨t2, st t2 a1, b1⟩
    · exact hxc.elim
  have hl := mv_entry ad [.ref 0, .int (nI k), .ref 96] 4 (Nat.le_of_ble_eq_true rfl)
  rw [hae, lg_entry_eq]
  have := hV s.heap [] _ hP hD va_S.rf (fun _ => rfl) (Nat.le_refl _) (Nat.le_refl _) (Nat.le_refl _) (Nat.le_refl _) hl
  rw [show (mv_E z).1 - 97 + 0 = 0 by (show 97 - 97 + 0 = 0; omega), show (mv_E z).2.1 - 4667 + 0 = 0 by (show 4667 - 4667 + 0 = 0; omega), hae] at this
  exact this
theorem wl_out (l : Launch) (u : hM) (z : mv_Z) (hst : l.stackTraces = false) (x : Int32) (hx0 : ¬ (0 ≤ x ∧ x < nI (u 30 0))) (hi : hI u) (hz : rX u z) (D : va_G) (ad adV cK : Nat → Nat) (sz sa : Nat) : Met l yL_row wl_ws wl_rm (va_Pc ([Value.ref 0, .int x, .ref 96].map (mv_cv ad)) (wr_B D ad adV cK sz z sa)) (wr_Q D ad cK sz z 1 z) 1 6 (va_A (mv_ws ad cK (mv_E z)) sz) := by
  refine va_MetW (cc := cL_row) (maxL := 4) (ret := some .int) (hh := wl_hh) (ws' := mv_TB) (by decide +kernel) rfl ?_
  intro p e s m args below meth c s₁ B hml hv
  obtain ⟨hae, hsz, hP, hK, hD0, hN, hAO, hT, hX⟩ := hv
  subst hsz
  have hts0 : ∀ w ∈ wl_ws, w.before args s = true := atoms_spec (ws := wl_ws) B.pre
  have hts : ∀ w ∈ mv_TB, w.before args s = true := fun w hw => hts0 w (List.mem_cons_of_mem _ hw)
  have htab : c.exceptionTable.toList = [⟨0, 9, 12, 13⟩] := vx_table (x := yL_row) B (hts0 _ List.mem_cons_self)
  have hown : s.vm.findClass (mv_own 12) = some m.cls := findClass_of_methodNamed B.named
  have hx := B.exec
  have hb := B.bytes
  have hr := B.returns
  have hlocks := B.notSynchronized
  have hD := hD0.self (sz := s.heap.size)
  have hA : ∀ q : Nat, s.heap.size ≤ q → (va_A (mv_ws ad cK (mv_E z)) s.heap.size) q := fun q h => Or.inr h
  have X : mv_Cx p wl_rm s m args meth c D ad adV cK (va_A (mv_ws ad cK (mv_E z)) s.heap.size) 12 false cL_row pLr 4 97 97 4667 0 0 97 4667 0 :=
    ⟨hx, hb, hml, hown, hts, hN, hK, hA, ok_Lr, (fun k a1 a2 => absurd a2 (by omega)), (fun h => by cases h), hT, by decide, by decide, by decide, by decide, by decide, hAO⟩
  have C := mv_closedL (l := l) (e := e) (below := below) (Q := (MQ below (wr_Q D ad cK s.heap.size z 1 z) args s 1 6 (va_A (mv_ws ad cK (mv_E z)) s.heap.size))) (S0 := mv_E z) X
  have hV : mv_V p l e wl_rm s m args below meth c (MQ below (wr_Q D ad cK s.heap.size z 1 z) args s 1 6 (va_A (mv_ws ad cK (mv_E z)) s.heap.size)) D ad cK (va_A (mv_ws ad cK (mv_E z)) s.heap.size) 4 97 97 4667 0 0 97 4667 0 [some (.ref 0), some (.int x), some (.ref 96), none] [] (mv_E z) := by
    refine mv_aload_n C rfl rfl ?_
    refine mv_iconst C rfl ?_
    refine mv_aload_n C rfl rfl ?_
    refine mv_iload_n C rfl rfl ?_
    intro H locs la hP hD hS hz0 hn hs hM hM2 hl
    have hF := wl_F hA hD hS
    have hpc := fun U hU hW => wr_at (av := [Value.ref 0, .int x].map (mv_cv ad)) hN hK hA hT hAO hX hP hD hS U hU hW
    obtain ⟨T9, N9, hv9⟩ := wl_v10
    have he : (mv_ws ad cK (mv_E z))[0]? = some (ad 0, .inr (10, _)) := mv_he (S := mv_E z) (q := 0) (show 0 < 97 by decide) rfl
    have hrcv : ∃ cellB : Cell, H[ad 0]? = some cellB ∧ cellB.vm.isStatics = false ∧ s.vm.findClass (mv_m 104).1.cls = some cellB.cls := va_recv hK hP hv9 he
    rw [show (mv_E z).1 - 97 + 0 = 0 by (show 97 - 97 + 0 = 0; omega), show (mv_E z).2.1 - 4667 + 0 = 0 by (show 4667 - 4667 + 0 = 0; omega)]
    have run := vx_runV (R := wl_rm) (l := l) (e := e) (below := below) (meth := meth) (locs := locs) (cells := 0) (slots := 0) (C := (mv_m 104).1.cls) (b := ad 0) (As := [.int x]) (rest := [.int 0, .ref (ad 96)]) (g := F0 m 4 la [.int x, .ref (ad 0), .int 0, .ref (ad 96)]) ⟨hx, hb, hml, hown, hts⟩ (wr_out l hst u z x hx0 hi hz D ad adV cK H.size sa) ⟨callB_of 1 hts (mv_good 104 (by decide)) rfl rfl rfl (hts _ wl_w4) (hts _ wl_w1) wl_k6 ⟨by decide, by decide⟩, hts _ wl_w2, hts _ wl_w3⟩ ⟨wr_blind, hrcv, hpc⟩ rfl rfl hl.1 rfl (Nat.le_of_ble_eq_true rfl) wl_d4 ⟨Nat.le_refl 1, Nat.le_refl 6⟩
    intro T hT XT
    rcases run T hT XT with ⟨v, st₀, t, T', L, h0, X', hL, e1, e2, hq, st⟩ | ⟨q, st₀, t, T', L, E, ce, h0, X', hL, e1, e2, hxc, hce, hcv, hcl, st⟩
    · exact hq.elim
    · obtain ⟨rfl, q1, q4⟩ := hxc
      have hS1 := wl_S hF hS h0 e1 hL q4
      have hca : (Cond.castable wx_E wx_E).before args s = true := va_any (A := #[]) rfl (hX.1 (.castable wx_E wx_E) (by simp [wx_ng]))
      have hcat := wx_catch (p := p) (l := l) (e := e) (R := wl_rm) (below := below) (meth := meth) (H := T'.heap) (locs := locs ++ L) (cells := 1) (slots := 6) (Q := (MQ below (wr_Q D ad cK s.heap.size z 1 z) args s 1 6 (va_A (mv_ws ad cK (mv_E z)) s.heap.size))) (pc := 4) (ls := la) (rest := [.int 0, .ref (ad 96)]) (own := "HueAndCryLaw") (name := wx_E) (E := wx_E) (ce := ce) (q := q) hown ⟨0, 9, 12, 13⟩ [] htab rfl (by decide) (hts _ wl_w5) hca (by rw [e1]; exact hce) hcv hcl
        (lv_astore_n hx hb wl_d12 rfl hl.lv (by decide) rfl (fun la1 hl1 => lv_iconst hx hb wl_d13 (v := 1) rfl (W.iret hx hb hr (fun t ht hW => ⟨rfl, by rw [ht, e1]; exact q1, hD, hS1.F ht⟩) hS1.2.2 wl_d14)))
      obtain ⟨t2, a1, b1⟩ := hcat T' rfl X'
      exact ⟨t2, st.trans a1, b1⟩
  have hl := mv_entry ad [.ref 0, .int x, .ref 96] 4 (Nat.le_of_ble_eq_true rfl)
  rw [hae, lg_entry_eq]
  have := hV s.heap [] _ hP hD va_S.rf (fun _ => rfl) (Nat.le_refl _) (Nat.le_refl _) (Nat.le_refl _) (Nat.le_refl _) hl
  rw [show (mv_E z).1 - 97 + 0 = 0 by (show 97 - 97 + 0 = 0; omega), show (mv_E z).2.1 - 4667 + 0 = 0 by (show 4667 - 4667 + 0 = 0; omega), hae] at this
  exact this
end
