section
abbrev wx_E : String := "java/util/NoSuchElementException"
abbrev wx_W : List Cond := wx_ws "HueAndCry" 224 wx_E "java/lang/RuntimeException" 13 prog_23_method_4_code ["java/lang/Exception"]
def wx_ng : List Cond := [.declares (Bundle.initS "java/lang/RuntimeException"), .declares (Bundle.initS "java/lang/Exception"), .declares (Bundle.initS Bundle.tN), .castable wx_E wx_E]
theorem wx_in : (wx_W.filter vx_no).all (fun w => decide (w ∈ mv_TB) || decide (w ∈ wx_ng)) = true := by decide +kernel
theorem wx_otA : (Cond.classLink "HueAndCry" 220 wx_E :: Cond.initialized wx_E :: wx_W.filter vx_no).all vx_ot = true := by decide +kernel
theorem wx_ngT : wx_ng.all (fun w => w.onTables) = true := by decide
theorem wx_warm {s U : State} (hW : s.WarmedH U.vm) : ∀ w ∈ wx_ng, va_Nw w s → va_Nw w U := by
  intro w hw
  simp only [wx_ng, List.mem_cons, List.not_mem_nil, or_false] at hw
  rcases hw with rfl | rfl | rfl | rfl
  · exact va_Nw.warmD hW
  · exact va_Nw.warmD hW
  · exact va_Nw.warmD hW
  · exact va_Nw.warmC hW
theorem wx_mem {w : Cond} (hw : w ∈ wx_W.filter vx_no) {args : Array Value} {s : State} (hts : ∀ w ∈ mv_TB, w.before args s = true) (hng : ∀ w ∈ wx_ng, va_Nw w s) : w.before args s = true := by
  have h := List.all_eq_true.mp wx_in w hw
  simp only [Bool.or_eq_true, decide_eq_true_eq] at h
  rcases h with h | h
  · exact hts w h
  · exact va_any (List.all_eq_true.mp wx_ngT w h) (hng w h)
def wx_S (A : Nat → Prop) (sa : Nat) (s : State) (H : Heap) : Prop := (∀ w ∈ wx_ng, va_Nw w s) ∧ vx_Zq Bundle.tN "UNASSIGNED_STACK" Bundle.steD A s H ∧ vx_Zq Bundle.tN "SUPPRESSED_SENTINEL" Bundle.listD A s H ∧ vk_R "HueAndCry" 222 "no such number in the row" sa s
theorem wx_S_call {A B : Nat → Prop} {sa : Nat} {s U : State} {H : Heap} {locs : List Loc} (hW : s.WarmedH U.vm) (hU : U.heap = H) (hS : va_S A s.heap H locs) (hB : ∀ q, B q → A q) (h : wx_S A sa s s.heap) : wx_S B sa U U.heap := by
  rw [hU]
  exact ⟨fun w hw => wx_warm hW w hw (h.1 w hw), ((h.2.1.kept hS.2.1).moved hW.alike).narrow hB, ((h.2.2.1.kept hS.2.1).moved hW.alike).narrow hB, h.2.2.2.warm hW⟩
def wr_B (D : va_G) (ad adV cK : Nat → Nat) (sz : Nat) (z : mv_Z) (sa : Nat) : State → Prop := fun U => U.heap.size = sz ∧ va_P D vwCl (mv_ws ad cK (mv_E z)) U.heap ∧ va_K D vwCl (mv_tys cK) U ∧ va_D (fun _ => True) (mv_ws ad cK (mv_E z)) ∧ (∀ w ∈ mv_NB, va_Nw w U) ∧ va_AO "HueAndCry$Act" U ∧ mv_T ad adV (va_A (mv_ws ad cK (mv_E z)) sz) U U.heap ∧ wx_S (va_A (mv_ws ad cK (mv_E z)) sz) sa U U.heap
theorem wr_blind {D : va_G} {ad adV cK : Nat → Nat} {sz sa : Nat} {z : mv_Z} {av : List Value} : FrameBlind (va_Pc av (wr_B D ad adV cK sz z sa)) := by
  intro a U g mk q
  obtain ⟨q0, q1, qP, qK, qD, qN, qA, qT, x1, x2, x3, x4⟩ := q
  exact ⟨q0, q1, qP, va_K.moved (u := U) (U := U.calling g mk a) (Vm.Alike.refl U.vm) qK, qD, fun w hw => mv_Nw_same (u := U) (U := U.calling g mk a) (mv_NB_is hw) rfl (qN w hw), va_AO.moved (u := U) (U := U.calling g mk a) (Vm.Alike.refl U.vm) qA, ⟨qT.1.moved (u := U) (U := U.calling g mk a) (Vm.Alike.refl U.vm), fun j hj => vk_R.same (u := U) (U := U.calling g mk a) rfl (qT.2.1 j hj), qT.2.2.moved (u := U) (U := U.calling g mk a) (Vm.Alike.refl U.vm)⟩, fun w hw => va_Nw.same (List.all_eq_true.mp wx_ngT w hw) (u := U) (U := U.calling g mk a) rfl (x1 w hw), vx_Zq.moved (u := U) (U := U.calling g mk a) (Vm.Alike.refl U.vm) x2, vx_Zq.moved (u := U) (U := U.calling g mk a) (Vm.Alike.refl U.vm) x3, vk_R.same (u := U) (U := U.calling g mk a) rfl x4⟩
theorem wr_at {D : va_G} {ad adV cK : Nat → Nat} {sa : Nat} {z : mv_Z} {A : Nat → Prop} {s : State} {H : Heap} {locs : List Loc} {av : List Value} (hN : ∀ w ∈ mv_NB, va_Nw w s) (hK : va_K D vwCl (mv_tys cK) s) (hA : ∀ q, s.heap.size ≤ q → A q) (hT : mv_T ad adV A s s.heap) (hAO : va_AO "HueAndCry$Act" s) (hX : wx_S A sa s s.heap) (hP : va_P D vwCl (mv_ws ad cK (mv_E z)) H) (hD : va_D A (mv_ws ad cK (mv_E z))) (hS : va_S A s.heap H locs) (U : State) (hU : U.heap = H) (hW : s.WarmedH U.vm) : va_Pc av (wr_B D ad adV cK H.size z sa) av.toArray U := by
  have hF : ∀ q, va_A (mv_ws ad cK (mv_E z)) H.size q → A q := by
    rintro q (⟨k, e, hk⟩ | hk)
    · exact hD.2 k _ hk
    · exact hA q (Nat.le_trans hS.1 hk)
  exact ⟨rfl, by rw [hU], by rw [hU]; exact hP, va_K.moved hW.alike hK, hD.weaken (fun _ _ _ _ => trivial), fun w hw => mv_Nw_warm (mv_NB_is hw) hW (hN w hw), va_AO.moved hW.alike hAO, mv_T_call hW hU hS hF hT, wx_S_call hW hU hS hF hX⟩
/-- its end -/
def wr_Q (D : va_G) (ad cK : Nat → Nat) (sz : Nat) (z : mv_Z) (r : Int32) (z1 : mv_Z) : Array Value → State → Outcome → State → Prop := fun _ st oc t => oc = .returned (some (.int r)) ∧ va_P D vwCl (mv_ws ad cK (mv_E z1)) t.heap ∧ va_D (va_A (mv_ws ad cK (mv_E z)) sz) (mv_ws ad cK (mv_E z1)) ∧ va_F (va_A (mv_ws ad cK (mv_E z)) sz) st t
def wr_X (D : va_G) (ad cK : Nat → Nat) (sz : Nat) (z : mv_Z) : String → State → State → Prop := fun E st t => E = wx_E ∧ va_P D vwCl (mv_ws ad cK (mv_E z)) t.heap ∧ va_F (va_A (mv_ws ad cK (mv_E z)) sz) st t
abbrev wr_rm : Room := { frames := 20, cells := 1, slots := 6, locals := 900 }
theorem wr_d15 : decode cX10_row 15 = .ok (.new 220, 3) := by decide +kernel
theorem wr_d18 : decode cX10_row 18 = .ok (.dup, 1) := by decide +kernel
theorem wr_d19 : decode cX10_row 19 = .ok (.ldc 222, 2) := by decide +kernel
theorem wr_d21 : decode cX10_row 21 = .ok (.invokespecial 224, 3) := by decide +kernel
theorem wr_d24 : decode cX10_row 24 = .ok (.athrow, 1) := by decide +kernel
theorem wr_c0 : Cond.classLink "HueAndCry" 220 wx_E ∈ mv_TB := by decide +kernel
theorem wr_c1 : Cond.initialized wx_E ∈ mv_TB := by decide +kernel
section
variable {p : Program} {l : Launch} {e : Env} {R : Room} {s : State} {m : MethodId} {args : Array Value} {below : List Frame} {meth : Method} {c : Code} {H : Heap} {locs : List Loc} {cells slots : Nat} {Qc : Array Value → State → Outcome → State → Prop} {XC : String → State → State → Prop} {free : Addr → Prop} {mc ms : Nat} {ls : Array Slot}
theorem wx_throwS (hexec : p.tables.exec = Jvm.exec) (hb : c.code = cX10_row) (hl : l.stackTraces = false) {sa : Nat} {A : Nat → Prop}
    (hown : s.vm.findClass "HueAndCry" = some m.cls) (hts : ∀ w ∈ mv_TB, w.before args s = true) (hX : wx_S A sa s s.heap) (hS : va_S A s.heap H locs) (hsize : ls.size = c.maxLocals)
    (hout : ∀ x ∈ c.exceptionTable.toList, False) (hRframes : 5 < R.frames) (hRlocals : 90 ≤ R.locals) (hRcells : cells + 1 ≤ R.cells) (hRslots : slots + 6 ≤ R.slots) (hlocks : meth.locks = false)
    (hx : ∀ t : State, s.vm.Alike t.vm → H.size ≤ t.heap.size → (∀ q : Nat, q < H.size → t.heap[q]? = H[q]?) → XC wx_E s t)
    (hf : ∀ z ∈ locs, free z.base) (hc : cells + 1 ≤ mc) (hs : slots + 6 ≤ ms) :
    W p l e R s m args below meth c H locs cells slots (vx_MQ below Qc XC args s mc ms free) (F0 m 15 ls []) := by
  obtain ⟨hng, hU, hN, hstr⟩ := hX
  intro T hT X
  have htr : e.platform.stackTraces = false := (show e.platform.stackTraces = l.stackTraces by rw [X.admits.platform]).trans hl
  have Y := vx_rebase X (R' := { frames := R.frames, locals := R.locals, cells := 1, slots := 6 }) (Nat.le_refl _) (Nat.le_refl _) hRcells hRslots
  obtain ⟨s1, hA⟩ : ∃ z, z = (T.setVm s.vm).setFrames (.invoking m args :: below) := ⟨_, rfl⟩
  rw [← hA] at Y
  have hvm : s1.vm = s.vm := by rw [hA]; rfl
  have hhp : s1.heap = H := by rw [hA]; exact hT
  have hW0 : s.WarmedH s1.vm := by rw [hvm]; exact State.WarmedH.refl s
  have hot := List.all_eq_true.mp wx_otA
  have hat1 : ∀ w ∈ wx_W.filter vx_no, w.before args s1 = true := fun w hw => vx_ot_at hW0 hvm.symm (hot w (List.mem_cons_of_mem _ (List.mem_cons_of_mem _ hw))) (wx_mem hw hts hng)
  have hk1 : (Cond.classLink "HueAndCry" 220 wx_E).before args s1 = true := vx_ot_at hW0 hvm.symm (hot _ List.mem_cons_self) (hts _ wr_c0)
  have hini1 : (Cond.initialized wx_E).before args s1 = true := vx_ot_at hW0 hvm.symm (hot _ (List.mem_cons_of_mem _ List.mem_cons_self)) (hts _ wr_c1)
  have hU1 : vx_Zq Bundle.tN "UNASSIGNED_STACK" Bundle.steD A s1 s1.heap := by rw [hhp]; exact vx_Zq.moved hW0.alike (hU.kept hS.2.1)
  have hN1 : vx_Zq Bundle.tN "SUPPRESSED_SENTINEL" Bundle.listD A s1 s1.heap := by rw [hhp]; exact vx_Zq.moved hW0.alike (hN.kept hS.2.1)
  have h : ∀ w ∈ wx_W, w.before args s1 = true := vx_own hat1 (vx_isRefq hU1.1) (vx_isRefq hN1.1) hU1.2.word hN1.2.word
  have hown1 : s1.vm.findClass "HueAndCry" = some m.cls := by rw [hvm]; exact hown
  have hins : (Cond.instantiable wx_E 6).before args s1 = true := h _ (by simp [wx_W, wx_ws])
  obtain ⟨vm1, cX, kX, hfX, hkX, -, -, X1, st1⟩ := Y.newCold hexec (own := "HueAndCry") (C := wx_E) (index := 220) (n := 6) hown1 hk1 hins hini1
    (g := F0 m 15 ls []) rfl (by rw [hb]; exact wr_d15) (Nat.le_refl _) (Nat.le_refl _)
  generalize hT1 : (T.setVm vm1).pushCell { cls := cX, slots := kX.instanceTypes.map defaultValue, vm := .none } = T1 at X1 st1
  have hcat : (Value.ref T.heap.size).category = 1 := rfl
  have hcellA : T1.heap[T.heap.size]? = some (freshCell cX kX) := by rw [← hT1]; exact State.heap_pushCell_size _ _
  have d3 : decode c.code 18 = .ok (.dup, 1) := by rw [hb]; exact wr_d18
  have d4 : decode c.code 19 = .ok (.ldc 222, 2) := by rw [hb]; exact wr_d19
  have hstr1 : vk_R "HueAndCry" 222 "no such number in the row" sa s1 := vk_R.warm hW0 hstr
  obtain ⟨U, hsteps, hrun, hend, hW, hsame, ce, hce, hcv, hcc⟩ := wx_ctor X1 hexec htr (own := "HueAndCry") (cls := wx_E) (Yn := "java/lang/RuntimeException") (names := ["java/lang/Exception"]) (ic := 224) (ix := 13) (by4 := prog_23_method_4_code) hown1 (by decide +kernel) (by decide +kernel) (by decide +kernel) (by decide +kernel) (by decide +kernel) (by decide +kernel) (by decide +kernel) h (fun x hx => nomatch hx) hfX hkX hcellA (by rw [hhp, hT]; exact Nat.le_refl _) (msg := .ref sa) rfl
    (g := { method := m, pc := 21, locals := ls, stack := .ref sa :: .ref T.heap.size :: .ref T.heap.size :: [], locked := none }) rfl hsize rfl rfl (rest := []) rfl
    (by rw [hb]; exact wr_d21) (by rw [hb]; exact wr_d24) (fun x hx => (hout x hx).elim) hRframes (by simp only [List.map_cons, List.map_nil, List.sum_cons, List.sum_nil, hcat, JFrame.monitorRoom, List.length_cons, List.length_nil]; show _ ≤ R.locals; simp; omega) hlocks
  obtain ⟨f1, f2⟩ := vx_frame hsame
  rw [hhp] at f1 f2
  have hWs : s.WarmedH U.vm := State.WarmedH.trans hW0 hW
  have hcl : s.vm.findClass wx_E = some ce.cls := by
    have h9 := hcc
    rw [hvm] at h9
    exact h9
  have hall : s.sameButNew ({ U with vm := s.vm } : State) locs mc ms := by
    subst hA
    obtain ⟨e1, e2⟩ := hsame
    rw [State.setFrames_setFrames] at e1
    have h2 : (T.setVm s.vm).sameButNew ({ U with vm := s.vm } : State) [] (0 + 1) (0 + 6) := ⟨e1, e2⟩
    have h3 := X.same.trans h2
    rw [List.append_nil] at h3
    exact h3.mono hc hs
  refine ⟨U, ?_, .threw T.heap.size, hrun, hend, Or.inr ⟨T.heap.size, rfl, wx_E, ce, locs, hx U hWs.alike f1 (fun q hq => f2 q hq (fun z hz => nomatch hz)), hce, hcv, hcl, hWs, hall, hf⟩⟩
  refine st1 _ ?_
  show Steps p.tables e below (T1.setTop { method := m, pc := 18, locals := ls, stack := .ref T.heap.size :: [], locked := none }) _
  jvm_step X1.here [X1.here.top, hexec, d3, Value.category]
  exact X1.ldcString hexec (own := "HueAndCry") (text := "no such number in the row") (index := 222) (a := sa) hown1 hstr1.1 hstr1.2
    (g := { method := m, pc := 19, locals := ls, stack := .ref T.heap.size :: .ref T.heap.size :: [], locked := none }) rfl d4 _ hsteps
end
def pR : List (Nat × mv_I) := [(0, .iload_n 1, 1, 0, 0, .null), (1, .ifCond .lt 14, 4, 15, 0, .null), (4, .iload_n 1, 5, 0, 0, .null), (5, .aload_n 0, 6, 0, 0, .null), (6, .getfield 57, 9, 10, 7, .ref 79), (9, .getfield 114, 12, 8, 1, .ref 89), (12, .if_icmp .lt 13, 15, 25, 0, .null), (25, .aload_n 0, 26, 0, 0, .null), (26, .getfield 57, 29, 10, 7, .ref 79), (29, .getfield 227, 32, 8, 0, .ref 94), (32, .iload_n 1, 33, 0, 0, .null), (33, .iaload, 34, 0, 0, .null), (34, .ireturn, 35, 0, 0, .null)]
theorem ok_R : mv_ok 10 false cX10_row pR = true := by decide +kernel
theorem wr_own : mv_own 10 = (mv_m 104).1.cls := (mv_pn (y := 104) (by decide)).2
theorem wr_in (l : Launch) (u : hM) (z : mv_Z) (k : Nat) (hk : k < u 30 0) (hi : hI u) (hz : rX u z) (D : va_G) (ad adV cK : Nat → Nat) (sz sa : Nat) : vx_Met l (mv_m 104).1 (mv_wy 104) wr_rm (va_Pc ([Value.ref 0, .int (nI k)].map (mv_cv ad)) (wr_B D ad adV cK sz z sa)) (wr_Q D ad cK sz z (nI (u 31 k)) z) (fun _ _ _ => False) 1 6 (va_A (mv_ws ad cK (mv_E z)) sz) := by
  refine vx_ofW (cc := cX10_row) (maxL := 2) (ret := some .int) (ws' := mv_TB) (mv_pn (y := 104) (by decide)).1 rfl ?_
  intro p e s m args below meth c s₁ B hml ht hv
  obtain ⟨hae, hsz, hP, hK, hD0, hN, hAO, hT, hX⟩ := hv
  subst hsz
  have hts : ∀ w ∈ mv_TB, w.before args s = true := fun w hw => atoms_spec (ws := mv_wy 104) B.pre w (List.mem_cons_of_mem _ hw)
  have hown : s.vm.findClass (mv_own 10) = some m.cls := by rw [wr_own]; exact findClass_of_methodNamed B.named
  have hD := hD0.self (sz := s.heap.size)
  have hA : ∀ q : Nat, s.heap.size ≤ q → va_A (mv_ws ad cK (mv_E z)) s.heap.size q := fun q h => Or.inr h
  have X : mv_Cx p wr_rm s m args meth c D ad adV cK (va_A (mv_ws ad cK (mv_E z)) s.heap.size) 10 false cX10_row pR 2 97 97 4667 0 0 97 4667 0 :=
    ⟨B.exec, B.bytes, hml, hown, hts, hN, hK, hA, ok_R, (fun k a1 a2 => absurd a2 (by omega)), (fun h => by cases h), hT, by decide, by decide, by decide, by decide, by decide, hAO⟩
  have C := mv_closedL (l := l) (e := e) (below := below) (Q := vx_MQ below (wr_Q D ad cK s.heap.size z (nI (u 31 k)) z) (fun _ _ _ => False) args s 1 6 (va_A (mv_ws ad cK (mv_E z)) s.heap.size)) (S0 := mv_E z) X
  have h48 : u 30 0 ≤ 48 := hi.2.2.2.2.2.2.2.2.2.2.2.2.2.2.2.2.2.2.2.2.1
  have hn := rX_s hz 66 1 30 (by decide)
  have h67 := hz.2.2.2.2.2.2.2 k hk
  have hV : mv_V p l e wr_rm s m args below meth c (vx_MQ below (wr_Q D ad cK s.heap.size z (nI (u 31 k)) z) (fun _ _ _ => False) args s 1 6 (va_A (mv_ws ad cK (mv_E z)) s.heap.size)) D ad cK (va_A (mv_ws ad cK (mv_E z)) s.heap.size) 2 97 97 4667 0 0 97 4667 0 [some (.ref 0), some (.int (nI k))] [] (mv_E z) := by
    refine mv_iload_n C rfl rfl ?_
    refine mv_if_lt C rfl (fun h => absurd h (nI_pos (by omega))) (fun _ => ?_)
    refine mv_iload_n C rfl rfl ?_
    refine mv_aload_n C rfl rfl ?_
    refine mv_getR C rfl rfl rfl ?_
    refine mv_getJ C rfl rfl rfl hn ?_
    refine mv_icmp_lt C rfl (fun _ => ?_) (fun h => absurd (nI_lt hk (by omega)) h)
    refine mv_aload_n C rfl rfl ?_
    refine mv_getR C rfl rfl rfl ?_
    refine mv_getR C rfl rfl rfl ?_
    refine mv_iload_n C rfl rfl ?_
    refine mv_aldJ C rfl rfl rfl (by omega) h67 ?_
    intro H locs la hP hD hS hz hn hs hM hM2 hl
    refine vx_ret (W.widen (k := 1) (n := 6) (show 97 - 97 + 0 ≤ 1 by omega) (show 4667 - 4667 + 0 ≤ 6 by omega) ?_)
    exact W.iret B.exec B.bytes B.returns (fun t ht hW => ⟨rfl, by rw [ht]; exact hP, hD, hS.F ht⟩) hS.2.2 (mv_dec ok_R (pc := 34) rfl 1 rfl rfl).1
  have hl := mv_entry ad [.ref 0, .int (nI k)] 2 (Nat.le_of_ble_eq_true rfl)
  rw [hae, lg_entry_eq]
  have := hV s.heap [] _ hP hD va_S.rf (fun _ => rfl) (Nat.le_refl _) (Nat.le_refl _) (Nat.le_refl _) (Nat.le_refl _) hl
  rw [show (mv_E z).1 - 97 + 0 = 0 by (show 97 - 97 + 0 = 0; omega), show (mv_E z).2.1 - 4667 + 0 = 0 by (show 4667 - 4667 + 0 = 0; omega), hae] at this
  exact this
theorem wr_out (l : Launch) (hst : l.stackTraces = false) (u : hM) (z : mv_Z) (x : Int32) (hx : ¬ (0 ≤ x ∧ x < nI (u 30 0))) (hi : hI u) (hz : rX u z) (D : va_G) (ad adV cK : Nat → Nat) (sz sa : Nat) : vx_Met l (mv_m 104).1 (mv_wy 104) wr_rm (va_Pc ([Value.ref 0, .int x].map (mv_cv ad)) (wr_B D ad adV cK sz z sa)) (fun _ _ _ _ => False) (wr_X D ad cK sz z) 1 6 (va_A (mv_ws ad cK (mv_E z)) sz) := by
  refine vx_ofW (cc := cX10_row) (maxL := 2) (ret := some .int) (ws' := mv_TB) (mv_pn (y := 104) (by decide)).1 rfl ?_
  intro p e s m args below meth c s₁ B hml ht hv
  obtain ⟨hae, hsz, hP, hK, hD0, hN, hAO, hT, hX⟩ := hv
  subst hsz
  have hts : ∀ w ∈ mv_TB, w.before args s = true := fun w hw => atoms_spec (ws := mv_wy 104) B.pre w (List.mem_cons_of_mem _ hw)
  have hown : s.vm.findClass (mv_own 10) = some m.cls := by rw [wr_own]; exact findClass_of_methodNamed B.named
  have hD := hD0.self (sz := s.heap.size)
  have hA : ∀ q : Nat, s.heap.size ≤ q → va_A (mv_ws ad cK (mv_E z)) s.heap.size q := fun q h => Or.inr h
  have X : mv_Cx p wr_rm s m args meth c D ad adV cK (va_A (mv_ws ad cK (mv_E z)) s.heap.size) 10 false cX10_row pR 2 97 97 4667 0 0 97 4667 0 :=
    ⟨B.exec, B.bytes, hml, hown, hts, hN, hK, hA, ok_R, (fun k a1 a2 => absurd a2 (by omega)), (fun h => by cases h), hT, by decide, by decide, by decide, by decide, by decide, hAO⟩
  have C := mv_closedL (l := l) (e := e) (below := below) (Q := vx_MQ below (fun _ _ _ _ => False) (wr_X D ad cK s.heap.size z) args s 1 6 (va_A (mv_ws ad cK (mv_E z)) s.heap.size)) (S0 := mv_E z) X
  have hn := rX_s hz 66 1 30 (by decide)
  have h15 : mv_V p l e wr_rm s m args below meth c (vx_MQ below (fun _ _ _ _ => False) (wr_X D ad cK s.heap.size z) args s 1 6 (va_A (mv_ws ad cK (mv_E z)) s.heap.size)) D ad cK (va_A (mv_ws ad cK (mv_E z)) s.heap.size) 2 97 97 4667 0 0 97 4667 15 [some (.ref 0), some (.int x)] [] (mv_E z) := by
    intro H locs la hP hD hS hz hn hs hM hM2 hl
    exact wx_throwS B.exec B.bytes hst (hown := hown) hts hX hS (hl.1.trans hml.symm) ht (by decide) (by decide) (show 97 - 97 + 0 + 1 ≤ 1 by omega) (show 4667 - 4667 + 0 + 6 ≤ 6 by omega) B.notSynchronized (fun t _ h1 h2 => ⟨rfl, hP.kept (fun k y hy => h2 y.1 ((hP k y hy).lt)), Nat.le_trans hS.1 h1, fun q g1 g2 => (h2 q (Nat.lt_of_lt_of_le g1 hS.1)).trans (hS.2.1 q g1 g2)⟩) hS.2.2 (show 97 - 97 + 0 + 1 ≤ 1 by omega) (show 4667 - 4667 + 0 + 6 ≤ 6 by omega)
  have hV : mv_V p l e wr_rm s m args below meth c (vx_MQ below (fun _ _ _ _ => False) (wr_X D ad cK s.heap.size z) args s 1 6 (va_A (mv_ws ad cK (mv_E z)) s.heap.size)) D ad cK (va_A (mv_ws ad cK (mv_E z)) s.heap.size) 2 97 97 4667 0 0 97 4667 0 [some (.ref 0), some (.int x)] [] (mv_E z) := by
    refine mv_iload_n C rfl rfl ?_
    refine mv_if_lt C rfl (fun _ => h15) (fun h0 => ?_)
    refine mv_iload_n C rfl rfl ?_
    refine mv_aload_n C rfl rfl ?_
    refine mv_getR C rfl rfl rfl ?_
    refine mv_getJ C rfl rfl rfl hn ?_
    refine mv_icmp_lt C rfl (fun h => absurd ⟨(by rw [i32_lt] at h0; rw [i32_le]; omega), h⟩ hx) (fun _ => h15)
  have hl := mv_entry ad [.ref 0, .int x] 2 (Nat.le_of_ble_eq_true rfl)
  rw [hae, lg_entry_eq]
  have := hV s.heap [] _ hP hD va_S.rf (fun _ => rfl) (Nat.le_refl _) (Nat.le_refl _) (Nat.le_refl _) (Nat.le_refl _) hl
  rw [show (mv_E z).1 - 97 + 0 = 0 by (show 97 - 97 + 0 = 0; omega), show (mv_E z).2.1 - 4667 + 0 = 0 by (show 4667 - 4667 + 0 = 0; omega), hae] at this
  exact this
end
