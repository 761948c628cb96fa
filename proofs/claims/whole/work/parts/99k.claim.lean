section
variable {p : Program} {l : Launch} {e : Env} {s : State} {m : MethodId} {below : List Frame} {meth : Method} {c : Code} {D : va_G} {ad adV cK : Nat → Nat} {b L kx ks : Nat} {xs : Nat → Int32} {P0 : List (Nat × mv_I)}
theorem wl_w7 : Cond.methodLink "HueAndCryLaw" 154 yL_row ∈ mv_TB := by decide +kernel
theorem wl_w8 : Cond.static yL_row ∈ mv_TB := by decide +kernel
theorem wl_w9 : Cond.initialized yL_row.cls ∈ mv_TB := by decide +kernel
theorem wl_good : GoodIn mv_TB (va_wsS "HueAndCryLaw" 154 yL_row wl_ws) := by
  intro w hw
  have h1 : w ∈ mv_TB := by
    unfold va_wsS wl_ws at hw
    simp only [List.cons_append, List.nil_append, List.mem_cons] at hw
    rcases hw with rfl | rfl | rfl | rfl | h
    · exact wl_w7
    · exact wl_w8
    · exact wl_w9
    · exact wl_w6
    · exact h
  exact ⟨h1, good_of_word (List.mem_filter.mp h1).2⟩
theorem wl_k3 : yL_row.cls ≠ "java/lang/invoke/MethodHandle" ∧ yL_row.cls ≠ "java/lang/invoke/VarHandle" ∧ (parseMethodDescriptor yL_row.desc).map (fun d => d.parameters.length) = some 3 := ⟨by decide +kernel, by decide +kernel, by decide +kernel⟩
theorem lw_row (X : LX p s m meth c D ad adV cK b kx ks P0) {sa : Nat} (hE : wx_S (fun q => s.heap.size ≤ q) sa s s.heap) (hkx : kx ≤ 512) (hks : ks ≤ 3072) (x r : Int32) (z z1 : mv_Z) (hMt : ∀ sz, Met l yL_row wl_ws wl_rm (va_Pc ([Value.ref 0, .int x, .ref 96].map (mv_cv ad)) (wr_B D ad adV cK sz z sa)) (wr_Q D ad cK sz z r z1) 1 6 (va_A (mv_ws ad cK (mv_E z)) sz)) (ls : mv_L) (kk : LV p l e s m below meth c D ad cK b (kx + 1) (ks + 6) 1224 ls [.int r] (mv_E z1)) : LV p l e s m below meth c D ad cK b kx ks 1221 ls [.ref 96, .int x, .ref 0] (mv_E z) := by
  obtain ⟨hx, hb, hml, hown, hts, hN, hK, hA, hok, had, hin, hT, hRc, hRs, hRf, hRl, hnn, hAO⟩ := X
  intro H locs la hP hD hS hz hn hs hM1 hM2 hl
  have hF := wl_F hA hD hS
  have hpc := fun U hU hW => wr_at (av := [Value.ref 0, .int x, .ref 96].map (mv_cv ad)) hN hK hA hT hAO hE hP hD hS U hU hW
  rw [show (mv_E z).1 - 0 + kx = 97 + kx by (show 97 - 0 + kx = 97 + kx; omega), show (mv_E z).2.1 - 0 + ks = 4667 + ks by (show 4667 - 0 + ks = 4667 + ks; omega)]
  have run := vx_runSW (R := room_1) (l := l) (e := e) (below := below) (meth := meth) (locs := locs) (cells := 97 + kx) (slots := 4667 + ks) (As := [.ref (ad 0), .int x, .ref (ad 96)]) (rest := []) (g := F0 m 1221 la [.ref (ad 96), .int x, .ref (ad 0)]) ⟨hx, hb, hml, hown, hts⟩ (hMt H.size) (vx_cwSW 3 hts wl_good rfl rfl rfl wl_k3 ⟨by decide, by decide⟩) ⟨wr_blind, hpc⟩ rfl rfl hl.1 rfl (Nat.le_of_ble_eq_true rfl) (mv_dec ok_L_c32 (pc := 1221) rfl 3 rfl rfl).1 ⟨show 97 + kx + 1 ≤ 601024 by omega, show 4667 + ks + 6 ≤ 7293034 by omega⟩
  intro T hT XT
  obtain ⟨v, st₀, t, T', Ll, h0, X', hL, e1, e2, ⟨hvv, q1, q2, q4⟩, st⟩ := run T hT XT
  simp only [Outcome.returned.injEq] at hvv
  subst hvv
  have hw := kk T'.heap (locs ++ Ll) la (by rw [e1]; exact q1) (q2.weaken (fun k q _ h => hF q.1 h)) (wl_S hF hS h0 e1 hL q4) (fun h => absurd h (Nat.succ_ne_zero kx)) (Nat.le_refl _) (Nat.zero_le _) (Nat.le_refl _) (Nat.le_refl _) hl
  rw [show (mv_E z1).1 - 0 + (kx + 1) = 97 + kx + 1 by (show 97 - 0 + (kx + 1) = 97 + kx + 1; omega), show (mv_E z1).2.1 - 0 + (ks + 6) = 4667 + ks + 6 by (show 4667 - 0 + (ks + 6) = 4667 + ks + 6; omega)] at hw
  obtain ⟨t2, a1, b1⟩ := hw T' rfl X'
  exact ⟨t2, st t2 a1, b1⟩
theorem lc_32 (XX : ∀ kx ks, kx ≤ 600 → ks ≤ 4000 → LX p s m meth c D ad adV cK b kx ks P0) (hX : va_X b L xs s s.heap) (hbl : b < s.heap.size) (had2 : ad 2000 = b) (hL : L ≤ 2048) {sa : Nat} (hE : wx_S (fun q => s.heap.size ≤ q) sa s s.heap) (hst : l.stackTraces = false) (hkx : kx ≤ 512) (hks : ks ≤ 3072) : lw_C32 p l e s m below meth c D ad cK b L kx ks := by
  intro i u z w5 w6 hi4 hi hrx hrm next
  have X := XX kx ks (by omega) (by omega)
  have Xk := mv_Cx_P X ok_L_c32
  have C := mv_closedL (l := l) (e := e) (below := below) (Q := lw_Z below #[Value.ref b] s) (S0 := mv_E z) Xk
  have X2 := mv_Cx_P (XX (kx + 1) (ks + 6) (by omega) (by omega)) ok_L_c32
  have C2 := mv_closedL (l := l) (e := e) (below := below) (Q := lw_Z below #[Value.ref b] s) (S0 := mv_E z) X2
  have hbA : ¬ s.heap.size ≤ b := Nat.not_le.mpr hbl
  have nx := next (kx + 1) (ks + 6) (Nat.le_refl _) (Nat.le_refl _)
  have h48 : u 30 0 ≤ 48 := hi.2.2.2.2.2.2.2.2.2.2.2.2.2.2.2.2.2.2.2.2.1
  refine mv_aload_n C rfl rfl ?_
  refine mv_aload_n C rfl rfl ?_
  refine mv_iload C rfl rfl ?_
  refine mv_iconst C rfl ?_
  refine mv_iadd C rfl ?_
  refine lw_sld Xk hX hbl hbA had2 (mv_dec ok_L_c32 (pc := 1219) rfl 1 rfl rfl).1 (nI_add i 1) (by omega) (by omega) ?_
  refine mv_aload_n C rfl rfl ?_
  by_cases hx : 0 ≤ xs (i + 1) ∧ xs (i + 1) < nI (u 30 0)
  · obtain ⟨k, hk, hke⟩ := nI_rng hx.1 hx.2 (by omega)
    rw [hke]
    refine lw_row X hE hkx hks (nI k) 0 z (mv_uL z 96 0 (nI (u 31 k)).toInt64) (fun sz => wl_in l u z k hk hi hrx D ad adV cK sz sa) _ ?_
    refine mv_is5 C2 rfl rfl ?_
    refine mv_aload_n C2 rfl rfl ?_
    refine mv_aload_n C2 rfl rfl ?_
    refine mv_iload C2 rfl rfl ?_
    refine mv_iconst C2 rfl ?_
    refine mv_iadd C2 rfl ?_
    refine lw_sld X2 hX hbl hbA had2 (mv_dec ok_L_c32 (pc := 1232) rfl 1 rfl rfl).1 (nI_add i 1) (by omega) (by omega) ?_
    rw [hke]
    obtain ⟨z2, R2, hm2, hf2, ht2, hl2⟩ := m_row_in u (mv_uL z 96 0 (nI (u 31 k)).toInt64) k hk hi hrm
    have hx2 : rX u z2 := rX_frame (z := (mv_uL z 96 0 (nI (u 31 k)).toInt64)) hrx hi.2.2.2.2.2.2.2.2.2.2.2.2.2.2.2.2.1 hf2
    refine lw_cV (as := [.int (nI k)]) (rest := []) (q := 68) X2 lk_159 (mv_dec ok_L_c32 (pc := 1233) rfl 3 rfl rfl).1 R2 rfl (show _ < 97 by decide) rfl (Nat.le_of_ble_eq_true rfl) (Nat.le_refl _) (Nat.le_refl _) (Nat.le_refl _) (Nat.le_refl _) ?_
    refine mv_is6 C2 rfl rfl ?_
    refine mv_aload_n C2 rfl rfl ?_
    refine lw_cV (as := []) (rest := []) (q := 68) X2 lk_160 (mv_dec ok_L_c32 (pc := 1239) rfl 3 rfl rfl).1 (mv_up (r_thrown z2) rfl) rfl (show _ < 97 by decide) rfl (Nat.le_of_ble_eq_true rfl) (Nat.le_refl _) (Nat.le_refl _) (Nat.le_refl _) (Nat.le_refl _) ?_
    refine mv_iload C2 rfl rfl ?_
    refine mv_icmp_eq C2 rfl (fun _ => ?_) (fun h => absurd ht2 h)
    refine mv_iload C2 rfl rfl ?_
    refine mv_if_ne C2 rfl (fun h => absurd rfl h) (fun _ => ?_)
    have hv : z2.2 96 0 = (nI (u 31 k)).toInt64 := by rw [hl2]; rfl
    refine mv_aload_n C2 rfl rfl ?_
    refine mv_iconst C2 rfl ?_
    refine mv_lldJ (j := 0) C2 rfl rfl rfl (by decide) hv ?_
    refine mv_iload C2 rfl rfl ?_
    refine mv_i2l C2 rfl ?_
    refine mv_lcmp C2 rfl ?_
    refine mv_if_eq C2 rfl (fun _ => ?_) (fun h => absurd lg_cmp_self h)
    refine mv_goto C2 rfl ?_
    exact nx u z2 hi hx2 hm2 _ _
  · refine lw_row X hE hkx hks (xs (i + 1)) 1 z z (fun sz => wl_out l u z hst (xs (i + 1)) hx hi hrx D ad adV cK sz sa) _ ?_
    refine mv_is5 C2 rfl rfl ?_
    refine mv_aload_n C2 rfl rfl ?_
    refine mv_aload_n C2 rfl rfl ?_
    refine mv_iload C2 rfl rfl ?_
    refine mv_iconst C2 rfl ?_
    refine mv_iadd C2 rfl ?_
    refine lw_sld X2 hX hbl hbA had2 (mv_dec ok_L_c32 (pc := 1232) rfl 1 rfl rfl).1 (nI_add i 1) (by omega) (by omega) ?_
    obtain ⟨z2, R2, hm2, hf2, ht2, hl2⟩ := m_row_out u z (xs (i + 1)) hx hi hrm
    have hx2 : rX u z2 := rX_frame (z := z) hrx hi.2.2.2.2.2.2.2.2.2.2.2.2.2.2.2.2.1 hf2
    refine lw_cV (as := [.int (xs (i + 1))]) (rest := []) (q := 68) X2 lk_159 (mv_dec ok_L_c32 (pc := 1233) rfl 3 rfl rfl).1 R2 rfl (show _ < 97 by decide) rfl (Nat.le_of_ble_eq_true rfl) (Nat.le_refl _) (Nat.le_refl _) (Nat.le_refl _) (Nat.le_refl _) ?_
    refine mv_is6 C2 rfl rfl ?_
    refine mv_aload_n C2 rfl rfl ?_
    refine lw_cV (as := []) (rest := []) (q := 68) X2 lk_160 (mv_dec ok_L_c32 (pc := 1239) rfl 3 rfl rfl).1 (mv_up (r_thrown z2) rfl) rfl (show _ < 97 by decide) rfl (Nat.le_of_ble_eq_true rfl) (Nat.le_refl _) (Nat.le_refl _) (Nat.le_refl _) (Nat.le_refl _) ?_
    refine mv_iload C2 rfl rfl ?_
    refine mv_icmp_eq C2 rfl (fun _ => ?_) (fun h => absurd ht2 h)
    refine mv_iload C2 rfl rfl ?_
    refine mv_if_ne C2 rfl (fun _ => ?_) (fun h => absurd h (by decide))
    refine mv_goto C2 rfl ?_
    exact nx u z2 hi hx2 hm2 _ _
theorem wx_ngL : wx_ng.all (fun w => decide (w ∈ lw_tbl)) = true := by decide +kernel
theorem lw_E (C0 : lw_At p s m meth c b L xs) : ∃ sa, wx_S (fun q => s.heap.size ≤ q) sa s s.heap := by
  obtain ⟨hx, hb, hr, hml, hown, hts, hX, hbl, hlocks, hgv⟩ := C0
  have hs := flat_of_before _ hgv
  obtain ⟨a, c1, cA, kA, q1, -⟩ := Cond.exactly_spec (args := #[Value.ref b]) (first := s) (o := none) (s := s) (idx := []) (t := .string "HueAndCry" 222) (cls := "java/lang/String") (hs _ (by decide +kernel))
  refine ⟨a, fun w hw => va_Nw.of (List.all_eq_true.mp wx_ngT w hw) (hts w (by simpa using List.all_eq_true.mp wx_ngL w hw)), vx_Zqof (hts _ (by decide +kernel)) (hts _ (by decide +kernel)) (hs _ (by decide +kernel)) (fun a h => Nat.not_le.mpr h), vx_Zqof (hts _ (by decide +kernel)) (hts _ (by decide +kernel)) (hs _ (by decide +kernel)) (fun a h => Nat.not_le.mpr h), vk_R.of (hts _ (by decide +kernel)) q1⟩
end
/-- from the entry, for every script of at most 2048 ints, the law comes to its end with true -/
theorem whole_start {p : Program} {e : Env} {s : State} {m : MethodId} {below : List Frame} {meth : Method} {c : Code} (l : Launch) (hst : l.stackTraces = false) {b L : Nat} {xs : Nat → Int32} (hL : L ≤ 2048) (C0 : lw_At p s m meth c b L xs) : W p l e room_1 s m #[Value.ref b] below meth c s.heap [] 0 0 (lw_Z below #[Value.ref b] s) (entryFrame m ([Value.ref b] : List Value).toArray 7) := by
  obtain ⟨sa, hE⟩ := lw_E C0
  refine whole_start1 l hL C0 (fun D ad adV cK had2 XX kx ks hkx hks => ?_)
  obtain ⟨hx, hb, hr, hml, hown, hts, hX, hbl, hlocks, hgv⟩ := C0
  exact lc_32 XX hX hbl had2 hL hE hst hkx hks
set_option maxHeartbeats 4000000 in
theorem lw_walk (l : Launch) (hst : l.stackTraces = false) (b : Addr) (xs : List Int32) : MetFree l x (headSpec (Jvm.Cond.code x code maxLocals ret :: tables_1) room_1) (lw_P b xs) (fun _ _ _ _ _ => True) lw_Q := by
  refine MetFree.of_bodyS (code := code) (maxLocals := maxLocals) (ret := ret) (by decide) ?_ ?_
  · intro args s m h hn
    obtain ⟨meth, c, h1, h2, h3, h4, h5, h6, -, -⟩ := Cond.code_spec hn (atoms_spec (ws := Jvm.Cond.code x code maxLocals ret :: tables_1) h _ List.mem_cons_self)
    exact ⟨meth, c, h1, h2, h3, h4, h5, h6⟩
  · intro p e s m args below meth c s₁ B hml0 hP _
    obtain ⟨rfl, hx, hbd, hgv⟩ := hP
    obtain ⟨scr, harrAt, hlist, hof, hsmall⟩ := hx
    obtain ⟨hcb, hkn, -, -⟩ := State.arrayAt?_spec harrAt
    have hown : s.vm.findClass R_law = some m.cls := findClass_of_methodNamed B.named
    have hts0 : ∀ c ∈ (Jvm.Cond.code x code maxLocals ret :: tables_1), c.before #[Value.ref b] s = true := atoms_spec (ws := Jvm.Cond.code x code maxLocals ret :: tables_1) B.pre
    have hts : ∀ w ∈ lw_tbl, w.before #[Value.ref b] s = true := k2_hts_sels lw_privs (fun w hw => hts0 w (List.mem_cons_of_mem _ hw)) lw_privs_ok
    have hml : c.maxLocals = 7 := B.maxLocals_eq (hts0 _ List.mem_cons_self)
    have X₀ : Stand p l e room_1 s m #[Value.ref b] below meth c s₁ [] 0 0 := Stand.of_body B
    have hh0 : s₁.heap = s.heap := by rw [B.state]; rfl
    have hsz : scr.slots.size = xs.length := by rw [← Array.length_toList, hlist, List.length_map]
    have hval : ∀ j : Nat, j < xs.length → scr.slots[j]? = some (.int (xs.getD j 0)) := fun j hj => by
      rw [← Array.getElem?_toList, hlist]
      simp [hj]
    have hbl : b < s.heap.size := (Array.getElem?_eq_some_iff.mp hcb).1
    have hX : va_X b xs.length (fun j => xs.getD j 0) s s.heap := ⟨scr, hcb, hof, hkn, hsz, hval⟩
    have K : W p l e room_1 s m #[Value.ref b] below meth c s₁.heap [] 0 0 (lw_Z below #[Value.ref b] s) (entryFrame m ([Value.ref b] : List Value).toArray 7) := by
      rw [hh0]
      exact whole_start l hst hbd ⟨B.exec, B.bytes, B.returns, hml, hown, hts, hX, hbl, B.notSynchronized, hgv⟩
    obtain ⟨t, a1, o, b1, b2, b3⟩ := K s₁ rfl X₀
    exact ⟨t, o, a1, b1, b2, b3⟩
theorem lw_pre_spec {args : Array Value} {s : State} (h : (Jvm.Cond.and given_1 narrow_1).before args s = true) (hr : rest_1_c.before args s = true) : ∃ (b : Addr) (xs : List Int32), lw_P b xs args s := by
  have hs := flat_of_before _ h
  have hq := flat_of_before _ hr
  have hc : (Cond.count 1).before args s = true := hs _ (by decide +kernel)
  have harr : (Cond.arrayOf (.arg 0) .int).before args s = true := hs _ (by decide +kernel)
  have hle : (Cond.le (.length (.arg 0)) (.int 2048)).before args s = true := hs _ (by decide +kernel)
  have hlen : (Cond.isInt (.length (.arg 0))).before args s = true := hq _ (by decide +kernel)
  have hall : (Cond.all (.arg 0) (.isInt (.elem (.arg 0) (.index 0)))).before args s = true := hq _ (by decide +kernel)
  obtain ⟨b, xs, hb, hx⟩ := State.ints_of_pre rfl harr hlen hall
  have hsm : xs.length < 2 ^ 31 := hx.choose_spec.2.2.2
  have hev : (Term.length (.arg 0)).eval args s none [] s = some (.int xs.length.toInt32) := hx.length_eval hb
  have hv := Cond.le_ints hev (show (Term.int 2048).eval args s none [] s = some (.int 2048) from rfl)
  have hd : xs.length.toInt32 ≤ 2048 := by
    simpa [Cond.before, Cond.holds, hv] using hle
  have hN : xs.length ≤ 2048 := (Int32.ofNat_le_ofNat hsm (by decide)).mp (show Int32.ofNat xs.length ≤ Int32.ofNat 2048 from hd)
  exact ⟨b, xs, Cond.one_arg hc (show args[0]? = some (.ref b) from hb), hx, hN, h⟩
theorem lw_comes (l : Launch) (hst : l.stackTraces = false) : Comes l x (Jvm.Cond.code x code maxLocals ret :: tables_1) room_1 (fun tb e args s => Calls_1 tb e args s ∧ rest_1 tb e args s ∧ Pre_1 tb e args s)
    (fun _ _ args s o t => lw_Q args s o t) := by
  intro p e ha hc hk s m args below hf hfit hheap happ hpre
  obtain ⟨b, xs, hP⟩ := lw_pre_spec hpre.2.2 hpre.2.1
  obtain ⟨k, o, h1, h2, h3, hQ⟩ := lw_walk l hst b xs p e ha hc hk s m args below hf ((Spec.applies_iff_loose hf).mp happ).1 hP trivial
  exact ⟨k, o, h1, h2, h3, hQ⟩
theorem lw_frame {s t : State} {o : Outcome} {args : Array Value} (h : Framed s o t [] 601024 7293034) :
    Framed s o t (fieldLocs frame_1_writes args s ++ arrayLocs frame_1_arrays args s ++ staticLocs frame_1_statics s) 601024 7293034 := h
theorem lw_limb (L : Cond) (hL : ∀ (args : Array Value) (s t : State), L.after args s (.returned (some (.int 1))) t = true) :
    ArmFor flags0 classFile x code maxLocals ret World_1 tables_1 room_1 Calls_1 rest_1 Pre_1
      (fun tb e a s o t => postC L tb e a s o t ∧ Framed s o t (fieldLocs frame_1_writes a s ++ arrayLocs frame_1_arrays a s ++ staticLocs frame_1_statics s) 601024 7293034) := by
  intro l hfl _ _ p e ha hc hk s m args below hf hfit hheap happ hpre
  obtain ⟨k, o, h1, h2, h3, rfl, hF⟩ := lw_comes l (by unfold Launch.stackTraces; rw [hfl]; decide) p e ha hc hk s m args below hf hfit hheap happ hpre
  exact ⟨k, _, h1, h2, h3, hL args s _, lw_frame hF⟩
theorem i_vc : Claimed_1_1 ∧ Claimed_1_2 := ⟨lw_limb limb_1_1 (fun args s t => by simp [limb_1_1, Cond.after, Cond.holds, Cond.value]), lw_limb limb_1_2 (fun args s t => Cond.after_iff.mpr (by
  first | (rw [show limb_1_2 = Cond.eq .result (.int 1) from rfl, Cond.eq_ints (x := 1) (y := 1) rfl rfl]; simp; done) | (simp [limb_1_2, Cond.value, Term.eval]; done)))⟩
