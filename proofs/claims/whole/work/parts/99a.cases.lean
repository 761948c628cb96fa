def R_law : String := "HueAndCryLaw"
def lw_P (b : Addr) (xs : List Int32) (args : Array Value) (s : State) : Prop := args = #[.ref b] ∧ s.IntsAt b xs ∧ xs.length ≤ 2048 ∧ (Jvm.Cond.and given_1 narrow_1).before args s = true
def lw_Q (_ : Array Value) (s : State) (o : Outcome) (t : State) : Prop := o = .returned (some (.int 1)) ∧ Framed s o t [] 601024 7293034
def lw_Z (below : List Frame) (a : Array Value) (s : State) : State → Prop := fun t => ∃ o, t.status = .running ∧ Ended t below o ∧ lw_Q a s o t
/-- the law's own end, with 1 on the stack, nothing written that was there before, its room as the claim has it -/
theorem lw_ret {p : Program} {l : Launch} {e : Env} {s : State} {m : MethodId} {below : List Frame} {meth : Method} {c : Code} {b : Nat} (hx : p.tables.exec = Jvm.exec) (hb : c.code = code) (hr : meth.sig.returnType = ret) (hlocks : meth.locks = false) {pc : Nat} {H : Heap} {ls : Array Slot} (hdg : decode code pc = .ok (.ireturn, 1)) : W p l e room_1 s m #[Value.ref b] below meth c H [] 601024 7293034 (lw_Z below #[Value.ref b] s) (F0 m pc ls [.int 1]) := by
  intro T hT X
  obtain ⟨fs, hret, hrun, hended, hW, hframe⟩ := X.leave (v := some (.int 1)) (hlocks := hlocks) (fun h => by rw [hr] at h; cases h)
  have hmeth' : T.vm.method? m = some meth := X.method'
  refine ⟨T.setFrames fs, ?_, .returned (some (.int 1)), hrun, hended, rfl, ⟨_, rfl⟩, hW, hframe⟩
  jvm_step X.here [X.here.top, hx, hb, hdg, hmeth', hr, ret, narrow_b1]
  (try refine ⟨rfl, ?_⟩); (try refine ⟨rfl, ?_⟩)
  first | (intro acts; rw [hret _ acts rfl rfl rfl]) | rw [hret _ _ rfl rfl rfl]
  exact Steps.refl _
/-- what holds at the law's entry: the machine, the code, the tables' words (any of lw_tbl by 'hts w (by decide +kernel)'), the script of L ints xs at the cell b, what the Statement gives of the start (any of its parts by flat_of_before) -/
def lw_At (p : Program) (s : State) (m : MethodId) (meth : Method) (c : Code) (b L : Nat) (xs : Nat → Int32) : Prop :=
  p.tables.exec = Jvm.exec ∧ c.code = code ∧ meth.sig.returnType = ret ∧ c.maxLocals = 7 ∧ s.vm.findClass R_law = some m.cls ∧ (∀ w ∈ lw_tbl, w.before #[Value.ref b] s = true) ∧ va_X b L xs s s.heap ∧ b < s.heap.size ∧ meth.locks = false ∧ (Jvm.Cond.and given_1 narrow_1).before #[Value.ref b] s = true

section
abbrev LV (p : Program) (l : Launch) (e : Env) (s : State) (m : MethodId) (below : List Frame) (meth : Method) (c : Code) (D : va_G) (ad cK : Nat → Nat) (b kx ks : Nat) : Nat → mv_L → List Value → mv_S → Prop := mv_V p l e room_1 s m #[Value.ref b] below meth c (lw_Z below #[Value.ref b] s) D ad cK (fun q => s.heap.size ≤ q) 7 0 97 0 kx ks 97 4667
abbrev LX (p : Program) (s : State) (m : MethodId) (meth : Method) (c : Code) (D : va_G) (ad adV cK : Nat → Nat) (b kx ks : Nat) (P : List (Nat × mv_I)) : Prop := mv_Cx p room_1 s m #[Value.ref b] meth c D ad adV cK (fun q => s.heap.size ≤ q) 12 false code P 7 0 97 0 kx ks 97 4667 20
abbrev LSt (i : Nat) (w5 w6 : Option Value) : mv_L := [some (.ref 2000), some (.ref 0), some (.ref 68), some (.ref 96), some (.int (nI i)), w5, w6]
theorem lg_cmp_self {x : Int64} : lg_cmp x x = 0 := by unfold lg_cmp; simp
variable {p : Program} {l : Launch} {e : Env} {s : State} {m : MethodId} {below : List Frame} {meth : Method} {c : Code} {D : va_G} {ad adV cK : Nat → Nat} {b L kx ks : Nat} {xs : Nat → Int32} {P0 : List (Nat × mv_I)}
theorem lc_0 (X : LX p s m meth c D ad adV cK b kx ks P0) (hX : va_X b L xs s s.heap) (hbl : b < s.heap.size) (had2 : ad 2000 = b) (hL : L ≤ 2048) (i : Nat) (hi4 : i + 4 ≤ L) (u : hM) (z : mv_Z) (hi : hI u) (hrx : rX u z) (hrm : rM u z) (w5 w6 : Option Value) (next : ∀ u z, hI u → rX u z → rM u z → ∀ w5 w6 : Option Value, LV p l e s m below meth c D ad cK b kx ks 1269 (LSt i w5 w6) [] (mv_E z)) : LV p l e s m below meth c D ad cK b kx ks 184 (LSt i w5 w6) [] (mv_E z) := by
  have Xk := mv_Cx_P X ok_L_c0
  have C := mv_closedL (l := l) (e := e) (below := below) (Q := lw_Z below #[Value.ref b] s) (S0 := mv_E z) Xk
  have hbA : ¬ s.heap.size ≤ b := Nat.not_le.mpr hbl
  obtain ⟨z1, R1, hx1, hf1⟩ := x_parish u z (xs (i + 1)) hi hrx
  have hrm1 := rM_frame hrm hf1
  obtain ⟨z2, R2, hm2, hf2⟩ := m_parish u z1 (xs (i + 1)) hi hrm1
  have hi2 := i_parish u (xs (i + 1)) hi
  have hx2 := rX_frame hx1 hi2.2.2.2.2.2.2.2.2.2.2.2.2.2.2.2.2.1 hf2
  refine mv_aload_n C rfl rfl ?_
  refine mv_aload_n C rfl rfl ?_
  refine mv_iload C rfl rfl ?_
  refine mv_iconst C rfl ?_
  refine mv_iadd C rfl ?_
  refine lw_sld Xk hX hbl hbA had2 (mv_dec ok_L_c0 (pc := 190) rfl 1 rfl rfl).1 (nI_add i 1) (by omega) (by omega) ?_
  refine lw_cV (as := [.int (xs (i + 1))]) (rest := []) (q := 0) Xk lk_19 (mv_dec ok_L_c0 (pc := 191) rfl 3 rfl rfl).1 R1 rfl (show _ < 97 by decide) rfl (Nat.le_of_ble_eq_true rfl) (Nat.le_refl _) (Nat.le_refl _) (Nat.le_refl _) (Nat.le_refl _) ?_
  refine mv_aload_n C rfl rfl ?_
  refine mv_aload_n C rfl rfl ?_
  refine mv_iload C rfl rfl ?_
  refine mv_iconst C rfl ?_
  refine mv_iadd C rfl ?_
  refine lw_sld Xk hX hbl hbA had2 (mv_dec ok_L_c0 (pc := 200) rfl 1 rfl rfl).1 (nI_add i 1) (by omega) (by omega) ?_
  refine lw_cV (as := [.int (xs (i + 1))]) (rest := [.int _]) (q := 68) Xk lk_22 (mv_dec ok_L_c0 (pc := 201) rfl 3 rfl rfl).1 R2 rfl (show _ < 97 by decide) rfl (Nat.le_of_ble_eq_true rfl) (Nat.le_refl _) (Nat.le_refl _) (Nat.le_refl _) (Nat.le_refl _) ?_
  refine mv_icmp_eq C rfl (fun _ => ?_) (fun h => absurd rfl h)
  exact next _ z2 hi2 hx2 hm2 w5 w6
theorem lc_1 (X : LX p s m meth c D ad adV cK b kx ks P0) (hX : va_X b L xs s s.heap) (hbl : b < s.heap.size) (had2 : ad 2000 = b) (hL : L ≤ 2048) (i : Nat) (hi4 : i + 4 ≤ L) (u : hM) (z : mv_Z) (hi : hI u) (hrx : rX u z) (hrm : rM u z) (w5 w6 : Option Value) (next : ∀ u z, hI u → rX u z → rM u z → ∀ w5 w6 : Option Value, LV p l e s m below meth c D ad cK b kx ks 1269 (LSt i w5 w6) [] (mv_E z)) : LV p l e s m below meth c D ad cK b kx ks 209 (LSt i w5 w6) [] (mv_E z) := by
  have Xk := mv_Cx_P X ok_L_c1
  have C := mv_closedL (l := l) (e := e) (below := below) (Q := lw_Z below #[Value.ref b] s) (S0 := mv_E z) Xk
  have hbA : ¬ s.heap.size ≤ b := Nat.not_le.mpr hbl
  obtain ⟨z1, R1, hx1, hf1⟩ := x_road u z (xs (i + 1)) (xs (i + 2)) (xs (i + 3)) hi hrx
  have hrm1 := rM_frame hrm hf1
  obtain ⟨z2, R2, hm2, hf2⟩ := m_road u z1 (xs (i + 1)) (xs (i + 2)) (xs (i + 3)) hi hrm1
  have hi2 := i_road u (xs (i + 1)) (xs (i + 2)) (xs (i + 3)) hi
  have hx2 := rX_frame hx1 hi2.2.2.2.2.2.2.2.2.2.2.2.2.2.2.2.2.1 hf2
  refine mv_aload_n C rfl rfl ?_
  refine mv_aload_n C rfl rfl ?_
  refine mv_iload C rfl rfl ?_
  refine mv_iconst C rfl ?_
  refine mv_iadd C rfl ?_
  refine lw_sld Xk hX hbl hbA had2 (mv_dec ok_L_c1 (pc := 215) rfl 1 rfl rfl).1 (nI_add i 1) (by omega) (by omega) ?_
  refine mv_aload_n C rfl rfl ?_
  refine mv_iload C rfl rfl ?_
  refine mv_iconst C rfl ?_
  refine mv_iadd C rfl ?_
  refine lw_sld Xk hX hbl hbA had2 (mv_dec ok_L_c1 (pc := 221) rfl 1 rfl rfl).1 (nI_add i 2) (by omega) (by omega) ?_
  refine mv_aload_n C rfl rfl ?_
  refine mv_iload C rfl rfl ?_
  refine mv_iconst C rfl ?_
  refine mv_iadd C rfl ?_
  refine lw_sld Xk hX hbl hbA had2 (mv_dec ok_L_c1 (pc := 227) rfl 1 rfl rfl).1 (nI_add i 3) (by omega) (by omega) ?_
  refine lw_cV (as := [.int (xs (i + 1)), .int (xs (i + 2)), .int (xs (i + 3))]) (rest := []) (q := 0) Xk lk_23 (mv_dec ok_L_c1 (pc := 228) rfl 3 rfl rfl).1 R1 rfl (show _ < 97 by decide) rfl (Nat.le_of_ble_eq_true rfl) (Nat.le_refl _) (Nat.le_refl _) (Nat.le_refl _) (Nat.le_refl _) ?_
  refine mv_aload_n C rfl rfl ?_
  refine mv_aload_n C rfl rfl ?_
  refine mv_iload C rfl rfl ?_
  refine mv_iconst C rfl ?_
  refine mv_iadd C rfl ?_
  refine lw_sld Xk hX hbl hbA had2 (mv_dec ok_L_c1 (pc := 237) rfl 1 rfl rfl).1 (nI_add i 1) (by omega) (by omega) ?_
  refine mv_aload_n C rfl rfl ?_
  refine mv_iload C rfl rfl ?_
  refine mv_iconst C rfl ?_
  refine mv_iadd C rfl ?_
  refine lw_sld Xk hX hbl hbA had2 (mv_dec ok_L_c1 (pc := 243) rfl 1 rfl rfl).1 (nI_add i 2) (by omega) (by omega) ?_
  refine mv_aload_n C rfl rfl ?_
  refine mv_iload C rfl rfl ?_
  refine mv_iconst C rfl ?_
  refine mv_iadd C rfl ?_
  refine lw_sld Xk hX hbl hbA had2 (mv_dec ok_L_c1 (pc := 249) rfl 1 rfl rfl).1 (nI_add i 3) (by omega) (by omega) ?_
  refine lw_cV (as := [.int (xs (i + 1)), .int (xs (i + 2)), .int (xs (i + 3))]) (rest := [.int _]) (q := 68) Xk lk_27 (mv_dec ok_L_c1 (pc := 250) rfl 3 rfl rfl).1 R2 rfl (show _ < 97 by decide) rfl (Nat.le_of_ble_eq_true rfl) (Nat.le_refl _) (Nat.le_refl _) (Nat.le_refl _) (Nat.le_refl _) ?_
  refine mv_icmp_eq C rfl (fun _ => ?_) (fun h => absurd rfl h)
  exact next _ z2 hi2 hx2 hm2 w5 w6
theorem lc_2 (X : LX p s m meth c D ad adV cK b kx ks P0) (hX : va_X b L xs s s.heap) (hbl : b < s.heap.size) (had2 : ad 2000 = b) (hL : L ≤ 2048) (i : Nat) (hi4 : i + 4 ≤ L) (u : hM) (z : mv_Z) (hi : hI u) (hrx : rX u z) (hrm : rM u z) (w5 w6 : Option Value) (next : ∀ u z, hI u → rX u z → rM u z → ∀ w5 w6 : Option Value, LV p l e s m below meth c D ad cK b kx ks 1269 (LSt i w5 w6) [] (mv_E z)) : LV p l e s m below meth c D ad cK b kx ks 258 (LSt i w5 w6) [] (mv_E z) := by
  have Xk := mv_Cx_P X ok_L_c2
  have C := mv_closedL (l := l) (e := e) (below := below) (Q := lw_Z below #[Value.ref b] s) (S0 := mv_E z) Xk
  have hbA : ¬ s.heap.size ≤ b := Nat.not_le.mpr hbl
  by_cases hb0 : xs (i + 2) = 0
  · obtain ⟨z1, R1, hx1, hf1⟩ := x_shut u z (xs (i + 1)) 0 (by decide) hi hrx
    have hrm1 := rM_frame hrm hf1
    obtain ⟨z2, R2, hm2, hf2⟩ := m_shut u z1 (xs (i + 1)) 0 (by decide) hi hrm1
    have hi2 := i_shut u (xs (i + 1)) 0 (by decide) hi
    have hx2 := rX_frame hx1 hi2.2.2.2.2.2.2.2.2.2.2.2.2.2.2.2.2.1 hf2
    refine mv_aload_n C rfl rfl ?_
    refine mv_aload_n C rfl rfl ?_
    refine mv_iload C rfl rfl ?_
    refine mv_iconst C rfl ?_
    refine mv_iadd C rfl ?_
    refine lw_sld Xk hX hbl hbA had2 (mv_dec ok_L_c2 (pc := 264) rfl 1 rfl rfl).1 (nI_add i 1) (by omega) (by omega) ?_
    refine mv_aload_n C rfl rfl ?_
    refine mv_iload C rfl rfl ?_
    refine mv_iconst C rfl ?_
    refine mv_iadd C rfl ?_
    refine lw_sld Xk hX hbl hbA had2 (mv_dec ok_L_c2 (pc := 270) rfl 1 rfl rfl).1 (nI_add i 2) (by omega) (by omega) ?_
    refine mv_if_eq C rfl (fun _ => ?_) (fun h => absurd hb0 h)
    refine mv_iconst C rfl ?_
    refine lw_cV (as := [.int (xs (i + 1)), .int (nI 0)]) (rest := []) (q := 0) Xk lk_28 (mv_dec ok_L_c2 (pc := 279) rfl 3 rfl rfl).1 R1 rfl (show _ < 97 by decide) rfl (Nat.le_of_ble_eq_true rfl) (Nat.le_refl _) (Nat.le_refl _) (Nat.le_refl _) (Nat.le_refl _) ?_
    refine mv_aload_n C rfl rfl ?_
    refine mv_aload_n C rfl rfl ?_
    refine mv_iload C rfl rfl ?_
    refine mv_iconst C rfl ?_
    refine mv_iadd C rfl ?_
    refine lw_sld Xk hX hbl hbA had2 (mv_dec ok_L_c2 (pc := 288) rfl 1 rfl rfl).1 (nI_add i 1) (by omega) (by omega) ?_
    refine mv_aload_n C rfl rfl ?_
    refine mv_iload C rfl rfl ?_
    refine mv_iconst C rfl ?_
    refine mv_iadd C rfl ?_
    refine lw_sld Xk hX hbl hbA had2 (mv_dec ok_L_c2 (pc := 294) rfl 1 rfl rfl).1 (nI_add i 2) (by omega) (by omega) ?_
    refine mv_if_eq C rfl (fun _ => ?_) (fun h => absurd hb0 h)
    refine mv_iconst C rfl ?_
    refine lw_cV (as := [.int (xs (i + 1)), .int (nI 0)]) (rest := [.int _]) (q := 68) Xk lk_32 (mv_dec ok_L_c2 (pc := 303) rfl 3 rfl rfl).1 R2 rfl (show _ < 97 by decide) rfl (Nat.le_of_ble_eq_true rfl) (Nat.le_refl _) (Nat.le_refl _) (Nat.le_refl _) (Nat.le_refl _) ?_
    refine mv_icmp_eq C rfl (fun _ => ?_) (fun h => absurd rfl h)
    exact next _ z2 hi2 hx2 hm2 w5 w6
  · obtain ⟨z1, R1, hx1, hf1⟩ := x_shut u z (xs (i + 1)) 1 (by decide) hi hrx
    have hrm1 := rM_frame hrm hf1
    obtain ⟨z2, R2, hm2, hf2⟩ := m_shut u z1 (xs (i + 1)) 1 (by decide) hi hrm1
    have hi2 := i_shut u (xs (i + 1)) 1 (by decide) hi
    have hx2 := rX_frame hx1 hi2.2.2.2.2.2.2.2.2.2.2.2.2.2.2.2.2.1 hf2
    refine mv_aload_n C rfl rfl ?_
    refine mv_aload_n C rfl rfl ?_
    refine mv_iload C rfl rfl ?_
    refine mv_iconst C rfl ?_
    refine mv_iadd C rfl ?_
    refine lw_sld Xk hX hbl hbA had2 (mv_dec ok_L_c2 (pc := 264) rfl 1 rfl rfl).1 (nI_add i 1) (by omega) (by omega) ?_
    refine mv_aload_n C rfl rfl ?_
    refine mv_iload C rfl rfl ?_
    refine mv_iconst C rfl ?_
    refine mv_iadd C rfl ?_
    refine lw_sld Xk hX hbl hbA had2 (mv_dec ok_L_c2 (pc := 270) rfl 1 rfl rfl).1 (nI_add i 2) (by omega) (by omega) ?_
    refine mv_if_eq C rfl (fun h => absurd h hb0) (fun _ => ?_)
    refine mv_iconst C rfl ?_
    refine mv_goto C rfl ?_
    refine lw_cV (as := [.int (xs (i + 1)), .int (nI 1)]) (rest := []) (q := 0) Xk lk_28 (mv_dec ok_L_c2 (pc := 279) rfl 3 rfl rfl).1 R1 rfl (show _ < 97 by decide) rfl (Nat.le_of_ble_eq_true rfl) (Nat.le_refl _) (Nat.le_refl _) (Nat.le_refl _) (Nat.le_refl _) ?_
    refine mv_aload_n C rfl rfl ?_
    refine mv_aload_n C rfl rfl ?_
    refine mv_iload C rfl rfl ?_
    refine mv_iconst C rfl ?_
    refine mv_iadd C rfl ?_
    refine lw_sld Xk hX hbl hbA had2 (mv_dec ok_L_c2 (pc := 288) rfl 1 rfl rfl).1 (nI_add i 1) (by omega) (by omega) ?_
    refine mv_aload_n C rfl rfl ?_
    refine mv_iload C rfl rfl ?_
    refine mv_iconst C rfl ?_
    refine mv_iadd C rfl ?_
    refine lw_sld Xk hX hbl hbA had2 (mv_dec ok_L_c2 (pc := 294) rfl 1 rfl rfl).1 (nI_add i 2) (by omega) (by omega) ?_
    refine mv_if_eq C rfl (fun h => absurd h hb0) (fun _ => ?_)
    refine mv_iconst C rfl ?_
    refine mv_goto C rfl ?_
    refine lw_cV (as := [.int (xs (i + 1)), .int (nI 1)]) (rest := [.int _]) (q := 68) Xk lk_32 (mv_dec ok_L_c2 (pc := 303) rfl 3 rfl rfl).1 R2 rfl (show _ < 97 by decide) rfl (Nat.le_of_ble_eq_true rfl) (Nat.le_refl _) (Nat.le_refl _) (Nat.le_refl _) (Nat.le_refl _) ?_
    refine mv_icmp_eq C rfl (fun _ => ?_) (fun h => absurd rfl h)
    exact next _ z2 hi2 hx2 hm2 w5 w6
theorem lc_3 (X : LX p s m meth c D ad adV cK b kx ks P0) (hX : va_X b L xs s s.heap) (hbl : b < s.heap.size) (had2 : ad 2000 = b) (hL : L ≤ 2048) (i : Nat) (hi4 : i + 4 ≤ L) (u : hM) (z : mv_Z) (hi : hI u) (hrx : rX u z) (hrm : rM u z) (w5 w6 : Option Value) (next : ∀ u z, hI u → rX u z → rM u z → ∀ w5 w6 : Option Value, LV p l e s m below meth c D ad cK b kx ks 1269 (LSt i w5 w6) [] (mv_E z)) : LV p l e s m below meth c D ad cK b kx ks 311 (LSt i w5 w6) [] (mv_E z) := by
  have Xk := mv_Cx_P X ok_L_c3
  have C := mv_closedL (l := l) (e := e) (below := below) (Q := lw_Z below #[Value.ref b] s) (S0 := mv_E z) Xk
  have hbA : ¬ s.heap.size ≤ b := Nat.not_le.mpr hbl
  by_cases hb0 : xs (i + 2) = 0
  · obtain ⟨z1, R1, hx1, hf1⟩ := x_exit u z (xs (i + 1)) 0 (by decide) hi hrx
    have hrm1 := rM_frame hrm hf1
    obtain ⟨z2, R2, hm2, hf2⟩ := m_exit u z1 (xs (i + 1)) 0 (by decide) hi hrm1
    have hi2 := i_exit u (xs (i + 1)) 0 (by decide) hi
    have hx2 := rX_frame hx1 hi2.2.2.2.2.2.2.2.2.2.2.2.2.2.2.2.2.1 hf2
    refine mv_aload_n C rfl rfl ?_
    refine mv_aload_n C rfl rfl ?_
    refine mv_iload C rfl rfl ?_
    refine mv_iconst C rfl ?_
    refine mv_iadd C rfl ?_
    refine lw_sld Xk hX hbl hbA had2 (mv_dec ok_L_c3 (pc := 317) rfl 1 rfl rfl).1 (nI_add i 1) (by omega) (by omega) ?_
    refine mv_aload_n C rfl rfl ?_
    refine mv_iload C rfl rfl ?_
    refine mv_iconst C rfl ?_
    refine mv_iadd C rfl ?_
    refine lw_sld Xk hX hbl hbA had2 (mv_dec ok_L_c3 (pc := 323) rfl 1 rfl rfl).1 (nI_add i 2) (by omega) (by omega) ?_
    refine mv_if_eq C rfl (fun _ => ?_) (fun h => absurd hb0 h)
    refine mv_iconst C rfl ?_
    refine lw_cV (as := [.int (xs (i + 1)), .int (nI 0)]) (rest := []) (q := 0) Xk lk_33 (mv_dec ok_L_c3 (pc := 332) rfl 3 rfl rfl).1 R1 rfl (show _ < 97 by decide) rfl (Nat.le_of_ble_eq_true rfl) (Nat.le_refl _) (Nat.le_refl _) (Nat.le_refl _) (Nat.le_refl _) ?_
    refine mv_aload_n C rfl rfl ?_
    refine mv_aload_n C rfl rfl ?_
    refine mv_iload C rfl rfl ?_
    refine mv_iconst C rfl ?_
    refine mv_iadd C rfl ?_
    refine lw_sld Xk hX hbl hbA had2 (mv_dec ok_L_c3 (pc := 341) rfl 1 rfl rfl).1 (nI_add i 1) (by omega) (by omega) ?_
    refine mv_aload_n C rfl rfl ?_
    refine mv_iload C rfl rfl ?_
    refine mv_iconst C rfl ?_
    refine mv_iadd C rfl ?_
    refine lw_sld Xk hX hbl hbA had2 (mv_dec ok_L_c3 (pc := 347) rfl 1 rfl rfl).1 (nI_add i 2) (by omega) (by omega) ?_
    refine mv_if_eq C rfl (fun _ => ?_) (fun h => absurd hb0 h)
    refine mv_iconst C rfl ?_
    refine lw_cV (as := [.int (xs (i + 1)), .int (nI 0)]) (rest := [.int _]) (q := 68) Xk lk_36 (mv_dec ok_L_c3 (pc := 356) rfl 3 rfl rfl).1 R2 rfl (show _ < 97 by decide) rfl (Nat.le_of_ble_eq_true rfl) (Nat.le_refl _) (Nat.le_refl _) (Nat.le_refl _) (Nat.le_refl _) ?_
    refine mv_icmp_eq C rfl (fun _ => ?_) (fun h => absurd rfl h)
    exact next _ z2 hi2 hx2 hm2 w5 w6
  · obtain ⟨z1, R1, hx1, hf1⟩ := x_exit u z (xs (i + 1)) 1 (by decide) hi hrx
    have hrm1 := rM_frame hrm hf1
    obtain ⟨z2, R2, hm2, hf2⟩ := m_exit u z1 (xs (i + 1)) 1 (by decide) hi hrm1
    have hi2 := i_exit u (xs (i + 1)) 1 (by decide) hi
    have hx2 := rX_frame hx1 hi2.2.2.2.2.2.2.2.2.2.2.2.2.2.2.2.2.1 hf2
    refine mv_aload_n C rfl rfl ?_
    refine mv_aload_n C rfl rfl ?_
    refine mv_iload C rfl rfl ?_
    refine mv_iconst C rfl ?_
    refine mv_iadd C rfl ?_
    refine lw_sld Xk hX hbl hbA had2 (mv_dec ok_L_c3 (pc := 317) rfl 1 rfl rfl).1 (nI_add i 1) (by omega) (by omega) ?_
    refine mv_aload_n C rfl rfl ?_
    refine mv_iload C rfl rfl ?_
    refine mv_iconst C rfl ?_
    refine mv_iadd C rfl ?_
    refine lw_sld Xk hX hbl hbA had2 (mv_dec ok_L_c3 (pc := 323) rfl 1 rfl rfl).1 (nI_add i 2) (by omega) (by omega) ?_
    refine mv_if_eq C rfl (fun h => absurd h hb0) (fun _ => ?_)
    refine mv_iconst C rfl ?_
    refine mv_goto C rfl ?_
    refine lw_cV (as := [.int (xs (i + 1)), .int (nI 1)]) (rest := []) (q := 0) Xk lk_33 (mv_dec ok_L_c3 (pc := 332) rfl 3 rfl rfl).1 R1 rfl (show _ < 97 by decide) rfl (Nat.le_of_ble_eq_true rfl) (Nat.le_refl _) (Nat.le_refl _) (Nat.le_refl _) (Nat.le_refl _) ?_
    refine mv_aload_n C rfl rfl ?_
    refine mv_aload_n C rfl rfl ?_
    refine mv_iload C rfl rfl ?_
    refine mv_iconst C rfl ?_
    refine mv_iadd C rfl ?_
    refine lw_sld Xk hX hbl hbA had2 (mv_dec ok_L_c3 (pc := 341) rfl 1 rfl rfl).1 (nI_add i 1) (by omega) (by omega) ?_
    refine mv_aload_n C rfl rfl ?_
    refine mv_iload C rfl rfl ?_
    refine mv_iconst C rfl ?_
    refine mv_iadd C rfl ?_
    refine lw_sld Xk hX hbl hbA had2 (mv_dec ok_L_c3 (pc := 347) rfl 1 rfl rfl).1 (nI_add i 2) (by omega) (by omega) ?_
    refine mv_if_eq C rfl (fun h => absurd h hb0) (fun _ => ?_)
    refine mv_iconst C rfl ?_
    refine mv_goto C rfl ?_
    refine lw_cV (as := [.int (xs (i + 1)), .int (nI 1)]) (rest := [.int _]) (q := 68) Xk lk_36 (mv_dec ok_L_c3 (pc := 356) rfl 3 rfl rfl).1 R2 rfl (show _ < 97 by decide) rfl (Nat.le_of_ble_eq_true rfl) (Nat.le_refl _) (Nat.le_refl _) (Nat.le_refl _) (Nat.le_refl _) ?_
    refine mv_icmp_eq C rfl (fun _ => ?_) (fun h => absurd rfl h)
    exact next _ z2 hi2 hx2 hm2 w5 w6
theorem lc_4 (X : LX p s m meth c D ad adV cK b kx ks P0) (hX : va_X b L xs s s.heap) (hbl : b < s.heap.size) (had2 : ad 2000 = b) (hL : L ≤ 2048) (i : Nat) (hi4 : i + 4 ≤ L) (u : hM) (z : mv_Z) (hi : hI u) (hrx : rX u z) (hrm : rM u z) (w5 w6 : Option Value) (next : ∀ u z, hI u → rX u z → rM u z → ∀ w5 w6 : Option Value, LV p l e s m below meth c D ad cK b kx ks 1269 (LSt i w5 w6) [] (mv_E z)) : LV p l e s m below meth c D ad cK b kx ks 364 (LSt i w5 w6) [] (mv_E z) := by
  have Xk := mv_Cx_P X ok_L_c4
  have C := mv_closedL (l := l) (e := e) (below := below) (Q := lw_Z below #[Value.ref b] s) (S0 := mv_E z) Xk
  have hbA : ¬ s.heap.size ≤ b := Nat.not_le.mpr hbl
  obtain ⟨z1, R1, hx1, hf1⟩ := x_begin u z (xs (i + 1)) hi hrx
  have hrm1 := rM_frame hrm hf1
  obtain ⟨z2, R2, hm2, hf2⟩ := m_begin u z1 (xs (i + 1)) hi hrm1
  have hi2 := i_begin u (xs (i + 1)) hi
  have hx2 := rX_frame hx1 hi2.2.2.2.2.2.2.2.2.2.2.2.2.2.2.2.2.1 hf2
  refine mv_aload_n C rfl rfl ?_
  refine mv_aload_n C rfl rfl ?_
  refine mv_iload C rfl rfl ?_
  refine mv_iconst C rfl ?_
  refine mv_iadd C rfl ?_
  refine lw_sld Xk hX hbl hbA had2 (mv_dec ok_L_c4 (pc := 370) rfl 1 rfl rfl).1 (nI_add i 1) (by omega) (by omega) ?_
  refine lw_cV (as := [.int (xs (i + 1))]) (rest := []) (q := 0) Xk lk_37 (mv_dec ok_L_c4 (pc := 371) rfl 3 rfl rfl).1 R1 rfl (show _ < 97 by decide) rfl (Nat.le_of_ble_eq_true rfl) (Nat.le_refl _) (Nat.le_refl _) (Nat.le_refl _) (Nat.le_refl _) ?_
  refine mv_aload_n C rfl rfl ?_
  refine mv_aload_n C rfl rfl ?_
  refine mv_iload C rfl rfl ?_
  refine mv_iconst C rfl ?_
  refine mv_iadd C rfl ?_
  refine lw_sld Xk hX hbl hbA had2 (mv_dec ok_L_c4 (pc := 380) rfl 1 rfl rfl).1 (nI_add i 1) (by omega) (by omega) ?_
  refine lw_cV (as := [.int (xs (i + 1))]) (rest := [.int _]) (q := 68) Xk lk_41 (mv_dec ok_L_c4 (pc := 381) rfl 3 rfl rfl).1 R2 rfl (show _ < 97 by decide) rfl (Nat.le_of_ble_eq_true rfl) (Nat.le_refl _) (Nat.le_refl _) (Nat.le_refl _) (Nat.le_refl _) ?_
  refine mv_icmp_eq C rfl (fun _ => ?_) (fun h => absurd rfl h)
  exact next _ z2 hi2 hx2 hm2 w5 w6
theorem lc_5 (X : LX p s m meth c D ad adV cK b kx ks P0) (hX : va_X b L xs s s.heap) (hbl : b < s.heap.size) (had2 : ad 2000 = b) (hL : L ≤ 2048) (i : Nat) (hi4 : i + 4 ≤ L) (u : hM) (z : mv_Z) (hi : hI u) (hrx : rX u z) (hrm : rM u z) (w5 w6 : Option Value) (next : ∀ u z, hI u → rX u z → rM u z → ∀ w5 w6 : Option Value, LV p l e s m below meth c D ad cK b kx ks 1269 (LSt i w5 w6) [] (mv_E z)) : LV p l e s m below meth c D ad cK b kx ks 389 (LSt i w5 w6) [] (mv_E z) := by
  have Xk := mv_Cx_P X ok_L_c5
  have C := mv_closedL (l := l) (e := e) (below := below) (Q := lw_Z below #[Value.ref b] s) (S0 := mv_E z) Xk
  have hbA : ¬ s.heap.size ≤ b := Nat.not_le.mpr hbl
  obtain ⟨z1, R1, hx1, hf1⟩ := x_count u z (xs (i + 1)) hi hrx
  have hrm1 := rM_frame hrm hf1
  obtain ⟨z2, R2, hm2, hf2⟩ := m_count u z1 (xs (i + 1)) hi hrm1
  have hi2 := hi
  have hx2 := rX_frame hx1 hi2.2.2.2.2.2.2.2.2.2.2.2.2.2.2.2.2.1 hf2
  refine mv_aload_n C rfl rfl ?_
  refine mv_aload_n C rfl rfl ?_
  refine mv_iload C rfl rfl ?_
  refine mv_iconst C rfl ?_
  refine mv_iadd C rfl ?_
  refine lw_sld Xk hX hbl hbA had2 (mv_dec ok_L_c5 (pc := 395) rfl 1 rfl rfl).1 (nI_add i 1) (by omega) (by omega) ?_
  refine lw_cV (as := [.int (xs (i + 1))]) (rest := []) (q := 0) Xk lk_42 (mv_dec ok_L_c5 (pc := 396) rfl 3 rfl rfl).1 R1 rfl (show _ < 97 by decide) rfl (Nat.le_of_ble_eq_true rfl) (Nat.le_refl _) (Nat.le_refl _) (Nat.le_refl _) (Nat.le_refl _) ?_
  refine mv_aload_n C rfl rfl ?_
  refine mv_aload_n C rfl rfl ?_
  refine mv_iload C rfl rfl ?_
  refine mv_iconst C rfl ?_
  refine mv_iadd C rfl ?_
  refine lw_sld Xk hX hbl hbA had2 (mv_dec ok_L_c5 (pc := 405) rfl 1 rfl rfl).1 (nI_add i 1) (by omega) (by omega) ?_
  refine lw_cV (as := [.int (xs (i + 1))]) (rest := [.int _]) (q := 68) Xk lk_45 (mv_dec ok_L_c5 (pc := 406) rfl 3 rfl rfl).1 R2 rfl (show _ < 97 by decide) rfl (Nat.le_of_ble_eq_true rfl) (Nat.le_refl _) (Nat.le_refl _) (Nat.le_refl _) (Nat.le_refl _) ?_
  refine mv_icmp_eq C rfl (fun _ => ?_) (fun h => absurd rfl h)
  exact next _ z2 hi2 hx2 hm2 w5 w6
theorem lc_6 (X : LX p s m meth c D ad adV cK b kx ks P0) (hX : va_X b L xs s s.heap) (hbl : b < s.heap.size) (had2 : ad 2000 = b) (hL : L ≤ 2048) (i : Nat) (hi4 : i + 4 ≤ L) (u : hM) (z : mv_Z) (hi : hI u) (hrx : rX u z) (hrm : rM u z) (w5 w6 : Option Value) (next : ∀ u z, hI u → rX u z → rM u z → ∀ w5 w6 : Option Value, LV p l e s m below meth c D ad cK b kx ks 1269 (LSt i w5 w6) [] (mv_E z)) : LV p l e s m below meth c D ad cK b kx ks 414 (LSt i w5 w6) [] (mv_E z) := by
  have Xk := mv_Cx_P X ok_L_c6
  have C := mv_closedL (l := l) (e := e) (below := below) (Q := lw_Z below #[Value.ref b] s) (S0 := mv_E z) Xk
  have hbA : ¬ s.heap.size ≤ b := Nat.not_le.mpr hbl
  obtain ⟨z1, R1, hx1, hf1⟩ := x_far u z (xs (i + 1)) (xs (i + 2)) hi hrx
  have hrm1 := rM_frame hrm hf1
  obtain ⟨z2, R2, hm2, hf2⟩ := m_far u z1 (xs (i + 1)) (xs (i + 2)) hi hrm1
  have hi2 := hi
  have hx2 := rX_frame hx1 hi2.2.2.2.2.2.2.2.2.2.2.2.2.2.2.2.2.1 hf2
  refine mv_aload_n C rfl rfl ?_
  refine mv_aload_n C rfl rfl ?_
  refine mv_iload C rfl rfl ?_
  refine mv_iconst C rfl ?_
  refine mv_iadd C rfl ?_
  refine lw_sld Xk hX hbl hbA had2 (mv_dec ok_L_c6 (pc := 420) rfl 1 rfl rfl).1 (nI_add i 1) (by omega) (by omega) ?_
  refine mv_aload_n C rfl rfl ?_
  refine mv_iload C rfl rfl ?_
  refine mv_iconst C rfl ?_
  refine mv_iadd C rfl ?_
  refine lw_sld Xk hX hbl hbA had2 (mv_dec ok_L_c6 (pc := 426) rfl 1 rfl rfl).1 (nI_add i 2) (by omega) (by omega) ?_
  refine lw_cV (as := [.int (xs (i + 1)), .int (xs (i + 2))]) (rest := []) (q := 0) Xk lk_46 (mv_dec ok_L_c6 (pc := 427) rfl 3 rfl rfl).1 R1 rfl (show _ < 97 by decide) rfl (Nat.le_of_ble_eq_true rfl) (Nat.le_refl _) (Nat.le_refl _) (Nat.le_refl _) (Nat.le_refl _) ?_
  refine mv_aload_n C rfl rfl ?_
  refine mv_aload_n C rfl rfl ?_
  refine mv_iload C rfl rfl ?_
  refine mv_iconst C rfl ?_
  refine mv_iadd C rfl ?_
  refine lw_sld Xk hX hbl hbA had2 (mv_dec ok_L_c6 (pc := 436) rfl 1 rfl rfl).1 (nI_add i 1) (by omega) (by omega) ?_
  refine mv_aload_n C rfl rfl ?_
  refine mv_iload C rfl rfl ?_
  refine mv_iconst C rfl ?_
  refine mv_iadd C rfl ?_
  refine lw_sld Xk hX hbl hbA had2 (mv_dec ok_L_c6 (pc := 442) rfl 1 rfl rfl).1 (nI_add i 2) (by omega) (by omega) ?_
  refine lw_cV (as := [.int (xs (i + 1)), .int (xs (i + 2))]) (rest := [.int _]) (q := 68) Xk lk_50 (mv_dec ok_L_c6 (pc := 443) rfl 3 rfl rfl).1 R2 rfl (show _ < 97 by decide) rfl (Nat.le_of_ble_eq_true rfl) (Nat.le_refl _) (Nat.le_refl _) (Nat.le_refl _) (Nat.le_refl _) ?_
  refine mv_icmp_eq C rfl (fun _ => ?_) (fun h => absurd rfl h)
  exact next _ z2 hi2 hx2 hm2 w5 w6
theorem lc_7 (X : LX p s m meth c D ad adV cK b kx ks P0) (hX : va_X b L xs s s.heap) (hbl : b < s.heap.size) (had2 : ad 2000 = b) (hL : L ≤ 2048) (i : Nat) (hi4 : i + 4 ≤ L) (u : hM) (z : mv_Z) (hi : hI u) (hrx : rX u z) (hrm : rM u z) (w5 w6 : Option Value) (next : ∀ u z, hI u → rX u z → rM u z → ∀ w5 w6 : Option Value, LV p l e s m below meth c D ad cK b kx ks 1269 (LSt i w5 w6) [] (mv_E z)) : LV p l e s m below meth c D ad cK b kx ks 451 (LSt i w5 w6) [] (mv_E z) := by
  have Xk := mv_Cx_P X ok_L_c7
  have C := mv_closedL (l := l) (e := e) (below := below) (Q := lw_Z below #[Value.ref b] s) (S0 := mv_E z) Xk
  have hbA : ¬ s.heap.size ≤ b := Nat.not_le.mpr hbl
  obtain ⟨z1, R1, hx1, hf1⟩ := x_seen u z (xs (i + 1)) (xs (i + 2)) hi hrx
  have hrm1 := rM_frame hrm hf1
  obtain ⟨z2, R2, hm2, hf2⟩ := m_seen u z1 (xs (i + 1)) (xs (i + 2)) hi hrm1
  have hi2 := i_fact u 0 0 (xs (i + 1)) (xs (i + 2)) (Or.inl ⟨rfl, by decide⟩) hi
  have hx2 := rX_frame hx1 hi2.2.2.2.2.2.2.2.2.2.2.2.2.2.2.2.2.1 hf2
  refine mv_aload_n C rfl rfl ?_
  refine mv_aload_n C rfl rfl ?_
  refine mv_iload C rfl rfl ?_
  refine mv_iconst C rfl ?_
  refine mv_iadd C rfl ?_
  refine lw_sld Xk hX hbl hbA had2 (mv_dec ok_L_c7 (pc := 457) rfl 1 rfl rfl).1 (nI_add i 1) (by omega) (by omega) ?_
  refine mv_aload_n C rfl rfl ?_
  refine mv_iload C rfl rfl ?_
  refine mv_iconst C rfl ?_
  refine mv_iadd C rfl ?_
  refine lw_sld Xk hX hbl hbA had2 (mv_dec ok_L_c7 (pc := 463) rfl 1 rfl rfl).1 (nI_add i 2) (by omega) (by omega) ?_
  refine lw_cV (as := [.int (xs (i + 1)), .int (xs (i + 2))]) (rest := []) (q := 0) Xk lk_51 (mv_dec ok_L_c7 (pc := 464) rfl 3 rfl rfl).1 R1 rfl (show _ < 97 by decide) rfl (Nat.le_of_ble_eq_true rfl) (Nat.le_refl _) (Nat.le_refl _) (Nat.le_refl _) (Nat.le_refl _) ?_
  refine mv_aload_n C rfl rfl ?_
  refine mv_aload_n C rfl rfl ?_
  refine mv_iload C rfl rfl ?_
  refine mv_iconst C rfl ?_
  refine mv_iadd C rfl ?_
  refine lw_sld Xk hX hbl hbA had2 (mv_dec ok_L_c7 (pc := 473) rfl 1 rfl rfl).1 (nI_add i 1) (by omega) (by omega) ?_
  refine mv_aload_n C rfl rfl ?_
  refine mv_iload C rfl rfl ?_
  refine mv_iconst C rfl ?_
  refine mv_iadd C rfl ?_
  refine lw_sld Xk hX hbl hbA had2 (mv_dec ok_L_c7 (pc := 479) rfl 1 rfl rfl).1 (nI_add i 2) (by omega) (by omega) ?_
  refine lw_cV (as := [.int (xs (i + 1)), .int (xs (i + 2))]) (rest := [.int _]) (q := 68) Xk lk_54 (mv_dec ok_L_c7 (pc := 480) rfl 3 rfl rfl).1 R2 rfl (show _ < 97 by decide) rfl (Nat.le_of_ble_eq_true rfl) (Nat.le_refl _) (Nat.le_refl _) (Nat.le_refl _) (Nat.le_refl _) ?_
  refine mv_icmp_eq C rfl (fun _ => ?_) (fun h => absurd rfl h)
  exact next _ z2 hi2 hx2 hm2 w5 w6
theorem lc_8 (X : LX p s m meth c D ad adV cK b kx ks P0) (hX : va_X b L xs s s.heap) (hbl : b < s.heap.size) (had2 : ad 2000 = b) (hL : L ≤ 2048) (i : Nat) (hi4 : i + 4 ≤ L) (u : hM) (z : mv_Z) (hi : hI u) (hrx : rX u z) (hrm : rM u z) (w5 w6 : Option Value) (next : ∀ u z, hI u → rX u z → rM u z → ∀ w5 w6 : Option Value, LV p l e s m below meth c D ad cK b kx ks 1269 (LSt i w5 w6) [] (mv_E z)) : LV p l e s m below meth c D ad cK b kx ks 488 (LSt i w5 w6) [] (mv_E z) := by
  have Xk := mv_Cx_P X ok_L_c8
  have C := mv_closedL (l := l) (e := e) (below := below) (Q := lw_Z below #[Value.ref b] s) (S0 := mv_E z) Xk
  have hbA : ¬ s.heap.size ≤ b := Nat.not_le.mpr hbl
  obtain ⟨z1, R1, hx1, hf1⟩ := x_vain u z (xs (i + 1)) (xs (i + 2)) hi hrx
  have hrm1 := rM_frame hrm hf1
  obtain ⟨z2, R2, hm2, hf2⟩ := m_vain u z1 (xs (i + 1)) (xs (i + 2)) hi hrm1
  have hi2 := i_fact u 0 1 (xs (i + 1)) (xs (i + 2)) (Or.inl ⟨rfl, by decide⟩) hi
  have hx2 := rX_frame hx1 hi2.2.2.2.2.2.2.2.2.2.2.2.2.2.2.2.2.1 hf2
  refine mv_aload_n C rfl rfl ?_
  refine mv_aload_n C rfl rfl ?_
  refine mv_iload C rfl rfl ?_
  refine mv_iconst C rfl ?_
  refine mv_iadd C rfl ?_
  refine lw_sld Xk hX hbl hbA had2 (mv_dec ok_L_c8 (pc := 494) rfl 1 rfl rfl).1 (nI_add i 1) (by omega) (by omega) ?_
  refine mv_aload_n C rfl rfl ?_
  refine mv_iload C rfl rfl ?_
  refine mv_iconst C rfl ?_
  refine mv_iadd C rfl ?_
  refine lw_sld Xk hX hbl hbA had2 (mv_dec ok_L_c8 (pc := 500) rfl 1 rfl rfl).1 (nI_add i 2) (by omega) (by omega) ?_
  refine lw_cV (as := [.int (xs (i + 1)), .int (xs (i + 2))]) (rest := []) (q := 0) Xk lk_55 (mv_dec ok_L_c8 (pc := 501) rfl 3 rfl rfl).1 R1 rfl (show _ < 97 by decide) rfl (Nat.le_of_ble_eq_true rfl) (Nat.le_refl _) (Nat.le_refl _) (Nat.le_refl _) (Nat.le_refl _) ?_
  refine mv_aload_n C rfl rfl ?_
  refine mv_aload_n C rfl rfl ?_
  refine mv_iload C rfl rfl ?_
  refine mv_iconst C rfl ?_
  refine mv_iadd C rfl ?_
  refine lw_sld Xk hX hbl hbA had2 (mv_dec ok_L_c8 (pc := 510) rfl 1 rfl rfl).1 (nI_add i 1) (by omega) (by omega) ?_
  refine mv_aload_n C rfl rfl ?_
  refine mv_iload C rfl rfl ?_
  refine mv_iconst C rfl ?_
  refine mv_iadd C rfl ?_
  refine lw_sld Xk hX hbl hbA had2 (mv_dec ok_L_c8 (pc := 516) rfl 1 rfl rfl).1 (nI_add i 2) (by omega) (by omega) ?_
  refine lw_cV (as := [.int (xs (i + 1)), .int (xs (i + 2))]) (rest := [.int _]) (q := 68) Xk lk_58 (mv_dec ok_L_c8 (pc := 517) rfl 3 rfl rfl).1 R2 rfl (show _ < 97 by decide) rfl (Nat.le_of_ble_eq_true rfl) (Nat.le_refl _) (Nat.le_refl _) (Nat.le_refl _) (Nat.le_refl _) ?_
  refine mv_icmp_eq C rfl (fun _ => ?_) (fun h => absurd rfl h)
  exact next _ z2 hi2 hx2 hm2 w5 w6
theorem lc_9 (X : LX p s m meth c D ad adV cK b kx ks P0) (hX : va_X b L xs s s.heap) (hbl : b < s.heap.size) (had2 : ad 2000 = b) (hL : L ≤ 2048) (i : Nat) (hi4 : i + 4 ≤ L) (u : hM) (z : mv_Z) (hi : hI u) (hrx : rX u z) (hrm : rM u z) (w5 w6 : Option Value) (next : ∀ u z, hI u → rX u z → rM u z → ∀ w5 w6 : Option Value, LV p l e s m below meth c D ad cK b kx ks 1269 (LSt i w5 w6) [] (mv_E z)) : LV p l e s m below meth c D ad cK b kx ks 525 (LSt i w5 w6) [] (mv_E z) := by
  have Xk := mv_Cx_P X ok_L_c9
  have C := mv_closedL (l := l) (e := e) (below := below) (Q := lw_Z below #[Value.ref b] s) (S0 := mv_E z) Xk
  have hbA : ¬ s.heap.size ≤ b := Nat.not_le.mpr hbl
  obtain ⟨z1, R1, hx1, hf1⟩ := x_guarded u z (xs (i + 1)) (xs (i + 2)) hi hrx
  have hrm1 := rM_frame hrm hf1
  obtain ⟨z2, R2, hm2, hf2⟩ := m_guarded u z1 (xs (i + 1)) (xs (i + 2)) hi hrm1
  have hi2 := i_fact u 2 2 (xs (i + 1)) (xs (i + 2)) (Or.inr ⟨rfl, rfl⟩) hi
  have hx2 := rX_frame hx1 hi2.2.2.2.2.2.2.2.2.2.2.2.2.2.2.2.2.1 hf2
  refine mv_aload_n C rfl rfl ?_
  refine mv_aload_n C rfl rfl ?_
  refine mv_iload C rfl rfl ?_
  refine mv_iconst C rfl ?_
  refine mv_iadd C rfl ?_
  refine lw_sld Xk hX hbl hbA had2 (mv_dec ok_L_c9 (pc := 531) rfl 1 rfl rfl).1 (nI_add i 1) (by omega) (by omega) ?_
  refine mv_aload_n C rfl rfl ?_
  refine mv_iload C rfl rfl ?_
  refine mv_iconst C rfl ?_
  refine mv_iadd C rfl ?_
  refine lw_sld Xk hX hbl hbA had2 (mv_dec ok_L_c9 (pc := 537) rfl 1 rfl rfl).1 (nI_add i 2) (by omega) (by omega) ?_
  refine lw_cV (as := [.int (xs (i + 1)), .int (xs (i + 2))]) (rest := []) (q := 0) Xk lk_59 (mv_dec ok_L_c9 (pc := 538) rfl 3 rfl rfl).1 R1 rfl (show _ < 97 by decide) rfl (Nat.le_of_ble_eq_true rfl) (Nat.le_refl _) (Nat.le_refl _) (Nat.le_refl _) (Nat.le_refl _) ?_
  refine mv_aload_n C rfl rfl ?_
  refine mv_aload_n C rfl rfl ?_
  refine mv_iload C rfl rfl ?_
  refine mv_iconst C rfl ?_
  refine mv_iadd C rfl ?_
  refine lw_sld Xk hX hbl hbA had2 (mv_dec ok_L_c9 (pc := 547) rfl 1 rfl rfl).1 (nI_add i 1) (by omega) (by omega) ?_
  refine mv_aload_n C rfl rfl ?_
  refine mv_iload C rfl rfl ?_
  refine mv_iconst C rfl ?_
  refine mv_iadd C rfl ?_
  refine lw_sld Xk hX hbl hbA had2 (mv_dec ok_L_c9 (pc := 553) rfl 1 rfl rfl).1 (nI_add i 2) (by omega) (by omega) ?_
  refine lw_cV (as := [.int (xs (i + 1)), .int (xs (i + 2))]) (rest := [.int _]) (q := 68) Xk lk_62 (mv_dec ok_L_c9 (pc := 554) rfl 3 rfl rfl).1 R2 rfl (show _ < 97 by decide) rfl (Nat.le_of_ble_eq_true rfl) (Nat.le_refl _) (Nat.le_refl _) (Nat.le_refl _) (Nat.le_refl _) ?_
  refine mv_icmp_eq C rfl (fun _ => ?_) (fun h => absurd rfl h)
  exact next _ z2 hi2 hx2 hm2 w5 w6
theorem lc_10 (X : LX p s m meth c D ad adV cK b kx ks P0) (hX : va_X b L xs s s.heap) (hbl : b < s.heap.size) (had2 : ad 2000 = b) (hL : L ≤ 2048) (i : Nat) (hi4 : i + 4 ≤ L) (u : hM) (z : mv_Z) (hi : hI u) (hrx : rX u z) (hrm : rM u z) (w5 w6 : Option Value) (next : ∀ u z, hI u → rX u z → rM u z → ∀ w5 w6 : Option Value, LV p l e s m below meth c D ad cK b kx ks 1269 (LSt i w5 w6) [] (mv_E z)) : LV p l e s m below meth c D ad cK b kx ks 562 (LSt i w5 w6) [] (mv_E z) := by
  have Xk := mv_Cx_P X ok_L_c10
  have C := mv_closedL (l := l) (e := e) (below := below) (Q := lw_Z below #[Value.ref b] s) (S0 := mv_E z) Xk
  have hbA : ¬ s.heap.size ≤ b := Nat.not_le.mpr hbl
  by_cases hb0 : xs (i + 2) = 0
  · obtain ⟨z1, R1, hx1, hf1⟩ := x_strike u z (xs (i + 1)) 0 (by decide) hi hrx
    have hrm1 := rM_frame hrm hf1
    obtain ⟨z2, R2, hm2, hf2⟩ := m_strike u z1 (xs (i + 1)) 0 (by decide) hi hrm1
    have hi2 := i_strike u (xs (i + 1)) 0 (by decide) hi
    have hx2 := rX_frame hx1 hi2.2.2.2.2.2.2.2.2.2.2.2.2.2.2.2.2.1 hf2
    refine mv_aload_n C rfl rfl ?_
    refine mv_aload_n C rfl rfl ?_
    refine mv_iload C rfl rfl ?_
    refine mv_iconst C rfl ?_
    refine mv_iadd C rfl ?_
    refine lw_sld Xk hX hbl hbA had2 (mv_dec ok_L_c10 (pc := 568) rfl 1 rfl rfl).1 (nI_add i 1) (by omega) (by omega) ?_
    refine mv_aload_n C rfl rfl ?_
    refine mv_iload C rfl rfl ?_
    refine mv_iconst C rfl ?_
    refine mv_iadd C rfl ?_
    refine lw_sld Xk hX hbl hbA had2 (mv_dec ok_L_c10 (pc := 574) rfl 1 rfl rfl).1 (nI_add i 2) (by omega) (by omega) ?_
    refine mv_if_eq C rfl (fun _ => ?_) (fun h => absurd hb0 h)
    refine mv_iconst C rfl ?_
    refine lw_cV (as := [.int (xs (i + 1)), .int (nI 0)]) (rest := []) (q := 0) Xk lk_63 (mv_dec ok_L_c10 (pc := 583) rfl 3 rfl rfl).1 R1 rfl (show _ < 97 by decide) rfl (Nat.le_of_ble_eq_true rfl) (Nat.le_refl _) (Nat.le_refl _) (Nat.le_refl _) (Nat.le_refl _) ?_
    refine mv_aload_n C rfl rfl ?_
    refine mv_aload_n C rfl rfl ?_
    refine mv_iload C rfl rfl ?_
    refine mv_iconst C rfl ?_
    refine mv_iadd C rfl ?_
    refine lw_sld Xk hX hbl hbA had2 (mv_dec ok_L_c10 (pc := 592) rfl 1 rfl rfl).1 (nI_add i 1) (by omega) (by omega) ?_
    refine mv_aload_n C rfl rfl ?_
    refine mv_iload C rfl rfl ?_
    refine mv_iconst C rfl ?_
    refine mv_iadd C rfl ?_
    refine lw_sld Xk hX hbl hbA had2 (mv_dec ok_L_c10 (pc := 598) rfl 1 rfl rfl).1 (nI_add i 2) (by omega) (by omega) ?_
    refine mv_if_eq C rfl (fun _ => ?_) (fun h => absurd hb0 h)
    refine mv_iconst C rfl ?_
    refine lw_cV (as := [.int (xs (i + 1)), .int (nI 0)]) (rest := [.int _]) (q := 68) Xk lk_66 (mv_dec ok_L_c10 (pc := 607) rfl 3 rfl rfl).1 R2 rfl (show _ < 97 by decide) rfl (Nat.le_of_ble_eq_true rfl) (Nat.le_refl _) (Nat.le_refl _) (Nat.le_refl _) (Nat.le_refl _) ?_
    refine mv_icmp_eq C rfl (fun _ => ?_) (fun h => absurd rfl h)
    exact next _ z2 hi2 hx2 hm2 w5 w6
  · obtain ⟨z1, R1, hx1, hf1⟩ := x_strike u z (xs (i + 1)) 1 (by decide) hi hrx
    have hrm1 := rM_frame hrm hf1
    obtain ⟨z2, R2, hm2, hf2⟩ := m_strike u z1 (xs (i + 1)) 1 (by decide) hi hrm1
    have hi2 := i_strike u (xs (i + 1)) 1 (by decide) hi
    have hx2 := rX_frame hx1 hi2.2.2.2.2.2.2.2.2.2.2.2.2.2.2.2.2.1 hf2
    refine mv_aload_n C rfl rfl ?_
    refine mv_aload_n C rfl rfl ?_
    refine mv_iload C rfl rfl ?_
    refine mv_iconst C rfl ?_
    refine mv_iadd C rfl ?_
    refine lw_sld Xk hX hbl hbA had2 (mv_dec ok_L_c10 (pc := 568) rfl 1 rfl rfl).1 (nI_add i 1) (by omega) (by omega) ?_
    refine mv_aload_n C rfl rfl ?_
    refine mv_iload C rfl rfl ?_
    refine mv_iconst C rfl ?_
    refine mv_iadd C rfl ?_
    refine lw_sld Xk hX hbl hbA had2 (mv_dec ok_L_c10 (pc := 574) rfl 1 rfl rfl).1 (nI_add i 2) (by omega) (by omega) ?_
    refine mv_if_eq C rfl (fun h => absurd h hb0) (fun _ => ?_)
    refine mv_iconst C rfl ?_
    refine mv_goto C rfl ?_
    refine lw_cV (as := [.int (xs (i + 1)), .int (nI 1)]) (rest := []) (q := 0) Xk lk_63 (mv_dec ok_L_c10 (pc := 583) rfl 3 rfl rfl).1 R1 rfl (show _ < 97 by decide) rfl (Nat.le_of_ble_eq_true rfl) (Nat.le_refl _) (Nat.le_refl _) (Nat.le_refl _) (Nat.le_refl _) ?_
    refine mv_aload_n C rfl rfl ?_
    refine mv_aload_n C rfl rfl ?_
    refine mv_iload C rfl rfl ?_
    refine mv_iconst C rfl ?_
    refine mv_iadd C rfl ?_
    refine lw_sld Xk hX hbl hbA had2 (mv_dec ok_L_c10 (pc := 592) rfl 1 rfl rfl).1 (nI_add i 1) (by omega) (by omega) ?_
    refine mv_aload_n C rfl rfl ?_
    refine mv_iload C rfl rfl ?_
    refine mv_iconst C rfl ?_
    refine mv_iadd C rfl ?_
    refine lw_sld Xk hX hbl hbA had2 (mv_dec ok_L_c10 (pc := 598) rfl 1 rfl rfl).1 (nI_add i 2) (by omega) (by omega) ?_
    refine mv_if_eq C rfl (fun h => absurd h hb0) (fun _ => ?_)
    refine mv_iconst C rfl ?_
    refine mv_goto C rfl ?_
    refine lw_cV (as := [.int (xs (i + 1)), .int (nI 1)]) (rest := [.int _]) (q := 68) Xk lk_66 (mv_dec ok_L_c10 (pc := 607) rfl 3 rfl rfl).1 R2 rfl (show _ < 97 by decide) rfl (Nat.le_of_ble_eq_true rfl) (Nat.le_refl _) (Nat.le_refl _) (Nat.le_refl _) (Nat.le_refl _) ?_
    refine mv_icmp_eq C rfl (fun _ => ?_) (fun h => absurd rfl h)
    exact next _ z2 hi2 hx2 hm2 w5 w6
theorem lc_11 (X : LX p s m meth c D ad adV cK b kx ks P0) (hX : va_X b L xs s s.heap) (hbl : b < s.heap.size) (had2 : ad 2000 = b) (hL : L ≤ 2048) (i : Nat) (hi4 : i + 4 ≤ L) (u : hM) (z : mv_Z) (hi : hI u) (hrx : rX u z) (hrm : rM u z) (w5 w6 : Option Value) (next : ∀ u z, hI u → rX u z → rM u z → ∀ w5 w6 : Option Value, LV p l e s m below meth c D ad cK b kx ks 1269 (LSt i w5 w6) [] (mv_E z)) : LV p l e s m below meth c D ad cK b kx ks 615 (LSt i w5 w6) [] (mv_E z) := by
  have Xk := mv_Cx_P X ok_L_c11
  have C := mv_closedL (l := l) (e := e) (below := below) (Q := lw_Z below #[Value.ref b] s) (S0 := mv_E z) Xk
  have hbA : ¬ s.heap.size ≤ b := Nat.not_le.mpr hbl
  obtain ⟨z1, R1, hx1, hf1⟩ := x_may u z (xs (i + 1)) (xs (i + 2)) hi hrx
  have hrm1 := rM_frame hrm hf1
  obtain ⟨z2, R2, hm2, hf2⟩ := m_may u z1 (xs (i + 1)) (xs (i + 2)) hi hrm1
  have hi2 := hi
  have hx2 := rX_frame hx1 hi2.2.2.2.2.2.2.2.2.2.2.2.2.2.2.2.2.1 hf2
  refine mv_aload_n C rfl rfl ?_
  refine mv_aload_n C rfl rfl ?_
  refine mv_iload C rfl rfl ?_
  refine mv_iconst C rfl ?_
  refine mv_iadd C rfl ?_
  refine lw_sld Xk hX hbl hbA had2 (mv_dec ok_L_c11 (pc := 621) rfl 1 rfl rfl).1 (nI_add i 1) (by omega) (by omega) ?_
  refine mv_aload_n C rfl rfl ?_
  refine mv_iload C rfl rfl ?_
  refine mv_iconst C rfl ?_
  refine mv_iadd C rfl ?_
  refine lw_sld Xk hX hbl hbA had2 (mv_dec ok_L_c11 (pc := 627) rfl 1 rfl rfl).1 (nI_add i 2) (by omega) (by omega) ?_
  refine lw_cV (as := [.int (xs (i + 1)), .int (xs (i + 2))]) (rest := []) (q := 0) Xk lk_67 (mv_dec ok_L_c11 (pc := 628) rfl 3 rfl rfl).1 R1 rfl (show _ < 97 by decide) rfl (Nat.le_of_ble_eq_true rfl) (Nat.le_refl _) (Nat.le_refl _) (Nat.le_refl _) (Nat.le_refl _) ?_
  refine mv_aload_n C rfl rfl ?_
  refine mv_aload_n C rfl rfl ?_
  refine mv_iload C rfl rfl ?_
  refine mv_iconst C rfl ?_
  refine mv_iadd C rfl ?_
  refine lw_sld Xk hX hbl hbA had2 (mv_dec ok_L_c11 (pc := 637) rfl 1 rfl rfl).1 (nI_add i 1) (by omega) (by omega) ?_
  refine mv_aload_n C rfl rfl ?_
  refine mv_iload C rfl rfl ?_
  refine mv_iconst C rfl ?_
  refine mv_iadd C rfl ?_
  refine lw_sld Xk hX hbl hbA had2 (mv_dec ok_L_c11 (pc := 643) rfl 1 rfl rfl).1 (nI_add i 2) (by omega) (by omega) ?_
  refine lw_cV (as := [.int (xs (i + 1)), .int (xs (i + 2))]) (rest := [.int _]) (q := 68) Xk lk_70 (mv_dec ok_L_c11 (pc := 644) rfl 3 rfl rfl).1 R2 rfl (show _ < 97 by decide) rfl (Nat.le_of_ble_eq_true rfl) (Nat.le_refl _) (Nat.le_refl _) (Nat.le_refl _) (Nat.le_refl _) ?_
  refine mv_icmp_eq C rfl (fun _ => ?_) (fun h => absurd rfl h)
  exact next _ z2 hi2 hx2 hm2 w5 w6
theorem lc_12 (X : LX p s m meth c D ad adV cK b kx ks P0) (hX : va_X b L xs s s.heap) (hbl : b < s.heap.size) (had2 : ad 2000 = b) (hL : L ≤ 2048) (i : Nat) (hi4 : i + 4 ≤ L) (u : hM) (z : mv_Z) (hi : hI u) (hrx : rX u z) (hrm : rM u z) (w5 w6 : Option Value) (next : ∀ u z, hI u → rX u z → rM u z → ∀ w5 w6 : Option Value, LV p l e s m below meth c D ad cK b kx ks 1269 (LSt i w5 w6) [] (mv_E z)) : LV p l e s m below meth c D ad cK b kx ks 652 (LSt i w5 w6) [] (mv_E z) := by
  have Xk := mv_Cx_P X ok_L_c12
  have C := mv_closedL (l := l) (e := e) (below := below) (Q := lw_Z below #[Value.ref b] s) (S0 := mv_E z) Xk
  have hbA : ¬ s.heap.size ≤ b := Nat.not_le.mpr hbl
  obtain ⟨z1, R1, hx1, hf1⟩ := x_was u z (xs (i + 1)) (xs (i + 2)) hi hrx
  have hrm1 := rM_frame hrm hf1
  obtain ⟨z2, R2, hm2, hf2⟩ := m_was u z1 (xs (i + 1)) (xs (i + 2)) hi hrm1
  have hi2 := hi
  have hx2 := rX_frame hx1 hi2.2.2.2.2.2.2.2.2.2.2.2.2.2.2.2.2.1 hf2
  refine mv_aload_n C rfl rfl ?_
  refine mv_aload_n C rfl rfl ?_
  refine mv_iload C rfl rfl ?_
  refine mv_iconst C rfl ?_
  refine mv_iadd C rfl ?_
  refine lw_sld Xk hX hbl hbA had2 (mv_dec ok_L_c12 (pc := 658) rfl 1 rfl rfl).1 (nI_add i 1) (by omega) (by omega) ?_
  refine mv_aload_n C rfl rfl ?_
  refine mv_iload C rfl rfl ?_
  refine mv_iconst C rfl ?_
  refine mv_iadd C rfl ?_
  refine lw_sld Xk hX hbl hbA had2 (mv_dec ok_L_c12 (pc := 664) rfl 1 rfl rfl).1 (nI_add i 2) (by omega) (by omega) ?_
  refine lw_cV (as := [.int (xs (i + 1)), .int (xs (i + 2))]) (rest := []) (q := 0) Xk lk_71 (mv_dec ok_L_c12 (pc := 665) rfl 3 rfl rfl).1 R1 rfl (show _ < 97 by decide) rfl (Nat.le_of_ble_eq_true rfl) (Nat.le_refl _) (Nat.le_refl _) (Nat.le_refl _) (Nat.le_refl _) ?_
  refine mv_aload_n C rfl rfl ?_
  refine mv_aload_n C rfl rfl ?_
  refine mv_iload C rfl rfl ?_
  refine mv_iconst C rfl ?_
  refine mv_iadd C rfl ?_
  refine lw_sld Xk hX hbl hbA had2 (mv_dec ok_L_c12 (pc := 674) rfl 1 rfl rfl).1 (nI_add i 1) (by omega) (by omega) ?_
  refine mv_aload_n C rfl rfl ?_
  refine mv_iload C rfl rfl ?_
  refine mv_iconst C rfl ?_
  refine mv_iadd C rfl ?_
  refine lw_sld Xk hX hbl hbA had2 (mv_dec ok_L_c12 (pc := 680) rfl 1 rfl rfl).1 (nI_add i 2) (by omega) (by omega) ?_
  refine lw_cV (as := [.int (xs (i + 1)), .int (xs (i + 2))]) (rest := [.int _]) (q := 68) Xk lk_74 (mv_dec ok_L_c12 (pc := 681) rfl 3 rfl rfl).1 R2 rfl (show _ < 97 by decide) rfl (Nat.le_of_ble_eq_true rfl) (Nat.le_refl _) (Nat.le_refl _) (Nat.le_refl _) (Nat.le_refl _) ?_
  refine mv_icmp_eq C rfl (fun _ => ?_) (fun h => absurd rfl h)
  exact next _ z2 hi2 hx2 hm2 w5 w6
theorem lc_13 (X : LX p s m meth c D ad adV cK b kx ks P0) (hX : va_X b L xs s s.heap) (hbl : b < s.heap.size) (had2 : ad 2000 = b) (hL : L ≤ 2048) (i : Nat) (hi4 : i + 4 ≤ L) (u : hM) (z : mv_Z) (hi : hI u) (hrx : rX u z) (hrm : rM u z) (w5 w6 : Option Value) (next : ∀ u z, hI u → rX u z → rM u z → ∀ w5 w6 : Option Value, LV p l e s m below meth c D ad cK b kx ks 1269 (LSt i w5 w6) [] (mv_E z)) : LV p l e s m below meth c D ad cK b kx ks 689 (LSt i w5 w6) [] (mv_E z) := by
  have Xk := mv_Cx_P X ok_L_c13
  have C := mv_closedL (l := l) (e := e) (below := below) (Q := lw_Z below #[Value.ref b] s) (S0 := mv_E z) Xk
  have hbA : ¬ s.heap.size ≤ b := Nat.not_le.mpr hbl
  obtain ⟨z1, R1, hx1, hf1⟩ := x_places u z (xs (i + 1)) (xs (i + 2)) hi hrx
  have hrm1 := rM_frame hrm hf1
  obtain ⟨z2, R2, hm2, hf2⟩ := m_places u z1 (xs (i + 1)) (xs (i + 2)) hi hrm1
  have hi2 := hi
  have hx2 := rX_frame hx1 hi2.2.2.2.2.2.2.2.2.2.2.2.2.2.2.2.2.1 hf2
  refine mv_aload_n C rfl rfl ?_
  refine mv_aload_n C rfl rfl ?_
  refine mv_iload C rfl rfl ?_
  refine mv_iconst C rfl ?_
  refine mv_iadd C rfl ?_
  refine lw_sld Xk hX hbl hbA had2 (mv_dec ok_L_c13 (pc := 695) rfl 1 rfl rfl).1 (nI_add i 1) (by omega) (by omega) ?_
  refine mv_aload_n C rfl rfl ?_
  refine mv_iload C rfl rfl ?_
  refine mv_iconst C rfl ?_
  refine mv_iadd C rfl ?_
  refine lw_sld Xk hX hbl hbA had2 (mv_dec ok_L_c13 (pc := 701) rfl 1 rfl rfl).1 (nI_add i 2) (by omega) (by omega) ?_
  refine lw_cV (as := [.int (xs (i + 1)), .int (xs (i + 2))]) (rest := []) (q := 0) Xk lk_75 (mv_dec ok_L_c13 (pc := 702) rfl 3 rfl rfl).1 R1 rfl (show _ < 97 by decide) rfl (Nat.le_of_ble_eq_true rfl) (Nat.le_refl _) (Nat.le_refl _) (Nat.le_refl _) (Nat.le_refl _) ?_
  refine mv_aload_n C rfl rfl ?_
  refine mv_aload_n C rfl rfl ?_
  refine mv_iload C rfl rfl ?_
  refine mv_iconst C rfl ?_
  refine mv_iadd C rfl ?_
  refine lw_sld Xk hX hbl hbA had2 (mv_dec ok_L_c13 (pc := 711) rfl 1 rfl rfl).1 (nI_add i 1) (by omega) (by omega) ?_
  refine mv_aload_n C rfl rfl ?_
  refine mv_iload C rfl rfl ?_
  refine mv_iconst C rfl ?_
  refine mv_iadd C rfl ?_
  refine lw_sld Xk hX hbl hbA had2 (mv_dec ok_L_c13 (pc := 717) rfl 1 rfl rfl).1 (nI_add i 2) (by omega) (by omega) ?_
  refine lw_cV (as := [.int (xs (i + 1)), .int (xs (i + 2))]) (rest := [.int _]) (q := 68) Xk lk_78 (mv_dec ok_L_c13 (pc := 718) rfl 3 rfl rfl).1 R2 rfl (show _ < 97 by decide) rfl (Nat.le_of_ble_eq_true rfl) (Nat.le_refl _) (Nat.le_refl _) (Nat.le_refl _) (Nat.le_refl _) ?_
  refine mv_icmp_eq C rfl (fun _ => ?_) (fun h => absurd rfl h)
  exact next _ z2 hi2 hx2 hm2 w5 w6
theorem lc_14 (X : LX p s m meth c D ad adV cK b kx ks P0) (hX : va_X b L xs s s.heap) (hbl : b < s.heap.size) (had2 : ad 2000 = b) (hL : L ≤ 2048) (i : Nat) (hi4 : i + 4 ≤ L) (u : hM) (z : mv_Z) (hi : hI u) (hrx : rX u z) (hrm : rM u z) (w5 w6 : Option Value) (next : ∀ u z, hI u → rX u z → rM u z → ∀ w5 w6 : Option Value, LV p l e s m below meth c D ad cK b kx ks 1269 (LSt i w5 w6) [] (mv_E z)) : LV p l e s m below meth c D ad cK b kx ks 726 (LSt i w5 w6) [] (mv_E z) := by
  have Xk := mv_Cx_P X ok_L_c14
  have C := mv_closedL (l := l) (e := e) (below := below) (Q := lw_Z below #[Value.ref b] s) (S0 := mv_E z) Xk
  have hbA : ¬ s.heap.size ≤ b := Nat.not_le.mpr hbl
  obtain ⟨z1, R1, hx1, hf1⟩ := x_first u z (xs (i + 1)) hi hrx
  have hrm1 := rM_frame hrm hf1
  obtain ⟨z2, R2, hm2, hf2⟩ := m_first u z1 (xs (i + 1)) hi hrm1
  have hi2 := hi
  have hx2 := rX_frame hx1 hi2.2.2.2.2.2.2.2.2.2.2.2.2.2.2.2.2.1 hf2
  refine mv_aload_n C rfl rfl ?_
  refine mv_aload_n C rfl rfl ?_
  refine mv_iload C rfl rfl ?_
  refine mv_iconst C rfl ?_
  refine mv_iadd C rfl ?_
  refine lw_sld Xk hX hbl hbA had2 (mv_dec ok_L_c14 (pc := 732) rfl 1 rfl rfl).1 (nI_add i 1) (by omega) (by omega) ?_
  refine lw_cV (as := [.int (xs (i + 1))]) (rest := []) (q := 0) Xk lk_79 (mv_dec ok_L_c14 (pc := 733) rfl 3 rfl rfl).1 R1 rfl (show _ < 97 by decide) rfl (Nat.le_of_ble_eq_true rfl) (Nat.le_refl _) (Nat.le_refl _) (Nat.le_refl _) (Nat.le_refl _) ?_
  refine mv_aload_n C rfl rfl ?_
  refine mv_aload_n C rfl rfl ?_
  refine mv_iload C rfl rfl ?_
  refine mv_iconst C rfl ?_
  refine mv_iadd C rfl ?_
  refine lw_sld Xk hX hbl hbA had2 (mv_dec ok_L_c14 (pc := 742) rfl 1 rfl rfl).1 (nI_add i 1) (by omega) (by omega) ?_
  refine lw_cV (as := [.int (xs (i + 1))]) (rest := [.int _]) (q := 68) Xk lk_82 (mv_dec ok_L_c14 (pc := 743) rfl 3 rfl rfl).1 R2 rfl (show _ < 97 by decide) rfl (Nat.le_of_ble_eq_true rfl) (Nat.le_refl _) (Nat.le_refl _) (Nat.le_refl _) (Nat.le_refl _) ?_
  refine mv_icmp_eq C rfl (fun _ => ?_) (fun h => absurd rfl h)
  exact next _ z2 hi2 hx2 hm2 w5 w6
theorem lc_15 (X : LX p s m meth c D ad adV cK b kx ks P0) (hX : va_X b L xs s s.heap) (hbl : b < s.heap.size) (had2 : ad 2000 = b) (hL : L ≤ 2048) (i : Nat) (hi4 : i + 4 ≤ L) (u : hM) (z : mv_Z) (hi : hI u) (hrx : rX u z) (hrm : rM u z) (w5 w6 : Option Value) (next : ∀ u z, hI u → rX u z → rM u z → ∀ w5 w6 : Option Value, LV p l e s m below meth c D ad cK b kx ks 1269 (LSt i w5 w6) [] (mv_E z)) : LV p l e s m below meth c D ad cK b kx ks 751 (LSt i w5 w6) [] (mv_E z) := by
  have Xk := mv_Cx_P X ok_L_c15
  have C := mv_closedL (l := l) (e := e) (below := below) (Q := lw_Z below #[Value.ref b] s) (S0 := mv_E z) Xk
  have hbA : ¬ s.heap.size ≤ b := Nat.not_le.mpr hbl
  obtain ⟨z1, R1, hx1, hf1⟩ := x_trail u z (xs (i + 1)) (xs (i + 2)) hi hrx
  have hrm1 := rM_frame hrm hf1
  obtain ⟨z2, R2, hm2, hf2⟩ := m_trail u z1 (xs (i + 1)) (xs (i + 2)) hi hrm1
  have hi2 := i_trail u (xs (i + 1)) (xs (i + 2)) hi
  have hx2 := rX_frame hx1 hi2.2.2.2.2.2.2.2.2.2.2.2.2.2.2.2.2.1 hf2
  refine mv_aload_n C rfl rfl ?_
  refine mv_aload_n C rfl rfl ?_
  refine mv_iload C rfl rfl ?_
  refine mv_iconst C rfl ?_
  refine mv_iadd C rfl ?_
  refine lw_sld Xk hX hbl hbA had2 (mv_dec ok_L_c15 (pc := 757) rfl 1 rfl rfl).1 (nI_add i 1) (by omega) (by omega) ?_
  refine mv_aload_n C rfl rfl ?_
  refine mv_iload C rfl rfl ?_
  refine mv_iconst C rfl ?_
  refine mv_iadd C rfl ?_
  refine lw_sld Xk hX hbl hbA had2 (mv_dec ok_L_c15 (pc := 763) rfl 1 rfl rfl).1 (nI_add i 2) (by omega) (by omega) ?_
  refine lw_cV (as := [.int (xs (i + 1)), .int (xs (i + 2))]) (rest := []) (q := 0) Xk lk_83 (mv_dec ok_L_c15 (pc := 764) rfl 3 rfl rfl).1 R1 rfl (show _ < 97 by decide) rfl (Nat.le_of_ble_eq_true rfl) (Nat.le_refl _) (Nat.le_refl _) (Nat.le_refl _) (Nat.le_refl _) ?_
  refine mv_aload_n C rfl rfl ?_
  refine mv_aload_n C rfl rfl ?_
  refine mv_iload C rfl rfl ?_
  refine mv_iconst C rfl ?_
  refine mv_iadd C rfl ?_
  refine lw_sld Xk hX hbl hbA had2 (mv_dec ok_L_c15 (pc := 773) rfl 1 rfl rfl).1 (nI_add i 1) (by omega) (by omega) ?_
  refine mv_aload_n C rfl rfl ?_
  refine mv_iload C rfl rfl ?_
  refine mv_iconst C rfl ?_
  refine mv_iadd C rfl ?_
  refine lw_sld Xk hX hbl hbA had2 (mv_dec ok_L_c15 (pc := 779) rfl 1 rfl rfl).1 (nI_add i 2) (by omega) (by omega) ?_
  refine lw_cV (as := [.int (xs (i + 1)), .int (xs (i + 2))]) (rest := [.int _]) (q := 68) Xk lk_86 (mv_dec ok_L_c15 (pc := 780) rfl 3 rfl rfl).1 R2 rfl (show _ < 97 by decide) rfl (Nat.le_of_ble_eq_true rfl) (Nat.le_refl _) (Nat.le_refl _) (Nat.le_refl _) (Nat.le_refl _) ?_
  refine mv_icmp_eq C rfl (fun _ => ?_) (fun h => absurd rfl h)
  exact next _ z2 hi2 hx2 hm2 w5 w6
theorem lc_16 (X : LX p s m meth c D ad adV cK b kx ks P0) (hX : va_X b L xs s s.heap) (hbl : b < s.heap.size) (had2 : ad 2000 = b) (hL : L ≤ 2048) (i : Nat) (hi4 : i + 4 ≤ L) (u : hM) (z : mv_Z) (hi : hI u) (hrx : rX u z) (hrm : rM u z) (w5 w6 : Option Value) (next : ∀ u z, hI u → rX u z → rM u z → ∀ w5 w6 : Option Value, LV p l e s m below meth c D ad cK b kx ks 1269 (LSt i w5 w6) [] (mv_E z)) : LV p l e s m below meth c D ad cK b kx ks 788 (LSt i w5 w6) [] (mv_E z) := by
  have Xk := mv_Cx_P X ok_L_c16
  have C := mv_closedL (l := l) (e := e) (below := below) (Q := lw_Z below #[Value.ref b] s) (S0 := mv_E z) Xk
  have hbA : ¬ s.heap.size ≤ b := Nat.not_le.mpr hbl
  obtain ⟨z1, R1, hx1, hf1⟩ := x_quarrel u z  hi hrx
  have hrm1 := rM_frame hrm hf1
  obtain ⟨z2, R2, hm2, hf2⟩ := m_quarrel u z1  hi hrm1
  have hi2 := hi
  have hx2 := rX_frame hx1 hi2.2.2.2.2.2.2.2.2.2.2.2.2.2.2.2.2.1 hf2
  refine mv_aload_n C rfl rfl ?_
  refine lw_cV (as := []) (rest := []) (q := 0) Xk lk_87 (mv_dec ok_L_c16 (pc := 789) rfl 3 rfl rfl).1 R1 rfl (show _ < 97 by decide) rfl (Nat.le_of_ble_eq_true rfl) (Nat.le_refl _) (Nat.le_refl _) (Nat.le_refl _) (Nat.le_refl _) ?_
  refine mv_aload_n C rfl rfl ?_
  refine lw_cV (as := []) (rest := [.long (a_quarrel u)]) (q := 68) Xk lk_91 (mv_dec ok_L_c16 (pc := 793) rfl 3 rfl rfl).1 R2 rfl (show _ < 97 by decide) rfl (Nat.le_of_ble_eq_true rfl) (Nat.le_refl _) (Nat.le_refl _) (Nat.le_refl _) (Nat.le_refl _) ?_
  refine mv_lcmp C rfl ?_
  refine mv_if_eq C rfl (fun _ => ?_) (fun h => absurd lg_cmp_self h)
  exact next _ z2 hi2 hx2 hm2 w5 w6
theorem lc_17 (X : LX p s m meth c D ad adV cK b kx ks P0) (hX : va_X b L xs s s.heap) (hbl : b < s.heap.size) (had2 : ad 2000 = b) (hL : L ≤ 2048) (i : Nat) (hi4 : i + 4 ≤ L) (u : hM) (z : mv_Z) (hi : hI u) (hrx : rX u z) (hrm : rM u z) (w5 w6 : Option Value) (next : ∀ u z, hI u → rX u z → rM u z → ∀ w5 w6 : Option Value, LV p l e s m below meth c D ad cK b kx ks 1269 (LSt i w5 w6) [] (mv_E z)) : LV p l e s m below meth c D ad cK b kx ks 802 (LSt i w5 w6) [] (mv_E z) := by
  have Xk := mv_Cx_P X ok_L_c17
  have C := mv_closedL (l := l) (e := e) (below := below) (Q := lw_Z below #[Value.ref b] s) (S0 := mv_E z) Xk
  have hbA : ¬ s.heap.size ≤ b := Nat.not_le.mpr hbl
  obtain ⟨z1, R1, hx1, hf1⟩ := x_watch u z (xs (i + 1)) (xs (i + 2)) hi hrx
  have hrm1 := rM_frame hrm hf1
  obtain ⟨z2, R2, hm2, hf2⟩ := m_watch u z1 (xs (i + 1)) (xs (i + 2)) hi hrm1
  have hi2 := i_watch u (xs (i + 1)) (xs (i + 2)) hi
  have hx2 := rX_frame hx1 hi2.2.2.2.2.2.2.2.2.2.2.2.2.2.2.2.2.1 hf2
  refine mv_aload_n C rfl rfl ?_
  refine mv_aload_n C rfl rfl ?_
  refine mv_iload C rfl rfl ?_
  refine mv_iconst C rfl ?_
  refine mv_iadd C rfl ?_
  refine lw_sld Xk hX hbl hbA had2 (mv_dec ok_L_c17 (pc := 808) rfl 1 rfl rfl).1 (nI_add i 1) (by omega) (by omega) ?_
  refine mv_aload_n C rfl rfl ?_
  refine mv_iload C rfl rfl ?_
  refine mv_iconst C rfl ?_
  refine mv_iadd C rfl ?_
  refine lw_sld Xk hX hbl hbA had2 (mv_dec ok_L_c17 (pc := 814) rfl 1 rfl rfl).1 (nI_add i 2) (by omega) (by omega) ?_
  refine lw_cV (as := [.int (xs (i + 1)), .int (xs (i + 2))]) (rest := []) (q := 0) Xk lk_92 (mv_dec ok_L_c17 (pc := 815) rfl 3 rfl rfl).1 R1 rfl (show _ < 97 by decide) rfl (Nat.le_of_ble_eq_true rfl) (Nat.le_refl _) (Nat.le_refl _) (Nat.le_refl _) (Nat.le_refl _) ?_
  refine mv_aload_n C rfl rfl ?_
  refine mv_aload_n C rfl rfl ?_
  refine mv_iload C rfl rfl ?_
  refine mv_iconst C rfl ?_
  refine mv_iadd C rfl ?_
  refine lw_sld Xk hX hbl hbA had2 (mv_dec ok_L_c17 (pc := 824) rfl 1 rfl rfl).1 (nI_add i 1) (by omega) (by omega) ?_
  refine mv_aload_n C rfl rfl ?_
  refine mv_iload C rfl rfl ?_
  refine mv_iconst C rfl ?_
  refine mv_iadd C rfl ?_
  refine lw_sld Xk hX hbl hbA had2 (mv_dec ok_L_c17 (pc := 830) rfl 1 rfl rfl).1 (nI_add i 2) (by omega) (by omega) ?_
  refine lw_cV (as := [.int (xs (i + 1)), .int (xs (i + 2))]) (rest := [.int _]) (q := 68) Xk lk_95 (mv_dec ok_L_c17 (pc := 831) rfl 3 rfl rfl).1 R2 rfl (show _ < 97 by decide) rfl (Nat.le_of_ble_eq_true rfl) (Nat.le_refl _) (Nat.le_refl _) (Nat.le_refl _) (Nat.le_refl _) ?_
  refine mv_icmp_eq C rfl (fun _ => ?_) (fun h => absurd rfl h)
  exact next _ z2 hi2 hx2 hm2 w5 w6
theorem lc_18 (X : LX p s m meth c D ad adV cK b kx ks P0) (hX : va_X b L xs s s.heap) (hbl : b < s.heap.size) (had2 : ad 2000 = b) (hL : L ≤ 2048) (i : Nat) (hi4 : i + 4 ≤ L) (u : hM) (z : mv_Z) (hi : hI u) (hrx : rX u z) (hrm : rM u z) (w5 w6 : Option Value) (next : ∀ u z, hI u → rX u z → rM u z → ∀ w5 w6 : Option Value, LV p l e s m below meth c D ad cK b kx ks 1269 (LSt i w5 w6) [] (mv_E z)) : LV p l e s m below meth c D ad cK b kx ks 839 (LSt i w5 w6) [] (mv_E z) := by
  have Xk := mv_Cx_P X ok_L_c18
  have C := mv_closedL (l := l) (e := e) (below := below) (Q := lw_Z below #[Value.ref b] s) (S0 := mv_E z) Xk
  have hbA : ¬ s.heap.size ≤ b := Nat.not_le.mpr hbl
  obtain ⟨z1, R1, hx1, hf1⟩ := x_trait u z (xs (i + 1)) (xs (i + 2)) (xs (i + 3)) hi hrx
  have hrm1 := rM_frame hrm hf1
  obtain ⟨z2, R2, hm2, hf2⟩ := m_trait u z1 (xs (i + 1)) (xs (i + 2)) (xs (i + 3)) hi hrm1
  have hi2 := i_trait u (xs (i + 1)) (xs (i + 2)) (xs (i + 3)) hi
  have hx2 := rX_frame hx1 hi2.2.2.2.2.2.2.2.2.2.2.2.2.2.2.2.2.1 hf2
  refine mv_aload_n C rfl rfl ?_
  refine mv_aload_n C rfl rfl ?_
  refine mv_iload C rfl rfl ?_
  refine mv_iconst C rfl ?_
  refine mv_iadd C rfl ?_
  refine lw_sld Xk hX hbl hbA had2 (mv_dec ok_L_c18 (pc := 845) rfl 1 rfl rfl).1 (nI_add i 1) (by omega) (by omega) ?_
  refine mv_aload_n C rfl rfl ?_
  refine mv_iload C rfl rfl ?_
  refine mv_iconst C rfl ?_
  refine mv_iadd C rfl ?_
  refine lw_sld Xk hX hbl hbA had2 (mv_dec ok_L_c18 (pc := 851) rfl 1 rfl rfl).1 (nI_add i 2) (by omega) (by omega) ?_
  refine mv_aload_n C rfl rfl ?_
  refine mv_iload C rfl rfl ?_
  refine mv_iconst C rfl ?_
  refine mv_iadd C rfl ?_
  refine lw_sld Xk hX hbl hbA had2 (mv_dec ok_L_c18 (pc := 857) rfl 1 rfl rfl).1 (nI_add i 3) (by omega) (by omega) ?_
  refine lw_cV (as := [.int (xs (i + 1)), .int (xs (i + 2)), .int (xs (i + 3))]) (rest := []) (q := 0) Xk lk_96 (mv_dec ok_L_c18 (pc := 858) rfl 3 rfl rfl).1 R1 rfl (show _ < 97 by decide) rfl (Nat.le_of_ble_eq_true rfl) (Nat.le_refl _) (Nat.le_refl _) (Nat.le_refl _) (Nat.le_refl _) ?_
  refine mv_aload_n C rfl rfl ?_
  refine mv_aload_n C rfl rfl ?_
  refine mv_iload C rfl rfl ?_
  refine mv_iconst C rfl ?_
  refine mv_iadd C rfl ?_
  refine lw_sld Xk hX hbl hbA had2 (mv_dec ok_L_c18 (pc := 867) rfl 1 rfl rfl).1 (nI_add i 1) (by omega) (by omega) ?_
  refine mv_aload_n C rfl rfl ?_
  refine mv_iload C rfl rfl ?_
  refine mv_iconst C rfl ?_
  refine mv_iadd C rfl ?_
  refine lw_sld Xk hX hbl hbA had2 (mv_dec ok_L_c18 (pc := 873) rfl 1 rfl rfl).1 (nI_add i 2) (by omega) (by omega) ?_
  refine mv_aload_n C rfl rfl ?_
  refine mv_iload C rfl rfl ?_
  refine mv_iconst C rfl ?_
  refine mv_iadd C rfl ?_
  refine lw_sld Xk hX hbl hbA had2 (mv_dec ok_L_c18 (pc := 879) rfl 1 rfl rfl).1 (nI_add i 3) (by omega) (by omega) ?_
  refine lw_cV (as := [.int (xs (i + 1)), .int (xs (i + 2)), .int (xs (i + 3))]) (rest := [.int _]) (q := 68) Xk lk_100 (mv_dec ok_L_c18 (pc := 880) rfl 3 rfl rfl).1 R2 rfl (show _ < 97 by decide) rfl (Nat.le_of_ble_eq_true rfl) (Nat.le_refl _) (Nat.le_refl _) (Nat.le_refl _) (Nat.le_refl _) ?_
  refine mv_icmp_eq C rfl (fun _ => ?_) (fun h => absurd rfl h)
  exact next _ z2 hi2 hx2 hm2 w5 w6
theorem lc_19 (X : LX p s m meth c D ad adV cK b kx ks P0) (hX : va_X b L xs s s.heap) (hbl : b < s.heap.size) (had2 : ad 2000 = b) (hL : L ≤ 2048) (i : Nat) (hi4 : i + 4 ≤ L) (u : hM) (z : mv_Z) (hi : hI u) (hrx : rX u z) (hrm : rM u z) (w5 w6 : Option Value) (next : ∀ u z, hI u → rX u z → rM u z → ∀ w5 w6 : Option Value, LV p l e s m below meth c D ad cK b kx ks 1269 (LSt i w5 w6) [] (mv_E z)) : LV p l e s m below meth c D ad cK b kx ks 888 (LSt i w5 w6) [] (mv_E z) := by
  have Xk := mv_Cx_P X ok_L_c19
  have C := mv_closedL (l := l) (e := e) (below := below) (Q := lw_Z below #[Value.ref b] s) (S0 := mv_E z) Xk
  have hbA : ¬ s.heap.size ≤ b := Nat.not_le.mpr hbl
  obtain ⟨z1, R1, hx1, hf1⟩ := x_telling u z (xs (i + 1)) hi hrx
  have hrm1 := rM_frame hrm hf1
  obtain ⟨z2, R2, hm2, hf2⟩ := m_telling u z1 (xs (i + 1)) hi hrm1
  have hi2 := i_telling u (xs (i + 1)) hi
  have hx2 := rX_frame hx1 hi2.2.2.2.2.2.2.2.2.2.2.2.2.2.2.2.2.1 hf2
  refine mv_aload_n C rfl rfl ?_
  refine mv_aload_n C rfl rfl ?_
  refine mv_iload C rfl rfl ?_
  refine mv_iconst C rfl ?_
  refine mv_iadd C rfl ?_
  refine lw_sld Xk hX hbl hbA had2 (mv_dec ok_L_c19 (pc := 894) rfl 1 rfl rfl).1 (nI_add i 1) (by omega) (by omega) ?_
  refine lw_cV (as := [.int (xs (i + 1))]) (rest := []) (q := 0) Xk lk_101 (mv_dec ok_L_c19 (pc := 895) rfl 3 rfl rfl).1 R1 rfl (show _ < 97 by decide) rfl (Nat.le_of_ble_eq_true rfl) (Nat.le_refl _) (Nat.le_refl _) (Nat.le_refl _) (Nat.le_refl _) ?_
  refine mv_aload_n C rfl rfl ?_
  refine mv_aload_n C rfl rfl ?_
  refine mv_iload C rfl rfl ?_
  refine mv_iconst C rfl ?_
  refine mv_iadd C rfl ?_
  refine lw_sld Xk hX hbl hbA had2 (mv_dec ok_L_c19 (pc := 904) rfl 1 rfl rfl).1 (nI_add i 1) (by omega) (by omega) ?_
  refine lw_cV (as := [.int (xs (i + 1))]) (rest := [.int _]) (q := 68) Xk lk_104 (mv_dec ok_L_c19 (pc := 905) rfl 3 rfl rfl).1 R2 rfl (show _ < 97 by decide) rfl (Nat.le_of_ble_eq_true rfl) (Nat.le_refl _) (Nat.le_refl _) (Nat.le_refl _) (Nat.le_refl _) ?_
  refine mv_icmp_eq C rfl (fun _ => ?_) (fun h => absurd rfl h)
  exact next _ z2 hi2 hx2 hm2 w5 w6
theorem lc_20 (X : LX p s m meth c D ad adV cK b kx ks P0) (hX : va_X b L xs s s.heap) (hbl : b < s.heap.size) (had2 : ad 2000 = b) (hL : L ≤ 2048) (i : Nat) (hi4 : i + 4 ≤ L) (u : hM) (z : mv_Z) (hi : hI u) (hrx : rX u z) (hrm : rM u z) (w5 w6 : Option Value) (next : ∀ u z, hI u → rX u z → rM u z → ∀ w5 w6 : Option Value, LV p l e s m below meth c D ad cK b kx ks 1269 (LSt i w5 w6) [] (mv_E z)) : LV p l e s m below meth c D ad cK b kx ks 913 (LSt i w5 w6) [] (mv_E z) := by
  have Xk := mv_Cx_P X ok_L_c20
  have C := mv_closedL (l := l) (e := e) (below := below) (Q := lw_Z below #[Value.ref b] s) (S0 := mv_E z) Xk
  have hbA : ¬ s.heap.size ≤ b := Nat.not_le.mpr hbl
  obtain ⟨z1, R1, hx1, hf1⟩ := x_person u z (xs (i + 1)) (xs (i + 2)) (xs (i + 3)) hi hrx
  have hrm1 := rM_frame hrm hf1
  obtain ⟨z2, R2, hm2, hf2⟩ := m_person u z1 (xs (i + 1)) (xs (i + 2)) (xs (i + 3)) hi hrm1
  have hi2 := i_person u (xs (i + 1)) (xs (i + 2)) (xs (i + 3)) hi
  have hx2 := rX_frame hx1 hi2.2.2.2.2.2.2.2.2.2.2.2.2.2.2.2.2.1 hf2
  refine mv_aload_n C rfl rfl ?_
  refine mv_aload_n C rfl rfl ?_
  refine mv_iload C rfl rfl ?_
  refine mv_iconst C rfl ?_
  refine mv_iadd C rfl ?_
  refine lw_sld Xk hX hbl hbA had2 (mv_dec ok_L_c20 (pc := 919) rfl 1 rfl rfl).1 (nI_add i 1) (by omega) (by omega) ?_
  refine mv_aload_n C rfl rfl ?_
  refine mv_iload C rfl rfl ?_
  refine mv_iconst C rfl ?_
  refine mv_iadd C rfl ?_
  refine lw_sld Xk hX hbl hbA had2 (mv_dec ok_L_c20 (pc := 925) rfl 1 rfl rfl).1 (nI_add i 2) (by omega) (by omega) ?_
  refine mv_aload_n C rfl rfl ?_
  refine mv_iload C rfl rfl ?_
  refine mv_iconst C rfl ?_
  refine mv_iadd C rfl ?_
  refine lw_sld Xk hX hbl hbA had2 (mv_dec ok_L_c20 (pc := 931) rfl 1 rfl rfl).1 (nI_add i 3) (by omega) (by omega) ?_
  refine lw_cV (as := [.int (xs (i + 1)), .int (xs (i + 2)), .int (xs (i + 3))]) (rest := []) (q := 0) Xk lk_105 (mv_dec ok_L_c20 (pc := 932) rfl 3 rfl rfl).1 R1 rfl (show _ < 97 by decide) rfl (Nat.le_of_ble_eq_true rfl) (Nat.le_refl _) (Nat.le_refl _) (Nat.le_refl _) (Nat.le_refl _) ?_
  refine mv_aload_n C rfl rfl ?_
  refine mv_aload_n C rfl rfl ?_
  refine mv_iload C rfl rfl ?_
  refine mv_iconst C rfl ?_
  refine mv_iadd C rfl ?_
  refine lw_sld Xk hX hbl hbA had2 (mv_dec ok_L_c20 (pc := 941) rfl 1 rfl rfl).1 (nI_add i 1) (by omega) (by omega) ?_
  refine mv_aload_n C rfl rfl ?_
  refine mv_iload C rfl rfl ?_
  refine mv_iconst C rfl ?_
  refine mv_iadd C rfl ?_
  refine lw_sld Xk hX hbl hbA had2 (mv_dec ok_L_c20 (pc := 947) rfl 1 rfl rfl).1 (nI_add i 2) (by omega) (by omega) ?_
  refine mv_aload_n C rfl rfl ?_
  refine mv_iload C rfl rfl ?_
  refine mv_iconst C rfl ?_
  refine mv_iadd C rfl ?_
  refine lw_sld Xk hX hbl hbA had2 (mv_dec ok_L_c20 (pc := 953) rfl 1 rfl rfl).1 (nI_add i 3) (by omega) (by omega) ?_
  refine lw_cV (as := [.int (xs (i + 1)), .int (xs (i + 2)), .int (xs (i + 3))]) (rest := [.int _]) (q := 68) Xk lk_108 (mv_dec ok_L_c20 (pc := 954) rfl 3 rfl rfl).1 R2 rfl (show _ < 97 by decide) rfl (Nat.le_of_ble_eq_true rfl) (Nat.le_refl _) (Nat.le_refl _) (Nat.le_refl _) (Nat.le_refl _) ?_
  refine mv_icmp_eq C rfl (fun _ => ?_) (fun h => absurd rfl h)
  exact next _ z2 hi2 hx2 hm2 w5 w6
theorem lc_21 (X : LX p s m meth c D ad adV cK b kx ks P0) (hX : va_X b L xs s s.heap) (hbl : b < s.heap.size) (had2 : ad 2000 = b) (hL : L ≤ 2048) (i : Nat) (hi4 : i + 4 ≤ L) (u : hM) (z : mv_Z) (hi : hI u) (hrx : rX u z) (hrm : rM u z) (w5 w6 : Option Value) (next : ∀ u z, hI u → rX u z → rM u z → ∀ w5 w6 : Option Value, LV p l e s m below meth c D ad cK b kx ks 1269 (LSt i w5 w6) [] (mv_E z)) : LV p l e s m below meth c D ad cK b kx ks 962 (LSt i w5 w6) [] (mv_E z) := by
  have Xk := mv_Cx_P X ok_L_c21
  have C := mv_closedL (l := l) (e := e) (below := below) (Q := lw_Z below #[Value.ref b] s) (S0 := mv_E z) Xk
  have hbA : ¬ s.heap.size ≤ b := Nat.not_le.mpr hbl
  obtain ⟨z1, R1, hx1, hf1⟩ := x_fits u z (xs (i + 1)) hi hrx
  have hrm1 := rM_frame hrm hf1
  obtain ⟨z2, R2, hm2, hf2⟩ := m_fits u z1 (xs (i + 1)) hi hrm1
  have hi2 := hi
  have hx2 := rX_frame hx1 hi2.2.2.2.2.2.2.2.2.2.2.2.2.2.2.2.2.1 hf2
  refine mv_aload_n C rfl rfl ?_
  refine mv_aload_n C rfl rfl ?_
  refine mv_iload C rfl rfl ?_
  refine mv_iconst C rfl ?_
  refine mv_iadd C rfl ?_
  refine lw_sld Xk hX hbl hbA had2 (mv_dec ok_L_c21 (pc := 968) rfl 1 rfl rfl).1 (nI_add i 1) (by omega) (by omega) ?_
  refine lw_cV (as := [.int (xs (i + 1))]) (rest := []) (q := 0) Xk lk_109 (mv_dec ok_L_c21 (pc := 969) rfl 3 rfl rfl).1 R1 rfl (show _ < 97 by decide) rfl (Nat.le_of_ble_eq_true rfl) (Nat.le_refl _) (Nat.le_refl _) (Nat.le_refl _) (Nat.le_refl _) ?_
  refine mv_aload_n C rfl rfl ?_
  refine mv_aload_n C rfl rfl ?_
  refine mv_iload C rfl rfl ?_
  refine mv_iconst C rfl ?_
  refine mv_iadd C rfl ?_
  refine lw_sld Xk hX hbl hbA had2 (mv_dec ok_L_c21 (pc := 978) rfl 1 rfl rfl).1 (nI_add i 1) (by omega) (by omega) ?_
  refine lw_cV (as := [.int (xs (i + 1))]) (rest := [.int _]) (q := 68) Xk lk_112 (mv_dec ok_L_c21 (pc := 979) rfl 3 rfl rfl).1 R2 rfl (show _ < 97 by decide) rfl (Nat.le_of_ble_eq_true rfl) (Nat.le_refl _) (Nat.le_refl _) (Nat.le_refl _) (Nat.le_refl _) ?_
  refine mv_icmp_eq C rfl (fun _ => ?_) (fun h => absurd rfl h)
  exact next _ z2 hi2 hx2 hm2 w5 w6
theorem lc_22 (X : LX p s m meth c D ad adV cK b kx ks P0) (hX : va_X b L xs s s.heap) (hbl : b < s.heap.size) (had2 : ad 2000 = b) (hL : L ≤ 2048) (i : Nat) (hi4 : i + 4 ≤ L) (u : hM) (z : mv_Z) (hi : hI u) (hrx : rX u z) (hrm : rM u z) (w5 w6 : Option Value) (next : ∀ u z, hI u → rX u z → rM u z → ∀ w5 w6 : Option Value, LV p l e s m below meth c D ad cK b kx ks 1269 (LSt i w5 w6) [] (mv_E z)) : LV p l e s m below meth c D ad cK b kx ks 987 (LSt i w5 w6) [] (mv_E z) := by
  have Xk := mv_Cx_P X ok_L_c22
  have C := mv_closedL (l := l) (e := e) (below := below) (Q := lw_Z below #[Value.ref b] s) (S0 := mv_E z) Xk
  have hbA : ¬ s.heap.size ≤ b := Nat.not_le.mpr hbl
  obtain ⟨z1, R1, hx1, hf1⟩ := x_many u z (xs (i + 1)) hi hrx
  have hrm1 := rM_frame hrm hf1
  obtain ⟨z2, R2, hm2, hf2⟩ := m_many u z1 (xs (i + 1)) hi hrm1
  have hi2 := hi
  have hx2 := rX_frame hx1 hi2.2.2.2.2.2.2.2.2.2.2.2.2.2.2.2.2.1 hf2
  refine mv_aload_n C rfl rfl ?_
  refine mv_aload_n C rfl rfl ?_
  refine mv_iload C rfl rfl ?_
  refine mv_iconst C rfl ?_
  refine mv_iadd C rfl ?_
  refine lw_sld Xk hX hbl hbA had2 (mv_dec ok_L_c22 (pc := 993) rfl 1 rfl rfl).1 (nI_add i 1) (by omega) (by omega) ?_
  refine lw_cV (as := [.int (xs (i + 1))]) (rest := []) (q := 0) Xk lk_113 (mv_dec ok_L_c22 (pc := 994) rfl 3 rfl rfl).1 R1 rfl (show _ < 97 by decide) rfl (Nat.le_of_ble_eq_true rfl) (Nat.le_refl _) (Nat.le_refl _) (Nat.le_refl _) (Nat.le_refl _) ?_
  refine mv_aload_n C rfl rfl ?_
  refine mv_aload_n C rfl rfl ?_
  refine mv_iload C rfl rfl ?_
  refine mv_iconst C rfl ?_
  refine mv_iadd C rfl ?_
  refine lw_sld Xk hX hbl hbA had2 (mv_dec ok_L_c22 (pc := 1003) rfl 1 rfl rfl).1 (nI_add i 1) (by omega) (by omega) ?_
  refine lw_cV (as := [.int (xs (i + 1))]) (rest := [.int _]) (q := 68) Xk lk_116 (mv_dec ok_L_c22 (pc := 1004) rfl 3 rfl rfl).1 R2 rfl (show _ < 97 by decide) rfl (Nat.le_of_ble_eq_true rfl) (Nat.le_refl _) (Nat.le_refl _) (Nat.le_refl _) (Nat.le_refl _) ?_
  refine mv_icmp_eq C rfl (fun _ => ?_) (fun h => absurd rfl h)
  exact next _ z2 hi2 hx2 hm2 w5 w6
theorem lc_23 (X : LX p s m meth c D ad adV cK b kx ks P0) (hX : va_X b L xs s s.heap) (hbl : b < s.heap.size) (had2 : ad 2000 = b) (hL : L ≤ 2048) (i : Nat) (hi4 : i + 4 ≤ L) (u : hM) (z : mv_Z) (hi : hI u) (hrx : rX u z) (hrm : rM u z) (w5 w6 : Option Value) (next : ∀ u z, hI u → rX u z → rM u z → ∀ w5 w6 : Option Value, LV p l e s m below meth c D ad cK b kx ks 1269 (LSt i w5 w6) [] (mv_E z)) : LV p l e s m below meth c D ad cK b kx ks 1012 (LSt i w5 w6) [] (mv_E z) := by
  have Xk := mv_Cx_P X ok_L_c23
  have C := mv_closedL (l := l) (e := e) (below := below) (Q := lw_Z below #[Value.ref b] s) (S0 := mv_E z) Xk
  have hbA : ¬ s.heap.size ≤ b := Nat.not_le.mpr hbl
  obtain ⟨z1, R1, hx1, hf1⟩ := x_suspects u z (xs (i + 1)) hi hrx
  have hrm1 := rM_frame hrm hf1
  obtain ⟨z2, R2, hm2, hf2⟩ := m_suspects u z1 (xs (i + 1)) hi hrm1
  have hi2 := hi
  have hx2 := rX_frame hx1 hi2.2.2.2.2.2.2.2.2.2.2.2.2.2.2.2.2.1 hf2
  refine mv_aload_n C rfl rfl ?_
  refine mv_aload_n C rfl rfl ?_
  refine mv_iload C rfl rfl ?_
  refine mv_iconst C rfl ?_
  refine mv_iadd C rfl ?_
  refine lw_sld Xk hX hbl hbA had2 (mv_dec ok_L_c23 (pc := 1018) rfl 1 rfl rfl).1 (nI_add i 1) (by omega) (by omega) ?_
  refine lw_cV (as := [.int (xs (i + 1))]) (rest := []) (q := 0) Xk lk_117 (mv_dec ok_L_c23 (pc := 1019) rfl 3 rfl rfl).1 R1 rfl (show _ < 97 by decide) rfl (Nat.le_of_ble_eq_true rfl) (Nat.le_refl _) (Nat.le_refl _) (Nat.le_refl _) (Nat.le_refl _) ?_
  refine mv_aload_n C rfl rfl ?_
  refine mv_aload_n C rfl rfl ?_
  refine mv_iload C rfl rfl ?_
  refine mv_iconst C rfl ?_
  refine mv_iadd C rfl ?_
  refine lw_sld Xk hX hbl hbA had2 (mv_dec ok_L_c23 (pc := 1028) rfl 1 rfl rfl).1 (nI_add i 1) (by omega) (by omega) ?_
  refine lw_cV (as := [.int (xs (i + 1))]) (rest := [.int _]) (q := 68) Xk lk_120 (mv_dec ok_L_c23 (pc := 1029) rfl 3 rfl rfl).1 R2 rfl (show _ < 97 by decide) rfl (Nat.le_of_ble_eq_true rfl) (Nat.le_refl _) (Nat.le_refl _) (Nat.le_refl _) (Nat.le_refl _) ?_
  refine mv_icmp_eq C rfl (fun _ => ?_) (fun h => absurd rfl h)
  exact next _ z2 hi2 hx2 hm2 w5 w6
theorem lc_24 (X : LX p s m meth c D ad adV cK b kx ks P0) (hX : va_X b L xs s s.heap) (hbl : b < s.heap.size) (had2 : ad 2000 = b) (hL : L ≤ 2048) (i : Nat) (hi4 : i + 4 ≤ L) (u : hM) (z : mv_Z) (hi : hI u) (hrx : rX u z) (hrm : rM u z) (w5 w6 : Option Value) (next : ∀ u z, hI u → rX u z → rM u z → ∀ w5 w6 : Option Value, LV p l e s m below meth c D ad cK b kx ks 1269 (LSt i w5 w6) [] (mv_E z)) : LV p l e s m below meth c D ad cK b kx ks 1037 (LSt i w5 w6) [] (mv_E z) := by
  have Xk := mv_Cx_P X ok_L_c24
  have C := mv_closedL (l := l) (e := e) (below := below) (Q := lw_Z below #[Value.ref b] s) (S0 := mv_E z) Xk
  have hbA : ¬ s.heap.size ≤ b := Nat.not_le.mpr hbl
  obtain ⟨z1, R1, hx1, hf1⟩ := x_sign u z (xs (i + 1)) hi hrx
  have hrm1 := rM_frame hrm hf1
  obtain ⟨z2, R2, hm2, hf2⟩ := m_sign u z1 (xs (i + 1)) hi hrm1
  have hi2 := i_sign u (xs (i + 1)) hi
  have hx2 := rX_frame hx1 hi2.2.2.2.2.2.2.2.2.2.2.2.2.2.2.2.2.1 hf2
  refine mv_aload_n C rfl rfl ?_
  refine mv_aload_n C rfl rfl ?_
  refine mv_iload C rfl rfl ?_
  refine mv_iconst C rfl ?_
  refine mv_iadd C rfl ?_
  refine lw_sld Xk hX hbl hbA had2 (mv_dec ok_L_c24 (pc := 1043) rfl 1 rfl rfl).1 (nI_add i 1) (by omega) (by omega) ?_
  refine lw_cV (as := [.int (xs (i + 1))]) (rest := []) (q := 0) Xk lk_121 (mv_dec ok_L_c24 (pc := 1044) rfl 3 rfl rfl).1 R1 rfl (show _ < 97 by decide) rfl (Nat.le_of_ble_eq_true rfl) (Nat.le_refl _) (Nat.le_refl _) (Nat.le_refl _) (Nat.le_refl _) ?_
  refine mv_aload_n C rfl rfl ?_
  refine mv_aload_n C rfl rfl ?_
  refine mv_iload C rfl rfl ?_
  refine mv_iconst C rfl ?_
  refine mv_iadd C rfl ?_
  refine lw_sld Xk hX hbl hbA had2 (mv_dec ok_L_c24 (pc := 1053) rfl 1 rfl rfl).1 (nI_add i 1) (by omega) (by omega) ?_
  refine lw_cV (as := [.int (xs (i + 1))]) (rest := [.int _]) (q := 68) Xk lk_124 (mv_dec ok_L_c24 (pc := 1054) rfl 3 rfl rfl).1 R2 rfl (show _ < 97 by decide) rfl (Nat.le_of_ble_eq_true rfl) (Nat.le_refl _) (Nat.le_refl _) (Nat.le_refl _) (Nat.le_refl _) ?_
  refine mv_icmp_eq C rfl (fun _ => ?_) (fun h => absurd rfl h)
  exact next _ z2 hi2 hx2 hm2 w5 w6
theorem lc_25 (X : LX p s m meth c D ad adV cK b kx ks P0) (hX : va_X b L xs s s.heap) (hbl : b < s.heap.size) (had2 : ad 2000 = b) (hL : L ≤ 2048) (i : Nat) (hi4 : i + 4 ≤ L) (u : hM) (z : mv_Z) (hi : hI u) (hrx : rX u z) (hrm : rM u z) (w5 w6 : Option Value) (next : ∀ u z, hI u → rX u z → rM u z → ∀ w5 w6 : Option Value, LV p l e s m below meth c D ad cK b kx ks 1269 (LSt i w5 w6) [] (mv_E z)) : LV p l e s m below meth c D ad cK b kx ks 1062 (LSt i w5 w6) [] (mv_E z) := by
  have Xk := mv_Cx_P X ok_L_c25
  have C := mv_closedL (l := l) (e := e) (below := below) (Q := lw_Z below #[Value.ref b] s) (S0 := mv_E z) Xk
  have hbA : ¬ s.heap.size ≤ b := Nat.not_le.mpr hbl
  obtain ⟨z1, R1, hx1, hf1⟩ := x_end u z (xs (i + 1)) hi hrx
  have hrm1 := rM_frame hrm hf1
  obtain ⟨z2, R2, hm2, hf2⟩ := m_end u z1 (xs (i + 1)) hi hrm1
  have hi2 := i_end u (xs (i + 1)) hi
  have hx2 := rX_frame hx1 hi2.2.2.2.2.2.2.2.2.2.2.2.2.2.2.2.2.1 hf2
  refine mv_aload_n C rfl rfl ?_
  refine mv_aload_n C rfl rfl ?_
  refine mv_iload C rfl rfl ?_
  refine mv_iconst C rfl ?_
  refine mv_iadd C rfl ?_
  refine lw_sld Xk hX hbl hbA had2 (mv_dec ok_L_c25 (pc := 1068) rfl 1 rfl rfl).1 (nI_add i 1) (by omega) (by omega) ?_
  refine lw_cV (as := [.int (xs (i + 1))]) (rest := []) (q := 0) Xk lk_125 (mv_dec ok_L_c25 (pc := 1069) rfl 3 rfl rfl).1 R1 rfl (show _ < 97 by decide) rfl (Nat.le_of_ble_eq_true rfl) (Nat.le_refl _) (Nat.le_refl _) (Nat.le_refl _) (Nat.le_refl _) ?_
  refine mv_aload_n C rfl rfl ?_
  refine mv_aload_n C rfl rfl ?_
  refine mv_iload C rfl rfl ?_
  refine mv_iconst C rfl ?_
  refine mv_iadd C rfl ?_
  refine lw_sld Xk hX hbl hbA had2 (mv_dec ok_L_c25 (pc := 1078) rfl 1 rfl rfl).1 (nI_add i 1) (by omega) (by omega) ?_
  refine lw_cV (as := [.int (xs (i + 1))]) (rest := [.int _]) (q := 68) Xk lk_128 (mv_dec ok_L_c25 (pc := 1079) rfl 3 rfl rfl).1 R2 rfl (show _ < 97 by decide) rfl (Nat.le_of_ble_eq_true rfl) (Nat.le_refl _) (Nat.le_refl _) (Nat.le_refl _) (Nat.le_refl _) ?_
  refine mv_icmp_eq C rfl (fun _ => ?_) (fun h => absurd rfl h)
  exact next _ z2 hi2 hx2 hm2 w5 w6
theorem lc_26 (X : LX p s m meth c D ad adV cK b kx ks P0) (hX : va_X b L xs s s.heap) (hbl : b < s.heap.size) (had2 : ad 2000 = b) (hL : L ≤ 2048) (i : Nat) (hi4 : i + 4 ≤ L) (u : hM) (z : mv_Z) (hi : hI u) (hrx : rX u z) (hrm : rM u z) (w5 w6 : Option Value) (next : ∀ u z, hI u → rX u z → rM u z → ∀ w5 w6 : Option Value, LV p l e s m below meth c D ad cK b kx ks 1269 (LSt i w5 w6) [] (mv_E z)) : LV p l e s m below meth c D ad cK b kx ks 1087 (LSt i w5 w6) [] (mv_E z) := by
  have Xk := mv_Cx_P X ok_L_c26
  have C := mv_closedL (l := l) (e := e) (below := below) (Q := lw_Z below #[Value.ref b] s) (S0 := mv_E z) Xk
  have hbA : ¬ s.heap.size ≤ b := Nat.not_le.mpr hbl
  obtain ⟨z1, R1, hx1, hf1⟩ := x_act u z  hi hrx
  have hrm1 := rM_frame hrm hf1
  obtain ⟨z2, R2, hm2, hf2⟩ := m_act u z1  hi hrm1
  have hi2 := i_act u hi
  have hx2 := rX_frame hx1 hi2.2.2.2.2.2.2.2.2.2.2.2.2.2.2.2.2.1 hf2
  refine mv_aload_n C rfl rfl ?_
  refine lw_cV (as := []) (rest := []) (q := 0) Xk lk_129 (mv_dec ok_L_c26 (pc := 1088) rfl 3 rfl rfl).1 R1 rfl (show _ < 97 by decide) rfl (Nat.le_of_ble_eq_true rfl) (Nat.le_refl _) (Nat.le_refl _) (Nat.le_refl _) (Nat.le_refl _) ?_
  refine mv_aload_n C rfl rfl ?_
  refine lw_cV (as := []) (rest := [.int _]) (q := 68) Xk lk_133 (mv_dec ok_L_c26 (pc := 1092) rfl 3 rfl rfl).1 R2 rfl (show _ < 97 by decide) rfl (Nat.le_of_ble_eq_true rfl) (Nat.le_refl _) (Nat.le_refl _) (Nat.le_refl _) (Nat.le_refl _) ?_
  refine mv_icmp_eq C rfl (fun _ => ?_) (fun h => absurd rfl h)
  exact next _ z2 hi2 hx2 hm2 w5 w6
theorem lc_27 (X : LX p s m meth c D ad adV cK b kx ks P0) (hX : va_X b L xs s s.heap) (hbl : b < s.heap.size) (had2 : ad 2000 = b) (hL : L ≤ 2048) (i : Nat) (hi4 : i + 4 ≤ L) (u : hM) (z : mv_Z) (hi : hI u) (hrx : rX u z) (hrm : rM u z) (w5 w6 : Option Value) (next : ∀ u z, hI u → rX u z → rM u z → ∀ w5 w6 : Option Value, LV p l e s m below meth c D ad cK b kx ks 1269 (LSt i w5 w6) [] (mv_E z)) : LV p l e s m below meth c D ad cK b kx ks 1100 (LSt i w5 w6) [] (mv_E z) := by
  have Xk := mv_Cx_P X ok_L_c27
  have C := mv_closedL (l := l) (e := e) (below := below) (Q := lw_Z below #[Value.ref b] s) (S0 := mv_E z) Xk
  have hbA : ¬ s.heap.size ≤ b := Nat.not_le.mpr hbl
  obtain ⟨z1, R1, hx1, hf1⟩ := x_repeal u z  hi hrx
  have hrm1 := rM_frame hrm hf1
  obtain ⟨z2, R2, hm2, hf2⟩ := m_repeal u z1  hi hrm1
  have hi2 := i_repeal u hi
  have hx2 := rX_frame hx1 hi2.2.2.2.2.2.2.2.2.2.2.2.2.2.2.2.2.1 hf2
  refine mv_aload_n C rfl rfl ?_
  refine lw_cV (as := []) (rest := []) (q := 0) Xk lk_134 (mv_dec ok_L_c27 (pc := 1101) rfl 3 rfl rfl).1 R1 rfl (show _ < 97 by decide) rfl (Nat.le_of_ble_eq_true rfl) (Nat.le_refl _) (Nat.le_refl _) (Nat.le_refl _) (Nat.le_refl _) ?_
  refine mv_aload_n C rfl rfl ?_
  refine lw_cV (as := []) (rest := [.int _]) (q := 68) Xk lk_137 (mv_dec ok_L_c27 (pc := 1105) rfl 3 rfl rfl).1 R2 rfl (show _ < 97 by decide) rfl (Nat.le_of_ble_eq_true rfl) (Nat.le_refl _) (Nat.le_refl _) (Nat.le_refl _) (Nat.le_refl _) ?_
  refine mv_icmp_eq C rfl (fun _ => ?_) (fun h => absurd rfl h)
  exact next _ z2 hi2 hx2 hm2 w5 w6
theorem lc_28 (X : LX p s m meth c D ad adV cK b kx ks P0) (hX : va_X b L xs s s.heap) (hbl : b < s.heap.size) (had2 : ad 2000 = b) (hL : L ≤ 2048) (i : Nat) (hi4 : i + 4 ≤ L) (u : hM) (z : mv_Z) (hi : hI u) (hrx : rX u z) (hrm : rM u z) (w5 w6 : Option Value) (next : ∀ u z, hI u → rX u z → rM u z → ∀ w5 w6 : Option Value, LV p l e s m below meth c D ad cK b kx ks 1269 (LSt i w5 w6) [] (mv_E z)) : LV p l e s m below meth c D ad cK b kx ks 1113 (LSt i w5 w6) [] (mv_E z) := by
  have Xk := mv_Cx_P X ok_L_c28
  have C := mv_closedL (l := l) (e := e) (below := below) (Q := lw_Z below #[Value.ref b] s) (S0 := mv_E z) Xk
  have hbA : ¬ s.heap.size ≤ b := Nat.not_le.mpr hbl
  obtain ⟨z1, R1, hx1, hf1⟩ := x_claim u z (xs (i + 1)) (xs (i + 2)) hi hrx
  have hrm1 := rM_frame hrm hf1
  obtain ⟨z2, R2, hm2, hf2⟩ := m_claim u z1 (xs (i + 1)) (xs (i + 2)) hi hrm1
  have hi2 := i_claim u (xs (i + 1)) (xs (i + 2)) hi
  have hx2 := rX_frame hx1 hi2.2.2.2.2.2.2.2.2.2.2.2.2.2.2.2.2.1 hf2
  refine mv_aload_n C rfl rfl ?_
  refine mv_aload_n C rfl rfl ?_
  refine mv_iload C rfl rfl ?_
  refine mv_iconst C rfl ?_
  refine mv_iadd C rfl ?_
  refine lw_sld Xk hX hbl hbA had2 (mv_dec ok_L_c28 (pc := 1119) rfl 1 rfl rfl).1 (nI_add i 1) (by omega) (by omega) ?_
  refine mv_aload_n C rfl rfl ?_
  refine mv_iload C rfl rfl ?_
  refine mv_iconst C rfl ?_
  refine mv_iadd C rfl ?_
  refine lw_sld Xk hX hbl hbA had2 (mv_dec ok_L_c28 (pc := 1125) rfl 1 rfl rfl).1 (nI_add i 2) (by omega) (by omega) ?_
  refine lw_cV (as := [.int (xs (i + 1)), .int (xs (i + 2))]) (rest := []) (q := 0) Xk lk_138 (mv_dec ok_L_c28 (pc := 1126) rfl 3 rfl rfl).1 R1 rfl (show _ < 97 by decide) rfl (Nat.le_of_ble_eq_true rfl) (Nat.le_refl _) (Nat.le_refl _) (Nat.le_refl _) (Nat.le_refl _) ?_
  refine mv_aload_n C rfl rfl ?_
  refine mv_aload_n C rfl rfl ?_
  refine mv_iload C rfl rfl ?_
  refine mv_iconst C rfl ?_
  refine mv_iadd C rfl ?_
  refine lw_sld Xk hX hbl hbA had2 (mv_dec ok_L_c28 (pc := 1135) rfl 1 rfl rfl).1 (nI_add i 1) (by omega) (by omega) ?_
  refine mv_aload_n C rfl rfl ?_
  refine mv_iload C rfl rfl ?_
  refine mv_iconst C rfl ?_
  refine mv_iadd C rfl ?_
  refine lw_sld Xk hX hbl hbA had2 (mv_dec ok_L_c28 (pc := 1141) rfl 1 rfl rfl).1 (nI_add i 2) (by omega) (by omega) ?_
  refine lw_cV (as := [.int (xs (i + 1)), .int (xs (i + 2))]) (rest := [.int _]) (q := 68) Xk lk_141 (mv_dec ok_L_c28 (pc := 1142) rfl 3 rfl rfl).1 R2 rfl (show _ < 97 by decide) rfl (Nat.le_of_ble_eq_true rfl) (Nat.le_refl _) (Nat.le_refl _) (Nat.le_refl _) (Nat.le_refl _) ?_
  refine mv_icmp_eq C rfl (fun _ => ?_) (fun h => absurd rfl h)
  exact next _ z2 hi2 hx2 hm2 w5 w6
theorem lc_29 (X : LX p s m meth c D ad adV cK b kx ks P0) (hX : va_X b L xs s s.heap) (hbl : b < s.heap.size) (had2 : ad 2000 = b) (hL : L ≤ 2048) (i : Nat) (hi4 : i + 4 ≤ L) (u : hM) (z : mv_Z) (hi : hI u) (hrx : rX u z) (hrm : rM u z) (w5 w6 : Option Value) (next : ∀ u z, hI u → rX u z → rM u z → ∀ w5 w6 : Option Value, LV p l e s m below meth c D ad cK b kx ks 1269 (LSt i w5 w6) [] (mv_E z)) : LV p l e s m below meth c D ad cK b kx ks 1150 (LSt i w5 w6) [] (mv_E z) := by
  have Xk := mv_Cx_P X ok_L_c29
  have C := mv_closedL (l := l) (e := e) (below := below) (Q := lw_Z below #[Value.ref b] s) (S0 := mv_E z) Xk
  have hbA : ¬ s.heap.size ≤ b := Nat.not_le.mpr hbl
  obtain ⟨z1, R1, hx1, hf1⟩ := x_weight u z (xs (i + 1)) hi hrx
  have hrm1 := rM_frame hrm hf1
  obtain ⟨z2, R2, hm2, hf2⟩ := m_weight u z1 (xs (i + 1)) hi hrm1
  have hi2 := hi
  have hx2 := rX_frame hx1 hi2.2.2.2.2.2.2.2.2.2.2.2.2.2.2.2.2.1 hf2
  refine mv_aload_n C rfl rfl ?_
  refine mv_aload_n C rfl rfl ?_
  refine mv_iload C rfl rfl ?_
  refine mv_iconst C rfl ?_
  refine mv_iadd C rfl ?_
  refine lw_sld Xk hX hbl hbA had2 (mv_dec ok_L_c29 (pc := 1156) rfl 1 rfl rfl).1 (nI_add i 1) (by omega) (by omega) ?_
  refine lw_cV (as := [.int (xs (i + 1))]) (rest := []) (q := 0) Xk lk_142 (mv_dec ok_L_c29 (pc := 1157) rfl 3 rfl rfl).1 R1 rfl (show _ < 97 by decide) rfl (Nat.le_of_ble_eq_true rfl) (Nat.le_refl _) (Nat.le_refl _) (Nat.le_refl _) (Nat.le_refl _) ?_
  refine mv_aload_n C rfl rfl ?_
  refine mv_aload_n C rfl rfl ?_
  refine mv_iload C rfl rfl ?_
  refine mv_iconst C rfl ?_
  refine mv_iadd C rfl ?_
  refine lw_sld Xk hX hbl hbA had2 (mv_dec ok_L_c29 (pc := 1166) rfl 1 rfl rfl).1 (nI_add i 1) (by omega) (by omega) ?_
  refine lw_cV (as := [.int (xs (i + 1))]) (rest := [.int _]) (q := 68) Xk lk_145 (mv_dec ok_L_c29 (pc := 1167) rfl 3 rfl rfl).1 R2 rfl (show _ < 97 by decide) rfl (Nat.le_of_ble_eq_true rfl) (Nat.le_refl _) (Nat.le_refl _) (Nat.le_refl _) (Nat.le_refl _) ?_
  refine mv_icmp_eq C rfl (fun _ => ?_) (fun h => absurd rfl h)
  exact next _ z2 hi2 hx2 hm2 w5 w6
theorem lc_30 (X : LX p s m meth c D ad adV cK b kx ks P0) (hX : va_X b L xs s s.heap) (hbl : b < s.heap.size) (had2 : ad 2000 = b) (hL : L ≤ 2048) (i : Nat) (hi4 : i + 4 ≤ L) (u : hM) (z : mv_Z) (hi : hI u) (hrx : rX u z) (hrm : rM u z) (w5 w6 : Option Value) (next : ∀ u z, hI u → rX u z → rM u z → ∀ w5 w6 : Option Value, LV p l e s m below meth c D ad cK b kx ks 1269 (LSt i w5 w6) [] (mv_E z)) : LV p l e s m below meth c D ad cK b kx ks 1175 (LSt i w5 w6) [] (mv_E z) := by
  have Xk := mv_Cx_P X ok_L_c30
  have C := mv_closedL (l := l) (e := e) (below := below) (Q := lw_Z below #[Value.ref b] s) (S0 := mv_E z) Xk
  have hbA : ¬ s.heap.size ≤ b := Nat.not_le.mpr hbl
  obtain ⟨z1, R1, hx1, hf1⟩ := x_reward u z (xs (i + 1)) hi hrx
  have hrm1 := rM_frame hrm hf1
  obtain ⟨z2, R2, hm2, hf2⟩ := m_reward u z1 (xs (i + 1)) hi hrm1
  have hi2 := i_reward u (xs (i + 1)) hi
  have hx2 := rX_frame hx1 hi2.2.2.2.2.2.2.2.2.2.2.2.2.2.2.2.2.1 hf2
  refine mv_aload_n C rfl rfl ?_
  refine mv_aload_n C rfl rfl ?_
  refine mv_iload C rfl rfl ?_
  refine mv_iconst C rfl ?_
  refine mv_iadd C rfl ?_
  refine lw_sld Xk hX hbl hbA had2 (mv_dec ok_L_c30 (pc := 1181) rfl 1 rfl rfl).1 (nI_add i 1) (by omega) (by omega) ?_
  refine lw_cV (as := [.int (xs (i + 1))]) (rest := []) (q := 0) Xk lk_146 (mv_dec ok_L_c30 (pc := 1182) rfl 3 rfl rfl).1 R1 rfl (show _ < 97 by decide) rfl (Nat.le_of_ble_eq_true rfl) (Nat.le_refl _) (Nat.le_refl _) (Nat.le_refl _) (Nat.le_refl _) ?_
  refine mv_aload_n C rfl rfl ?_
  refine mv_aload_n C rfl rfl ?_
  refine mv_iload C rfl rfl ?_
  refine mv_iconst C rfl ?_
  refine mv_iadd C rfl ?_
  refine lw_sld Xk hX hbl hbA had2 (mv_dec ok_L_c30 (pc := 1191) rfl 1 rfl rfl).1 (nI_add i 1) (by omega) (by omega) ?_
  refine lw_cV (as := [.int (xs (i + 1))]) (rest := [.int _]) (q := 68) Xk lk_149 (mv_dec ok_L_c30 (pc := 1192) rfl 3 rfl rfl).1 R2 rfl (show _ < 97 by decide) rfl (Nat.le_of_ble_eq_true rfl) (Nat.le_refl _) (Nat.le_refl _) (Nat.le_refl _) (Nat.le_refl _) ?_
  refine mv_icmp_eq C rfl (fun _ => ?_) (fun h => absurd rfl h)
  exact next _ z2 hi2 hx2 hm2 w5 w6
theorem lc_31 (X : LX p s m meth c D ad adV cK b kx ks P0) (hX : va_X b L xs s s.heap) (hbl : b < s.heap.size) (had2 : ad 2000 = b) (hL : L ≤ 2048) (i : Nat) (hi4 : i + 4 ≤ L) (u : hM) (z : mv_Z) (hi : hI u) (hrx : rX u z) (hrm : rM u z) (w5 w6 : Option Value) (next : ∀ u z, hI u → rX u z → rM u z → ∀ w5 w6 : Option Value, LV p l e s m below meth c D ad cK b kx ks 1269 (LSt i w5 w6) [] (mv_E z)) : LV p l e s m below meth c D ad cK b kx ks 1200 (LSt i w5 w6) [] (mv_E z) := by
  have Xk := mv_Cx_P X ok_L_c31
  have C := mv_closedL (l := l) (e := e) (below := below) (Q := lw_Z below #[Value.ref b] s) (S0 := mv_E z) Xk
  have hbA : ¬ s.heap.size ≤ b := Nat.not_le.mpr hbl
  obtain ⟨z1, R1, hx1, hf1⟩ := x_waive u z  hi hrx
  have hrm1 := rM_frame hrm hf1
  obtain ⟨z2, R2, hm2, hf2⟩ := m_waive u z1  hi hrm1
  have hi2 := i_waive u hi
  have hx2 := rX_frame hx1 hi2.2.2.2.2.2.2.2.2.2.2.2.2.2.2.2.2.1 hf2
  refine mv_aload_n C rfl rfl ?_
  refine lw_cV (as := []) (rest := []) (q := 0) Xk lk_150 (mv_dec ok_L_c31 (pc := 1201) rfl 3 rfl rfl).1 R1 rfl (show _ < 97 by decide) rfl (Nat.le_of_ble_eq_true rfl) (Nat.le_refl _) (Nat.le_refl _) (Nat.le_refl _) (Nat.le_refl _) ?_
  refine mv_aload_n C rfl rfl ?_
  refine lw_cV (as := []) (rest := [.int _]) (q := 68) Xk lk_153 (mv_dec ok_L_c31 (pc := 1205) rfl 3 rfl rfl).1 R2 rfl (show _ < 97 by decide) rfl (Nat.le_of_ble_eq_true rfl) (Nat.le_refl _) (Nat.le_refl _) (Nat.le_refl _) (Nat.le_refl _) ?_
  refine mv_icmp_eq C rfl (fun _ => ?_) (fun h => absurd rfl h)
  exact next _ z2 hi2 hx2 hm2 w5 w6
end
