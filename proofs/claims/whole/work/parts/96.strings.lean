section
def jQ (r : Int32) : Array Value → State → Outcome → State → Prop := fun _ st oc t => oc = .returned (some (.int r)) ∧ t.heap = st.heap
def jP (ad adV : Nat → Nat) (sz : Nat) (as : List Value) : Array Value → State → Prop := va_Pc as (fun U => U.heap.size = sz ∧ mv_T ad adV (va_A [] sz) U U.heap)
def jW (y : MethodName) (cc : ByteArray) (n : Nat) (rt : Option FieldType) : List Cond := Cond.code y cc n rt :: mv_TB
theorem jP_blind {ad adV : Nat → Nat} {sz : Nat} {as : List Value} : FrameBlind (jP ad adV sz as) := by
  intro a U g mk q
  obtain ⟨q0, q1, qT⟩ := q
  exact ⟨q0, q1, ⟨qT.1.moved (u := U) (U := U.calling g mk a) (Vm.Alike.refl U.vm), fun j hj => vk_R.same (u := U) (U := U.calling g mk a) rfl (qT.2.1 j hj), qT.2.2.moved (u := U) (U := U.calling g mk a) (Vm.Alike.refl U.vm)⟩⟩
theorem jW_good {y : MethodName} {cc : ByteArray} {n : Nat} {rt : Option FieldType} (h : Cond.code y cc n rt ∈ mv_TB) : GoodIn mv_TB (jW y cc n rt) := by
  intro w hw
  have h1 : w ∈ mv_TB := by
    rcases List.mem_cons.mp hw with rfl | h9
    · exact h
    · exact h9
  exact ⟨h1, good_of_word (List.mem_filter.mp h1).2⟩
def jrm (d : Nat) : Room := { frames := d, cells := 0, slots := 0, locals := 30 * d + 30 }
def jM (l : Launch) (d : Nat) (y : MethodName) (cc : ByteArray) (n : Nat) (rt : Option FieldType) (ad adV : Nat → Nat) (sz : Nat) (as : List Value) (r : Int32) : Prop := Met l y (jW y cc n rt) (jrm d) (jP ad adV sz as) (jQ r) 0 0 (va_A [] sz)
section
variable {p : Program} {l : Launch} {e : Env} {R : Room} {s : State} {m : MethodId} {args : Array Value} {below : List Frame} {meth : Method} {c : Code} {locs : List Loc} {Q : State → Prop} {A : Nat → Prop} {r : Int32} {pc : Nat} {la : Array Slot} {stk rest : List Value} {as : Array Value}
theorem jv_go (hl : ∀ z ∈ locs, A z.base) (run : va_Run p l e R s m args below meth c s.heap locs 0 0 0 0 (F0 m pc la stk) rest (jQ r as) A) (kk : ∀ locs1, (∀ z ∈ locs1, A z.base) → W p l e R s m args below meth c s.heap locs1 0 0 Q (F0 m (pc + 3) la (.int r :: rest))) : W p l e R s m args below meth c s.heap locs 0 0 Q (F0 m pc la stk) := by
  intro T hT X
  obtain ⟨v, st₀, t, T', L, h0, X', hL, e1, e2, ⟨hv, hh⟩, st⟩ := run T hT X
  have hv : v = some (.int r) := by
    have := hv; simp only [Outcome.returned.injEq] at this; exact this
  subst hv
  obtain ⟨t2, a1, b1⟩ := kk (locs ++ L) (fun z hz => (List.mem_append.mp hz).elim (hl z) (hL z)) T' (by rw [e1, hh, h0]) X'
  exact ⟨t2, st t2 a1, b1⟩
theorem jS (hl : ∀ z ∈ locs, A z.base) : va_S A s.heap s.heap locs := ⟨Nat.le_refl _, fun _ _ _ => rfl, hl⟩
end
theorem jW_rm {d : Nat} {R : Room} {n : Nat} (hn : n ≤ 6) (hR : R = jrm (d + 1)) : (jrm d).frames + 1 ≤ R.frames ∧ 8 + (n + 11) + (jrm d).locals ≤ R.locals := by
  subst hR
  have e1 : (jrm d).frames = d := rfl
  have e2 : (jrm d).locals = 30 * d + 30 := rfl
  have e3 : (jrm (d + 1)).frames = d + 1 := rfl
  have e4 : (jrm (d + 1)).locals = 30 * (d + 1) + 30 := rfl
  rw [e1, e2, e3, e4]; omega
theorem jc_ix1 : Cond.code yJ0_indexOf_0f7a4 cJ0_indexOf_0f7a4 2 (some .int) ∈ mv_TB := mv_TB_of (i := 1185) (by decide +kernel) rfl
theorem jc_ix2 : Cond.code yJ0_indexOf_7cf53 cJ0_indexOf_7cf53 3 (some .int) ∈ mv_TB := mv_TB_of (i := 1189) (by decide +kernel) rfl
theorem jc_lat : Cond.code yJ0_isLatin1_aae02 cJ0_isLatin1_aae02 1 (some .boolean) ∈ mv_TB := mv_TB_of (i := 1193) (by decide +kernel) rfl
theorem jc_len : Cond.code yJ0_length_8abf5 cJ0_length_8abf5 1 (some .int) ∈ mv_TB := mv_TB_of (i := 1199) (by decide +kernel) rfl
theorem jc_cod : Cond.code yJ0_coder_7d493 cJ0_coder_7d493 1 (some .byte) ∈ mv_TB := mv_TB_of (i := 1203) (by decide +kernel) rfl
theorem jc_ixl : Cond.code yJ1_indexOf_4cfef cJ1_indexOf_4cfef 4 (some .int) ∈ mv_TB := mv_TB_of (i := 1206) (by decide +kernel) rfl
theorem jc_enc : Cond.code yJ1_canEncode_9a6ad cJ1_canEncode_9a6ad 1 (some .boolean) ∈ mv_TB := mv_TB_of (i := 1209) (by decide +kernel) rfl
theorem jc_ixc : Cond.code yJ1_indexOfChar_4cfef cJ1_indexOfChar_4cfef 6 (some .int) ∈ mv_TB := mv_TB_of (i := 1214) (by decide +kernel) rfl
def jE (x : Int32) : Int32 := if 0 ≤ x ∧ x ≤ 255 then 1 else 0
set_option maxRecDepth 20000 in
theorem j_enc (l : Launch) (ad adV : Nat → Nat) (sz : Nat) (x : Int32) : jM l 0 yJ1_canEncode_9a6ad cJ1_canEncode_9a6ad 1 (some .boolean) ad adV sz [.int x] (jE x) := by
  refine Met.ofW (cc := cJ1_canEncode_9a6ad) (maxL := 1) (ret := (some .boolean)) (by decide) rfl ?_
  intro p e s m args below meth c s₁ B hml hv
  obtain ⟨rfl, hsz, hT⟩ := hv
  have hx := B.exec
  have hb := B.bytes
  have hr := B.returns
  have hts : ∀ w ∈ mv_TB, w.before _ s = true := fun w hw => atoms_spec (ws := jW _ _ _ _) B.pre w (List.mem_cons_of_mem _ hw)
  have hown : s.vm.findClass RJ1 = some m.cls := findClass_of_methodNamed B.named
  have hlocks := B.notSynchronized
  subst hsz
  have hl := lv_entry ([.int x]) (n := 1) (Nat.le_of_ble_eq_true rfl)
  rw [lg_entry_eq]
  generalize (lg_sl ([.int x]) ++ List.replicate (1 - (lg_sl ([.int x])).length) Slot.unset).toArray = ls at hl ⊢
  have hl : lv_has ls 1 [(0, .int x)] := hl
  have hS : va_S (va_A [] s.heap.size) s.heap s.heap [] := va_S.rf
  have hlc : ∀ z ∈ ([] : List Loc), va_A [] s.heap.size z.base := fun z hz => nomatch hz
  generalize ([] : List Loc) = locs at hS hlc ⊢
  unfold jE
  refine lv_iload_n hx hb (show decode cJ1_canEncode_9a6ad 0 = .ok (.iload_n 0, 1) by decide +kernel) rfl (lv_at hl 0 rfl) ?_
  refine lv_if_lt hx hb (tgt := 15) (show decode cJ1_canEncode_9a6ad 1 = .ok (.ifCond .lt 14, 3) by decide +kernel) rfl (fun q => ?_) (fun q => ?_)
  · rw [if_neg (fun w => by have := w.1; rw [i32_le, i32_0] at this; rw [i32_lt, i32_0] at q; omega)]
    refine lv_iconst (v := 0) hx hb (show decode cJ1_canEncode_9a6ad 15 = .ok (.iconst 0, 1) by decide +kernel) rfl ?_
    exact W.zret hx hb hr (by decide) (fun t ht hW => ⟨rfl, ht⟩) hS.2.2 (show decode cJ1_canEncode_9a6ad 16 = .ok (.ireturn, 1) by decide +kernel)
  · refine lv_iload_n hx hb (show decode cJ1_canEncode_9a6ad 4 = .ok (.iload_n 0, 1) by decide +kernel) rfl (lv_at hl 0 rfl) ?_
    refine lv_sipush (v := 255) hx hb (show decode cJ1_canEncode_9a6ad 5 = .ok (.sipush 255, 3) by decide +kernel) rfl ?_
    refine lv_icmp_gt hx hb (tgt := 15) (show decode cJ1_canEncode_9a6ad 8 = .ok (.if_icmp .gt 7, 3) by decide +kernel) rfl (fun q2 => ?_) (fun q2 => ?_)
    · rw [if_neg (fun w => by have := w.2; rw [i32_le, i32_255] at this; rw [i32_lt, i32_255] at q2; omega)]
      refine lv_iconst (v := 0) hx hb (show decode cJ1_canEncode_9a6ad 15 = .ok (.iconst 0, 1) by decide +kernel) rfl ?_
      exact W.zret hx hb hr (by decide) (fun t ht hW => ⟨rfl, ht⟩) hS.2.2 (show decode cJ1_canEncode_9a6ad 16 = .ok (.ireturn, 1) by decide +kernel)
    · rw [if_pos ⟨by rw [i32_le, i32_0]; rw [i32_lt, i32_0] at q; omega, by rw [i32_le, i32_255]; rw [i32_lt, i32_255] at q2; omega⟩]
      refine lv_iconst (v := 1) hx hb (show decode cJ1_canEncode_9a6ad 11 = .ok (.iconst 1, 1) by decide +kernel) rfl ?_
      refine lv_goto hx hb (tgt := 16) (show decode cJ1_canEncode_9a6ad 12 = .ok (.goto 4, 3) by decide +kernel) rfl ?_
      exact W.zret hx hb hr (by decide) (fun t ht hW => ⟨rfl, ht⟩) hS.2.2 (show decode cJ1_canEncode_9a6ad 16 = .ok (.ireturn, 1) by decide +kernel)
set_option maxRecDepth 20000 in
theorem j_cod (l : Launch) (ad adV : Nat → Nat) (sz : Nat) (j : Nat) (hj : j < 5) : jM l 0 yJ0_coder_7d493 cJ0_coder_7d493 1 (some .byte) ad adV sz [.ref (ad (1001 + j))] (0) := by
  refine Met.ofW (cc := cJ0_coder_7d493) (maxL := 1) (ret := (some .byte)) (by decide) rfl ?_
  intro p e s m args below meth c s₁ B hml hv
  obtain ⟨rfl, hsz, hT⟩ := hv
  have hx := B.exec
  have hb := B.bytes
  have hr := B.returns
  have hts : ∀ w ∈ mv_TB, w.before _ s = true := fun w hw => atoms_spec (ws := jW _ _ _ _) B.pre w (List.mem_cons_of_mem _ hw)
  have hown : s.vm.findClass RJ0 = some m.cls := findClass_of_methodNamed B.named
  have hlocks := B.notSynchronized
  subst hsz
  have hl := lv_entry ([.ref (ad (1001 + j))]) (n := 1) (Nat.le_of_ble_eq_true rfl)
  rw [lg_entry_eq]
  generalize (lg_sl ([.ref (ad (1001 + j))]) ++ List.replicate (1 - (lg_sl ([.ref (ad (1001 + j))])).length) Slot.unset).toArray = ls at hl ⊢
  have hl : lv_has ls 1 [(0, .ref (ad (1001 + j)))] := hl
  have hS : va_S (va_A [] s.heap.size) s.heap s.heap [] := va_S.rf
  have hlc : ∀ z ∈ ([] : List Loc), va_A [] s.heap.size z.base := fun z hz => nomatch hz
  generalize ([] : List Loc) = locs at hS hlc ⊢
  refine va_gets hx hb hT.2.2 hS hown (hts _ (mv_TB_of (i := 1194) (by decide +kernel) rfl)) (fun _ h => h) (show decode cJ0_coder_7d493 0 = .ok (.getstatic 38, 3) by decide +kernel) ?_
  refine lv_if_eq hx hb (tgt := 13) (show decode cJ0_coder_7d493 3 = .ok (.ifCond .eq 10, 3) by decide +kernel) rfl (fun q => absurd q (by decide)) (fun q => ?_)
  refine lv_aload_n hx hb (show decode cJ0_coder_7d493 6 = .ok (.aload_n 0, 1) by decide +kernel) rfl (lv_at hl 0 rfl) ?_
  refine vk_getf hx hb (hT.1.1 j hj).2.1 hS hown (hts _ (mv_TB_of (i := 1325) (by decide +kernel) rfl)) (fun _ h => h) (show decode cJ0_coder_7d493 7 = .ok (.getfield 15, 3) by decide +kernel) ?_
  refine lv_goto hx hb (tgt := 14) (show decode cJ0_coder_7d493 10 = .ok (.goto 4, 3) by decide +kernel) rfl ?_
  exact W.zret hx hb hr (by decide) (fun t ht hW => ⟨rfl, ht⟩) hS.2.2 (show decode cJ0_coder_7d493 14 = .ok (.ireturn, 1) by decide +kernel)
set_option maxRecDepth 20000 in
theorem j_lat (l : Launch) (ad adV : Nat → Nat) (sz : Nat) (j : Nat) (hj : j < 5) : jM l 1 yJ0_isLatin1_aae02 cJ0_isLatin1_aae02 1 (some .boolean) ad adV sz [.ref (ad (1001 + j))] (1) := by
  refine Met.ofW (cc := cJ0_isLatin1_aae02) (maxL := 1) (ret := (some .boolean)) (by decide) rfl ?_
  intro p e s m args below meth c s₁ B hml hv
  obtain ⟨rfl, hsz, hT⟩ := hv
  have hx := B.exec
  have hb := B.bytes
  have hr := B.returns
  have hts : ∀ w ∈ mv_TB, w.before _ s = true := fun w hw => atoms_spec (ws := jW _ _ _ _) B.pre w (List.mem_cons_of_mem _ hw)
  have hown : s.vm.findClass RJ0 = some m.cls := findClass_of_methodNamed B.named
  have hlocks := B.notSynchronized
  subst hsz
  have hl := lv_entry ([.ref (ad (1001 + j))]) (n := 1) (Nat.le_of_ble_eq_true rfl)
  rw [lg_entry_eq]
  generalize (lg_sl ([.ref (ad (1001 + j))]) ++ List.replicate (1 - (lg_sl ([.ref (ad (1001 + j))])).length) Slot.unset).toArray = ls at hl ⊢
  have hl : lv_has ls 1 [(0, .ref (ad (1001 + j)))] := hl
  have hS : va_S (va_A [] s.heap.size) s.heap s.heap [] := va_S.rf
  have hlc : ∀ z ∈ ([] : List Loc), va_A [] s.heap.size z.base := fun z hz => nomatch hz
  generalize ([] : List Loc) = locs at hS hlc ⊢
  refine va_gets hx hb hT.2.2 hS hown (hts _ (mv_TB_of (i := 1194) (by decide +kernel) rfl)) (fun _ h => h) (show decode cJ0_isLatin1_aae02 0 = .ok (.getstatic 38, 3) by decide +kernel) ?_
  refine lv_if_eq hx hb (tgt := 17) (show decode cJ0_isLatin1_aae02 3 = .ok (.ifCond .eq 14, 3) by decide +kernel) rfl (fun q => absurd q (by decide)) (fun q => ?_)
  refine lv_aload_n hx hb (show decode cJ0_isLatin1_aae02 6 = .ok (.aload_n 0, 1) by decide +kernel) rfl (lv_at hl 0 rfl) ?_
  refine vk_getf hx hb (hT.1.1 j hj).2.1 hS hown (hts _ (mv_TB_of (i := 1325) (by decide +kernel) rfl)) (fun _ h => h) (show decode cJ0_isLatin1_aae02 7 = .ok (.getfield 15, 3) by decide +kernel) ?_
  refine lv_if_ne hx hb (tgt := 17) (show decode cJ0_isLatin1_aae02 10 = .ok (.ifCond .ne 7, 3) by decide +kernel) rfl (fun q => absurd rfl q) (fun q => ?_)
  refine lv_iconst (v := 1) hx hb (show decode cJ0_isLatin1_aae02 13 = .ok (.iconst 1, 1) by decide +kernel) rfl ?_
  refine lv_goto hx hb (tgt := 18) (show decode cJ0_isLatin1_aae02 14 = .ok (.goto 4, 3) by decide +kernel) rfl ?_
  exact W.zret hx hb hr (by decide) (fun t ht hW => ⟨rfl, ht⟩) hS.2.2 (show decode cJ0_isLatin1_aae02 18 = .ok (.ireturn, 1) by decide +kernel)
def jn (j : Nat) : Nat := mv_len.getD j 0
theorem jn_ok : ∀ j, j < 5 → jn j = (mv_strs.getD (j + 1) []).length ∧ jn j < 11 ∧ 1 ≤ jn j ∧ (mv_strs.drop 1).getD j [] = mv_strs.getD (j + 1) [] ∧ ∀ b ∈ mv_strs.getD (j + 1) [], ∃ k, k < 128 ∧ b = nI k := by
  intro j hj
  rcases (show j = 0 ∨ j = 1 ∨ j = 2 ∨ j = 3 ∨ j = 4 by omega) with rfl | rfl | rfl | rfl | rfl
  · exact ⟨rfl, by decide, by decide, rfl, fun b hb => by
      simp only [mv_strs, List.getD_cons_succ, List.getD_cons_zero, List.mem_cons, List.not_mem_nil, or_false] at hb
      rcases hb with rfl | rfl | rfl <;> exact ⟨_, by decide, rfl⟩⟩
  · exact ⟨rfl, by decide, by decide, rfl, fun b hb => by
      simp only [mv_strs, List.getD_cons_succ, List.getD_cons_zero, List.mem_cons, List.not_mem_nil, or_false] at hb
      rcases hb with rfl | rfl | rfl <;> exact ⟨_, by decide, rfl⟩⟩
  · exact ⟨rfl, by decide, by decide, rfl, fun b hb => by
      simp only [mv_strs, List.getD_cons_succ, List.getD_cons_zero, List.mem_cons, List.not_mem_nil, or_false] at hb
      rcases hb with rfl | rfl | rfl | rfl | rfl | rfl | rfl | rfl | rfl | rfl <;> exact ⟨_, by decide, rfl⟩⟩
  · exact ⟨rfl, by decide, by decide, rfl, fun b hb => by
      simp only [mv_strs, List.getD_cons_succ, List.getD_cons_zero, List.mem_cons, List.not_mem_nil, or_false] at hb
      rcases hb with rfl <;> exact ⟨_, by decide, rfl⟩⟩
  · exact ⟨rfl, by decide, by decide, rfl, fun b hb => by
      simp only [mv_strs, List.getD_cons_succ, List.getD_cons_zero, List.mem_cons, List.not_mem_nil, or_false] at hb
      rcases hb with rfl <;> exact ⟨_, by decide, rfl⟩⟩
theorem j_i2b : ∀ n, n < 256 → (nI n).toInt8.toInt32 = if n < 128 then nI n else nI n - 256 := by decide +kernel
theorem j_i2b2 : ∀ n, n < 256 → 128 ≤ n → (nI n - 256) < 0 := by decide +kernel
theorem j_cmp {n k : Nat} (hn : n < 256) (hk : k < 128) : nI k = (nI n).toInt8.toInt32 ↔ nI n = nI k := by
  rw [j_i2b n hn]
  by_cases h : n < 128
  · rw [if_pos h]; exact eq_comm
  · rw [if_neg h]
    constructor
    · intro q
      have := j_i2b2 n hn (by omega)
      rw [← q] at this
      exact absurd this (nI_pos (by omega))
    · intro q
      have := (nI_eq (by omega) (by omega)).mp q
      omega
theorem j_out {x : Int32} (h : ¬ (0 ≤ x ∧ x ≤ 255)) : ∀ (l : List Int32) (k : Int32), (∀ b ∈ l, ∃ k, k < 128 ∧ b = nI k) → mv_ixl l k x = -1
  | [], _, _ => rfl
  | b :: r, k, hl => by
    simp only [mv_ixl]
    rw [if_neg (fun q => ?_)]
    · exact j_out h r (k + 1) (fun b hb => hl b (List.mem_cons_of_mem _ hb))
    · obtain ⟨i, hi, e⟩ := hl b List.mem_cons_self
      apply h
      rw [q, e]
      exact ⟨by rw [i32_le, nI_toInt (by omega), i32_0]; omega, by rw [i32_le, nI_toInt (by omega), i32_255]; omega⟩
set_option maxRecDepth 20000 in
theorem j_len (l : Launch) (ad adV : Nat → Nat) (sz : Nat) (j : Nat) (hj : j < 5) : jM l 1 yJ0_length_8abf5 cJ0_length_8abf5 1 (some .int) ad adV sz [.ref (ad (1001 + j))] (nI (jn j)) := by
  refine Met.ofW (cc := cJ0_length_8abf5) (maxL := 1) (ret := (some .int)) (by decide) rfl ?_
  intro p e s m args below meth c s₁ B hml hv
  obtain ⟨rfl, hsz, hT⟩ := hv
  have hx := B.exec
  have hb := B.bytes
  have hr := B.returns
  have hts : ∀ w ∈ mv_TB, w.before _ s = true := fun w hw => atoms_spec (ws := jW _ _ _ _) B.pre w (List.mem_cons_of_mem _ hw)
  have hown : s.vm.findClass RJ0 = some m.cls := findClass_of_methodNamed B.named
  have hlocks := B.notSynchronized
  subst hsz
  have hl := lv_entry ([.ref (ad (1001 + j))]) (n := 1) (Nat.le_of_ble_eq_true rfl)
  rw [lg_entry_eq]
  generalize (lg_sl ([.ref (ad (1001 + j))]) ++ List.replicate (1 - (lg_sl ([.ref (ad (1001 + j))])).length) Slot.unset).toArray = ls at hl ⊢
  have hl : lv_has ls 1 [(0, .ref (ad (1001 + j)))] := hl
  have hS : va_S (va_A [] s.heap.size) s.heap s.heap [] := va_S.rf
  have hlc : ∀ z ∈ ([] : List Loc), va_A [] s.heap.size z.base := fun z hz => nomatch hz
  generalize ([] : List Loc) = locs at hS hlc ⊢
  refine lv_aload_n hx hb (show decode cJ0_length_8abf5 0 = .ok (.aload_n 0, 1) by decide +kernel) rfl (lv_at hl 0 rfl) ?_
  refine vk_getf hx hb (hT.1.1 j hj).2.2.1 hS hown (hts _ (mv_TB_of (i := 1326) (by decide +kernel) rfl)) (fun _ h => h) (show decode cJ0_length_8abf5 1 = .ok (.getfield 9, 3) by decide +kernel) ?_
  refine va_tlen (v := nI (jn j)) hx hb (hT.1.1 j hj).2.2.2 hS rfl (show decode cJ0_length_8abf5 4 = .ok (.arraylength, 1) by decide +kernel) ?_
  refine lv_aload_n hx hb (show decode cJ0_length_8abf5 5 = .ok (.aload_n 0, 1) by decide +kernel) rfl (lv_at hl 0 rfl) ?_
  refine jv_go (as := _) hS.2.2 (va_runV (C := "java/lang/String") (As := []) (rest := [.int (nI (jn j))]) ⟨hx, hb, hml, hown, hts⟩ (j_cod l ad adV s.heap.size j hj) ⟨callB_of 0 hts (jW_good jc_cod) rfl rfl rfl (hts _ (mv_TB_of (i := 59) (by decide +kernel) rfl)) (hts _ (mv_TB_of (i := 1200) (by decide +kernel) rfl)) ⟨by decide, by decide, by decide +kernel⟩ (jW_rm (d := 0) (by decide) rfl), (hts _ (mv_TB_of (i := 1201) (by decide +kernel) rfl)), (hts _ (mv_TB_of (i := 1202) (by decide +kernel) rfl))⟩ ⟨jP_blind, vk_recv hT.1 hj hS, fun U hU hW => ⟨rfl, by rw [hU], mv_T_call hW hU hS (fun _ h => h) hT⟩⟩ rfl rfl hl.1 rfl (lv_room (Nat.le_of_ble_eq_true rfl)) (show decode cJ0_length_8abf5 6 = .ok (.invokevirtual 335, 3) by decide +kernel) ⟨Nat.le_refl _, Nat.le_refl _⟩) (fun locs hlc => ?_)
  have hS := jS (s := s) hlc
  refine lv_ishr hx hb (show decode cJ0_length_8abf5 9 = .ok (.ishr, 1) by decide +kernel) ?_
  have e0 : nI (jn j) >>> ((0 : Int32) &&& 31) = nI (jn j) := by
    rcases (show j = 0 ∨ j = 1 ∨ j = 2 ∨ j = 3 ∨ j = 4 by omega) with rfl | rfl | rfl | rfl | rfl <;> decide
  rw [e0]
  exact W.iret hx hb hr (fun t ht hW => ⟨rfl, ht⟩) hS.2.2 (show decode cJ0_length_8abf5 10 = .ok (.ireturn, 1) by decide +kernel)
set_option maxRecDepth 20000 in
theorem j_ixc (l : Launch) (ad adV : Nat → Nat) (sz : Nat) (j n : Nat) (hj : j < 5) (hn : n < 256) : jM l 0 yJ1_indexOfChar_4cfef cJ1_indexOfChar_4cfef 6 (some .int) ad adV sz [.ref (adV j), .int (nI n), .int 0, .int (nI (jn j))] (mv_ix (j + 1) (nI n)) := by
  refine Met.ofW (cc := cJ1_indexOfChar_4cfef) (maxL := 6) (ret := (some .int)) (by decide) rfl ?_
  intro p e s m args below meth c s₁ B hml hv
  obtain ⟨rfl, hsz, hT⟩ := hv
  have hx := B.exec
  have hb := B.bytes
  have hr := B.returns
  have hts : ∀ w ∈ mv_TB, w.before _ s = true := fun w hw => atoms_spec (ws := jW _ _ _ _) B.pre w (List.mem_cons_of_mem _ hw)
  have hown : s.vm.findClass RJ1 = some m.cls := findClass_of_methodNamed B.named
  have hlocks := B.notSynchronized
  subst hsz
  have hl := lv_entry ([.ref (adV j), .int (nI n), .int 0, .int (nI (jn j))]) (n := 6) (Nat.le_of_ble_eq_true rfl)
  rw [lg_entry_eq]
  generalize (lg_sl ([.ref (adV j), .int (nI n), .int 0, .int (nI (jn j))]) ++ List.replicate (6 - (lg_sl ([.ref (adV j), .int (nI n), .int 0, .int (nI (jn j))])).length) Slot.unset).toArray = ls at hl ⊢
  have hl : lv_has ls 6 [(0, .ref (adV j)), (1, .int (nI n)), (2, .int 0), (3, .int (nI (jn j)))] := hl
  have hS : va_S (va_A [] s.heap.size) s.heap s.heap [] := va_S.rf
  have hlc : ∀ z ∈ ([] : List Loc), va_A [] s.heap.size z.base := fun z hz => nomatch hz
  generalize ([] : List Loc) = locs at hS hlc ⊢
  obtain ⟨k1, k2, k3, k4, k5⟩ := jn_ok j hj
  have hTB := (hT.1.1 j hj).2.2.2
  rw [k4, show mv_len.getD j 0 = jn j from rfl] at hTB
  refine lv_iload_n hx hb (show decode cJ1_indexOfChar_4cfef 0 = .ok (.iload_n 1, 1) by decide +kernel) rfl (lv_at hl 1 rfl) ?_
  refine lv_i2b hx hb (show decode cJ1_indexOfChar_4cfef 1 = .ok (.i2b, 1) by decide +kernel) rfl ?_
  refine lv_istore hx hb (show decode cJ1_indexOfChar_4cfef 2 = .ok (.istore 4, 2) by decide +kernel) hl (by decide) rfl (fun ls hl => ?_)
  have hl : lv_has ls 6 [(4, .int (nI n).toInt8.toInt32), (0, .ref (adV j)), (1, .int (nI n)), (2, .int 0), (3, .int (nI (jn j)))] := hl
  refine lv_iload_n hx hb (show decode cJ1_indexOfChar_4cfef 4 = .ok (.iload_n 2, 1) by decide +kernel) rfl (lv_at hl 3 rfl) ?_
  refine lv_istore hx hb (show decode cJ1_indexOfChar_4cfef 5 = .ok (.istore 5, 2) by decide +kernel) hl (by decide) rfl (fun ls hl => ?_)
  have hl : lv_has ls 6 [(5, .int (nI 0)), (4, .int (nI n).toInt8.toInt32), (0, .ref (adV j)), (1, .int (nI n)), (2, .int 0), (3, .int (nI (jn j)))] := hl
  have loop : ∀ (t : List Int32) (i : Nat) (ls : Array Slot), i + t.length = jn j → (mv_strs.getD (j + 1) []).drop i = t → mv_ixl t (nI i) (nI n) = mv_ix (j + 1) (nI n) → lv_has ls 6 [(5, .int (nI i)), (4, .int (nI n).toInt8.toInt32), (0, .ref (adV j)), (1, .int (nI n)), (2, .int 0), (3, .int (nI (jn j)))] → W p l e (jrm 0) s m (([.ref (adV j), .int (nI n), .int 0, .int (nI (jn j))] : List Value).toArray) below meth c s.heap locs 0 0 (MQ below (jQ (mv_ix (j + 1) (nI n))) (([.ref (adV j), .int (nI n), .int 0, .int (nI (jn j))] : List Value).toArray) s 0 0 (va_A [] s.heap.size)) (F0 m 7 ls []) := by
    intro t
    induction t with
    | nil =>
      intro i ls hi hd hv hl
      simp only [List.length_nil, Nat.add_zero] at hi
      simp only [mv_ixl] at hv
      refine lv_iload hx hb (show decode cJ1_indexOfChar_4cfef 7 = .ok (.iload 5, 2) by decide +kernel) (lv_at hl 0 rfl) ?_
      refine lv_iload_n hx hb (show decode cJ1_indexOfChar_4cfef 9 = .ok (.iload_n 3, 1) by decide +kernel) rfl (lv_at hl 5 rfl) ?_
      refine lv_icmp_ge hx hb (tgt := 31) (show decode cJ1_indexOfChar_4cfef 10 = .ok (.if_icmp .ge 21, 3) by decide +kernel) rfl (fun q => ?_) (fun q => absurd (nI_le (by omega) (by omega)) q)
      refine lv_iconst (v := -1) hx hb (show decode cJ1_indexOfChar_4cfef 31 = .ok (.iconst (-1), 1) by decide +kernel) rfl ?_
      rw [hv]
      exact W.iret hx hb hr (fun t ht hW => ⟨rfl, ht⟩) hS.2.2 (show decode cJ1_indexOfChar_4cfef 32 = .ok (.ireturn, 1) by decide +kernel)
    | cons b t ih =>
      intro i ls hi hd hv hl
      simp only [List.length_cons] at hi
      simp only [mv_ixl] at hv
      have hlt : i < (mv_strs.getD (j + 1) []).length := by omega
      have hbi : (mv_strs.getD (j + 1) []).getD i 0 = b := by
        rw [List.drop_eq_getElem_cons hlt] at hd
        rw [List.getD_eq_getElem?_getD, List.getElem?_eq_getElem hlt]
        exact (List.cons.inj hd).1
      have hd2 : (mv_strs.getD (j + 1) []).drop (i + 1) = t := by
        rw [List.drop_eq_getElem_cons hlt] at hd
        exact (List.cons.inj hd).2
      obtain ⟨kb, hkb, ekb⟩ := k5 b (List.mem_of_mem_drop (i := i) (by rw [hd]; exact List.mem_cons_self))
      refine lv_iload hx hb (show decode cJ1_indexOfChar_4cfef 7 = .ok (.iload 5, 2) by decide +kernel) (lv_at hl 0 rfl) ?_
      refine lv_iload_n hx hb (show decode cJ1_indexOfChar_4cfef 9 = .ok (.iload_n 3, 1) by decide +kernel) rfl (lv_at hl 5 rfl) ?_
      refine lv_icmp_ge hx hb (tgt := 31) (show decode cJ1_indexOfChar_4cfef 10 = .ok (.if_icmp .ge 21, 3) by decide +kernel) rfl (fun q => absurd q (nI_ge (by omega) (by omega))) (fun q => ?_)
      refine lv_aload_n hx hb (show decode cJ1_indexOfChar_4cfef 13 = .ok (.aload_n 0, 1) by decide +kernel) rfl (lv_at hl 2 rfl) ?_
      refine lv_iload hx hb (show decode cJ1_indexOfChar_4cfef 14 = .ok (.iload 5, 2) by decide +kernel) (lv_at hl 0 rfl) ?_
      refine va_tb (v := .int b) hx hb hTB hS (vp_in_nI (by omega) (by omega)) (by rw [nI_clamp (by omega), hbi]) (show decode cJ1_indexOfChar_4cfef 16 = .ok (.baload, 1) by decide +kernel) ?_
      refine lv_iload hx hb (show decode cJ1_indexOfChar_4cfef 17 = .ok (.iload 4, 2) by decide +kernel) (lv_at hl 1 rfl) ?_
      refine lv_icmp_ne hx hb (tgt := 25) (show decode cJ1_indexOfChar_4cfef 19 = .ok (.if_icmp .ne 6, 3) by decide +kernel) rfl (fun q => ?_) (fun q => ?_)
      · have q2 : ¬ nI n = b := fun w => q (by rw [ekb]; exact (j_cmp hn hkb).mpr (by rw [w, ekb]))
        rw [if_neg q2] at hv
        refine lv_iinc (k := 0) (v := nI (i + 1)) hx hb (show decode cJ1_indexOfChar_4cfef 25 = .ok (.iinc 5 1, 3) by decide +kernel) hl rfl (nI_1 i) (by decide) rfl (fun ls hl => ?_)
        refine lv_goto hx hb (tgt := 7) (show decode cJ1_indexOfChar_4cfef 28 = .ok (.goto (-21), 3) by decide +kernel) rfl ?_
        exact ih (i + 1) ls (by omega) hd2 (by rw [← nI_1]; exact hv) hl
      · have q2 : nI n = b := by rw [ekb]; exact (j_cmp hn hkb).mp (by rw [← ekb]; exact q)
        rw [if_pos q2] at hv
        refine lv_iload hx hb (show decode cJ1_indexOfChar_4cfef 22 = .ok (.iload 5, 2) by decide +kernel) (lv_at hl 0 rfl) ?_
        rw [hv]
        exact W.iret hx hb hr (fun t ht hW => ⟨rfl, ht⟩) hS.2.2 (show decode cJ1_indexOfChar_4cfef 24 = .ok (.ireturn, 1) by decide +kernel)
  exact loop (mv_strs.getD (j + 1) []) 0 ls (by omega) rfl rfl hl
set_option maxRecDepth 20000 in
theorem j_ixl (l : Launch) (ad adV : Nat → Nat) (sz : Nat) (j : Nat) (x : Int32) (hj : j < 5) : jM l 1 yJ1_indexOf_4cfef cJ1_indexOf_4cfef 4 (some .int) ad adV sz [.ref (adV j), .int x, .int 0, .int (nI (jn j))] (mv_ix (j + 1) x) := by
  refine Met.ofW (cc := cJ1_indexOf_4cfef) (maxL := 4) (ret := (some .int)) (by decide) rfl ?_
  intro p e s m args below meth c s₁ B hml hv
  obtain ⟨rfl, hsz, hT⟩ := hv
  have hx := B.exec
  have hb := B.bytes
  have hr := B.returns
  have hts : ∀ w ∈ mv_TB, w.before _ s = true := fun w hw => atoms_spec (ws := jW _ _ _ _) B.pre w (List.mem_cons_of_mem _ hw)
  have hown : s.vm.findClass RJ1 = some m.cls := findClass_of_methodNamed B.named
  have hlocks := B.notSynchronized
  subst hsz
  have hl := lv_entry ([.ref (adV j), .int x, .int 0, .int (nI (jn j))]) (n := 4) (Nat.le_of_ble_eq_true rfl)
  rw [lg_entry_eq]
  generalize (lg_sl ([.ref (adV j), .int x, .int 0, .int (nI (jn j))]) ++ List.replicate (4 - (lg_sl ([.ref (adV j), .int x, .int 0, .int (nI (jn j))])).length) Slot.unset).toArray = ls at hl ⊢
  have hl : lv_has ls 4 [(0, .ref (adV j)), (1, .int x), (2, .int 0), (3, .int (nI (jn j)))] := hl
  have hS : va_S (va_A [] s.heap.size) s.heap s.heap [] := va_S.rf
  have hlc : ∀ z ∈ ([] : List Loc), va_A [] s.heap.size z.base := fun z hz => nomatch hz
  generalize ([] : List Loc) = locs at hS hlc ⊢
  obtain ⟨k1, k2, k3, k4, k5⟩ := jn_ok j hj
  have hTB := (hT.1.1 j hj).2.2.2
  refine lv_iload_n hx hb (show decode cJ1_indexOf_4cfef 0 = .ok (.iload_n 1, 1) by decide +kernel) rfl (lv_at hl 1 rfl) ?_
  refine jv_go (as := _) hS.2.2 (va_runS (As := [.int x]) (rest := []) ⟨hx, hb, hml, hown, hts⟩ (j_enc l ad adV s.heap.size x) ⟨callB_of 1 hts (jW_good jc_enc) rfl rfl rfl (hts _ (mv_TB_of (i := 60) (by decide +kernel) rfl)) (hts _ (mv_TB_of (i := 1207) (by decide +kernel) rfl)) ⟨by decide, by decide, by decide +kernel⟩ (jW_rm (d := 0) (by decide) rfl), (hts _ (mv_TB_of (i := 1208) (by decide +kernel) rfl))⟩ ⟨jP_blind, fun U hU hW => ⟨rfl, by rw [hU], mv_T_call hW hU hS (fun _ h => h) hT⟩⟩ rfl rfl hl.1 rfl (lv_room (Nat.le_of_ble_eq_true rfl)) (show decode cJ1_indexOf_4cfef 1 = .ok (.invokestatic 88, 3) by decide +kernel) ⟨Nat.le_refl _, Nat.le_refl _⟩) (fun locs hlc => ?_)
  have hS := jS (s := s) hlc
  by_cases hE : 0 ≤ x ∧ x ≤ 255
  · rw [show jE x = 1 from if_pos hE]
    refine lv_if_ne hx hb (tgt := 9) (show decode cJ1_indexOf_4cfef 4 = .ok (.ifCond .ne 5, 3) by decide +kernel) rfl (fun q => ?_) (fun q => absurd q (by decide))
    obtain ⟨n, hn, rfl⟩ : ∃ n, n < 256 ∧ x = nI n := by
      obtain ⟨n, hn, e⟩ := nI_rng (n := 256) hE.1 (by have := hE.2; rw [i32_le, i32_255] at this; rw [i32_lt, nI_toInt (by decide)]; omega) (by decide)
      exact ⟨n, hn, e⟩
    refine lv_iload_n hx hb (show decode cJ1_indexOf_4cfef 9 = .ok (.iload_n 2, 1) by decide +kernel) rfl (lv_at hl 2 rfl) ?_
    refine lv_iconst (v := 0) hx hb (show decode cJ1_indexOf_4cfef 10 = .ok (.iconst 0, 1) by decide +kernel) rfl ?_
    refine va_mmax hx hb (by rw [hml]; exact hl.1.symm) hown (hts _ (mv_TB_of (i := 1210) (by decide +kernel) rfl)) (hts _ mv_st_max) (hts _ mv_im) (hts _ mv_co_max) (by decide) (by decide) (Nat.le_refl _) (Nat.le_refl _) (show decode cJ1_indexOf_4cfef 11 = .ok (.invokestatic 92, 3) by decide +kernel) ?_
    rw [show (if (0 : Int32) < 0 then (0 : Int32) else 0) = 0 from rfl]
    refine lv_istore_n hx hb (show decode cJ1_indexOf_4cfef 14 = .ok (.istore_n 2, 1) by decide +kernel) rfl hl (by decide) rfl (fun ls hl => ?_)
    have hl : lv_has ls 4 [(2, .int 0), (0, .ref (adV j)), (1, .int (nI n)), (3, .int (nI (jn j)))] := hl
    refine lv_iload_n hx hb (show decode cJ1_indexOf_4cfef 15 = .ok (.iload_n 3, 1) by decide +kernel) rfl (lv_at hl 3 rfl) ?_
    refine lv_aload_n hx hb (show decode cJ1_indexOf_4cfef 16 = .ok (.aload_n 0, 1) by decide +kernel) rfl (lv_at hl 1 rfl) ?_
    refine va_tlen (v := nI (jn j)) hx hb hTB hS rfl (show decode cJ1_indexOf_4cfef 17 = .ok (.arraylength, 1) by decide +kernel) ?_
    refine va_mmin hx hb (by rw [hml]; exact hl.1.symm) hown (hts _ (mv_TB_of (i := 1211) (by decide +kernel) rfl)) (hts _ mv_st_min) (hts _ mv_im) (hts _ mv_co_min) (by decide) (by decide) (Nat.le_refl _) (Nat.le_refl _) (show decode cJ1_indexOf_4cfef 18 = .ok (.invokestatic 38, 3) by decide +kernel) ?_
    rw [show (if nI (jn j) < nI (jn j) then nI (jn j) else nI (jn j)) = nI (jn j) from by split <;> rfl]
    refine lv_istore_n hx hb (show decode cJ1_indexOf_4cfef 21 = .ok (.istore_n 3, 1) by decide +kernel) rfl hl (by decide) rfl (fun ls hl => ?_)
    have hl : lv_has ls 4 [(3, .int (nI (jn j))), (2, .int 0), (0, .ref (adV j)), (1, .int (nI n))] := hl
    refine lv_iload_n hx hb (show decode cJ1_indexOf_4cfef 22 = .ok (.iload_n 2, 1) by decide +kernel) rfl (lv_at hl 1 rfl) ?_
    refine lv_iload_n hx hb (show decode cJ1_indexOf_4cfef 23 = .ok (.iload_n 3, 1) by decide +kernel) rfl (lv_at hl 0 rfl) ?_
    refine lv_icmp_lt hx hb (tgt := 29) (show decode cJ1_indexOf_4cfef 24 = .ok (.if_icmp .lt 5, 3) by decide +kernel) rfl (fun q => ?_) (fun q => absurd (show (0 : Int32) < nI (jn j) from nI_lt (a := 0) (by omega) (by omega)) q)
    refine lv_aload_n hx hb (show decode cJ1_indexOf_4cfef 29 = .ok (.aload_n 0, 1) by decide +kernel) rfl (lv_at hl 2 rfl) ?_
    refine lv_iload_n hx hb (show decode cJ1_indexOf_4cfef 30 = .ok (.iload_n 1, 1) by decide +kernel) rfl (lv_at hl 3 rfl) ?_
    refine lv_iload_n hx hb (show decode cJ1_indexOf_4cfef 31 = .ok (.iload_n 2, 1) by decide +kernel) rfl (lv_at hl 1 rfl) ?_
    refine lv_iload_n hx hb (show decode cJ1_indexOf_4cfef 32 = .ok (.iload_n 3, 1) by decide +kernel) rfl (lv_at hl 0 rfl) ?_
    refine jv_go (as := _) hS.2.2 (va_runS (As := [.ref (adV j), .int (nI n), .int 0, .int (nI (jn j))]) (rest := []) ⟨hx, hb, hml, hown, hts⟩ (j_ixc l ad adV s.heap.size j n hj hn) ⟨callB_of 4 hts (jW_good jc_ixc) rfl rfl rfl (hts _ (mv_TB_of (i := 60) (by decide +kernel) rfl)) (hts _ (mv_TB_of (i := 1212) (by decide +kernel) rfl)) ⟨by decide, by decide, by decide +kernel⟩ (jW_rm (d := 0) (by decide) rfl), (hts _ (mv_TB_of (i := 1213) (by decide +kernel) rfl))⟩ ⟨jP_blind, fun U hU hW => ⟨rfl, by rw [hU], mv_T_call hW hU hS (fun _ h => h) hT⟩⟩ rfl rfl hl.1 rfl (lv_room (Nat.le_of_ble_eq_true rfl)) (show decode cJ1_indexOf_4cfef 33 = .ok (.invokestatic 95, 3) by decide +kernel) ⟨Nat.le_refl _, Nat.le_refl _⟩) (fun locs hlc => ?_)
    have hS := jS (s := s) hlc
    exact W.iret hx hb hr (fun t ht hW => ⟨rfl, ht⟩) hS.2.2 (show decode cJ1_indexOf_4cfef 36 = .ok (.ireturn, 1) by decide +kernel)
  · rw [show jE x = 0 from if_neg hE, show mv_ix (j + 1) x = -1 from j_out hE _ _ k5]
    refine lv_if_ne hx hb (tgt := 9) (show decode cJ1_indexOf_4cfef 4 = .ok (.ifCond .ne 5, 3) by decide +kernel) rfl (fun q => absurd rfl q) (fun q => ?_)
    refine lv_iconst (v := -1) hx hb (show decode cJ1_indexOf_4cfef 7 = .ok (.iconst (-1), 1) by decide +kernel) rfl ?_
    exact W.iret hx hb hr (fun t ht hW => ⟨rfl, ht⟩) hS.2.2 (show decode cJ1_indexOf_4cfef 8 = .ok (.ireturn, 1) by decide +kernel)
set_option maxRecDepth 20000 in
theorem j_ix2 (l : Launch) (ad adV : Nat → Nat) (sz : Nat) (j : Nat) (x : Int32) (hj : j < 5) : jM l 2 yJ0_indexOf_7cf53 cJ0_indexOf_7cf53 3 (some .int) ad adV sz [.ref (ad (1001 + j)), .int x, .int 0] (mv_ix (j + 1) x) := by
  refine Met.ofW (cc := cJ0_indexOf_7cf53) (maxL := 3) (ret := (some .int)) (by decide) rfl ?_
  intro p e s m args below meth c s₁ B hml hv
  obtain ⟨rfl, hsz, hT⟩ := hv
  have hx := B.exec
  have hb := B.bytes
  have hr := B.returns
  have hts : ∀ w ∈ mv_TB, w.before _ s = true := fun w hw => atoms_spec (ws := jW _ _ _ _) B.pre w (List.mem_cons_of_mem _ hw)
  have hown : s.vm.findClass RJ0 = some m.cls := findClass_of_methodNamed B.named
  have hlocks := B.notSynchronized
  subst hsz
  have hl := lv_entry ([.ref (ad (1001 + j)), .int x, .int 0]) (n := 3) (Nat.le_of_ble_eq_true rfl)
  rw [lg_entry_eq]
  generalize (lg_sl ([.ref (ad (1001 + j)), .int x, .int 0]) ++ List.replicate (3 - (lg_sl ([.ref (ad (1001 + j)), .int x, .int 0])).length) Slot.unset).toArray = ls at hl ⊢
  have hl : lv_has ls 3 [(0, .ref (ad (1001 + j))), (1, .int x), (2, .int 0)] := hl
  have hS : va_S (va_A [] s.heap.size) s.heap s.heap [] := va_S.rf
  have hlc : ∀ z ∈ ([] : List Loc), va_A [] s.heap.size z.base := fun z hz => nomatch hz
  generalize ([] : List Loc) = locs at hS hlc ⊢
  refine lv_aload_n hx hb (show decode cJ0_indexOf_7cf53 0 = .ok (.aload_n 0, 1) by decide +kernel) rfl (lv_at hl 0 rfl) ?_
  refine jv_go (as := _) hS.2.2 (va_runV (C := "java/lang/String") (As := []) (rest := []) ⟨hx, hb, hml, hown, hts⟩ (j_lat l ad adV s.heap.size j hj) ⟨callB_of 0 hts (jW_good jc_lat) rfl rfl rfl (hts _ (mv_TB_of (i := 59) (by decide +kernel) rfl)) (hts _ (mv_TB_of (i := 1190) (by decide +kernel) rfl)) ⟨by decide, by decide, by decide +kernel⟩ (jW_rm (d := 1) (by decide) rfl), (hts _ (mv_TB_of (i := 1191) (by decide +kernel) rfl)), (hts _ (mv_TB_of (i := 1192) (by decide +kernel) rfl))⟩ ⟨jP_blind, vk_recv hT.1 hj hS, fun U hU hW => ⟨rfl, by rw [hU], mv_T_call hW hU hS (fun _ h => h) hT⟩⟩ rfl rfl hl.1 rfl (lv_room (Nat.le_of_ble_eq_true rfl)) (show decode cJ0_indexOf_7cf53 1 = .ok (.invokevirtual 492, 3) by decide +kernel) ⟨Nat.le_refl _, Nat.le_refl _⟩) (fun locs hlc => ?_)
  have hS := jS (s := s) hlc
  refine lv_if_eq hx hb (tgt := 23) (show decode cJ0_indexOf_7cf53 4 = .ok (.ifCond .eq 19, 3) by decide +kernel) rfl (fun q => absurd q (by decide)) (fun q => ?_)
  refine lv_aload_n hx hb (show decode cJ0_indexOf_7cf53 7 = .ok (.aload_n 0, 1) by decide +kernel) rfl (lv_at hl 0 rfl) ?_
  refine vk_getf hx hb (hT.1.1 j hj).2.2.1 hS hown (hts _ (mv_TB_of (i := 1326) (by decide +kernel) rfl)) (fun _ h => h) (show decode cJ0_indexOf_7cf53 8 = .ok (.getfield 9, 3) by decide +kernel) ?_
  refine lv_iload_n hx hb (show decode cJ0_indexOf_7cf53 11 = .ok (.iload_n 1, 1) by decide +kernel) rfl (lv_at hl 1 rfl) ?_
  refine lv_iload_n hx hb (show decode cJ0_indexOf_7cf53 12 = .ok (.iload_n 2, 1) by decide +kernel) rfl (lv_at hl 2 rfl) ?_
  refine lv_aload_n hx hb (show decode cJ0_indexOf_7cf53 13 = .ok (.aload_n 0, 1) by decide +kernel) rfl (lv_at hl 0 rfl) ?_
  refine jv_go (as := _) hS.2.2 (va_runV (C := "java/lang/String") (As := []) (rest := [.int 0, .int x, .ref (adV j)]) ⟨hx, hb, hml, hown, hts⟩ (j_len l ad adV s.heap.size j hj) ⟨callB_of 0 hts (jW_good jc_len) rfl rfl rfl (hts _ (mv_TB_of (i := 59) (by decide +kernel) rfl)) (hts _ (mv_TB_of (i := 1196) (by decide +kernel) rfl)) ⟨by decide, by decide, by decide +kernel⟩ (jW_rm (d := 1) (by decide) rfl), (hts _ (mv_TB_of (i := 1197) (by decide +kernel) rfl)), (hts _ (mv_TB_of (i := 1198) (by decide +kernel) rfl))⟩ ⟨jP_blind, vk_recv hT.1 hj hS, fun U hU hW => ⟨rfl, by rw [hU], mv_T_call hW hU hS (fun _ h => h) hT⟩⟩ rfl rfl hl.1 rfl (lv_room (Nat.le_of_ble_eq_true rfl)) (show decode cJ0_indexOf_7cf53 14 = .ok (.invokevirtual 505, 3) by decide +kernel) ⟨Nat.le_refl _, Nat.le_refl _⟩) (fun locs hlc => ?_)
  have hS := jS (s := s) hlc
  refine jv_go (as := _) hS.2.2 (va_runS (As := [.ref (adV j), .int x, .int 0, .int (nI (jn j))]) (rest := []) ⟨hx, hb, hml, hown, hts⟩ (j_ixl l ad adV s.heap.size j x hj) ⟨callB_of 4 hts (jW_good jc_ixl) rfl rfl rfl (hts _ (mv_TB_of (i := 60) (by decide +kernel) rfl)) (hts _ (mv_TB_of (i := 1204) (by decide +kernel) rfl)) ⟨by decide, by decide, by decide +kernel⟩ (jW_rm (d := 1) (by decide) rfl), (hts _ (mv_TB_of (i := 1205) (by decide +kernel) rfl))⟩ ⟨jP_blind, fun U hU hW => ⟨rfl, by rw [hU], mv_T_call hW hU hS (fun _ h => h) hT⟩⟩ rfl rfl hl.1 rfl (lv_room (Nat.le_of_ble_eq_true rfl)) (show decode cJ0_indexOf_7cf53 17 = .ok (.invokestatic 637, 3) by decide +kernel) ⟨Nat.le_refl _, Nat.le_refl _⟩) (fun locs hlc => ?_)
  have hS := jS (s := s) hlc
  refine lv_goto hx hb (tgt := 36) (show decode cJ0_indexOf_7cf53 20 = .ok (.goto 16, 3) by decide +kernel) rfl ?_
  exact W.iret hx hb hr (fun t ht hW => ⟨rfl, ht⟩) hS.2.2 (show decode cJ0_indexOf_7cf53 36 = .ok (.ireturn, 1) by decide +kernel)
set_option maxRecDepth 20000 in
theorem j_ix1 (l : Launch) (ad adV : Nat → Nat) (sz : Nat) (j : Nat) (x : Int32) (hj : j < 5) : jM l 3 yJ0_indexOf_0f7a4 cJ0_indexOf_0f7a4 2 (some .int) ad adV sz [.ref (ad (1001 + j)), .int x] (mv_ix (j + 1) x) := by
  refine Met.ofW (cc := cJ0_indexOf_0f7a4) (maxL := 2) (ret := (some .int)) (by decide) rfl ?_
  intro p e s m args below meth c s₁ B hml hv
  obtain ⟨rfl, hsz, hT⟩ := hv
  have hx := B.exec
  have hb := B.bytes
  have hr := B.returns
  have hts : ∀ w ∈ mv_TB, w.before _ s = true := fun w hw => atoms_spec (ws := jW _ _ _ _) B.pre w (List.mem_cons_of_mem _ hw)
  have hown : s.vm.findClass RJ0 = some m.cls := findClass_of_methodNamed B.named
  have hlocks := B.notSynchronized
  subst hsz
  have hl := lv_entry ([.ref (ad (1001 + j)), .int x]) (n := 2) (Nat.le_of_ble_eq_true rfl)
  rw [lg_entry_eq]
  generalize (lg_sl ([.ref (ad (1001 + j)), .int x]) ++ List.replicate (2 - (lg_sl ([.ref (ad (1001 + j)), .int x])).length) Slot.unset).toArray = ls at hl ⊢
  have hl : lv_has ls 2 [(0, .ref (ad (1001 + j))), (1, .int x)] := hl
  have hS : va_S (va_A [] s.heap.size) s.heap s.heap [] := va_S.rf
  have hlc : ∀ z ∈ ([] : List Loc), va_A [] s.heap.size z.base := fun z hz => nomatch hz
  generalize ([] : List Loc) = locs at hS hlc ⊢
  refine lv_aload_n hx hb (show decode cJ0_indexOf_0f7a4 0 = .ok (.aload_n 0, 1) by decide +kernel) rfl (lv_at hl 0 rfl) ?_
  refine lv_iload_n hx hb (show decode cJ0_indexOf_0f7a4 1 = .ok (.iload_n 1, 1) by decide +kernel) rfl (lv_at hl 1 rfl) ?_
  refine lv_iconst (v := 0) hx hb (show decode cJ0_indexOf_0f7a4 2 = .ok (.iconst 0, 1) by decide +kernel) rfl ?_
  refine jv_go (as := _) hS.2.2 (va_runV (C := "java/lang/String") (As := [.int x, .int 0]) (rest := []) ⟨hx, hb, hml, hown, hts⟩ (j_ix2 l ad adV s.heap.size j x hj) ⟨callB_of 2 hts (jW_good jc_ix2) rfl rfl rfl (hts _ (mv_TB_of (i := 59) (by decide +kernel) rfl)) (hts _ (mv_TB_of (i := 1186) (by decide +kernel) rfl)) ⟨by decide, by decide, by decide +kernel⟩ (jW_rm (d := 2) (by decide) rfl), (hts _ (mv_TB_of (i := 1187) (by decide +kernel) rfl)), (hts _ (mv_TB_of (i := 1188) (by decide +kernel) rfl))⟩ ⟨jP_blind, vk_recv hT.1 hj hS, fun U hU hW => ⟨rfl, by rw [hU], mv_T_call hW hU hS (fun _ h => h) hT⟩⟩ rfl rfl hl.1 rfl (lv_room (Nat.le_of_ble_eq_true rfl)) (show decode cJ0_indexOf_0f7a4 3 = .ok (.invokevirtual 633, 3) by decide +kernel) ⟨Nat.le_refl _, Nat.le_refl _⟩) (fun locs hlc => ?_)
  have hS := jS (s := s) hlc
  exact W.iret hx hb hr (fun t ht hW => ⟨rfl, ht⟩) hS.2.2 (show decode cJ0_indexOf_0f7a4 6 = .ok (.ireturn, 1) by decide +kernel)
end
