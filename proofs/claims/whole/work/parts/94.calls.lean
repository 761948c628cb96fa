theorem mv_sl_at (ad : Nat → Nat) : ∀ (as : List Value) (i : Nat) (v : Value), (mv_sl as)[i]? = some (some v) → (lg_sl (as.map (mv_cv ad)))[i]? = some (.val (mv_cv ad v))
  | [], i, v, h => by simp [mv_sl] at h
  | .long x :: r, 0, v, h => by simp [mv_sl] at h; subst h; simp [lg_sl, mv_cv, Value.category]
  | .long x :: r, 1, v, h => by simp [mv_sl] at h
  | .long x :: r, i + 2, v, h => by
    have := mv_sl_at ad r i v (by simpa [mv_sl] using h)
    simpa [lg_sl, mv_cv, Value.category] using this
  | .double x :: r, 0, v, h => by simp [mv_sl] at h; subst h; simp [lg_sl, mv_cv, Value.category]
  | .double x :: r, 1, v, h => by simp [mv_sl] at h
  | .double x :: r, i + 2, v, h => by
    have := mv_sl_at ad r i v (by simpa [mv_sl] using h)
    simpa [lg_sl, mv_cv, Value.category] using this
  | .int x :: r, 0, v, h => by simp [mv_sl] at h; subst h; simp [lg_sl, mv_cv, Value.category]
  | .int x :: r, i + 1, v, h => by
    have := mv_sl_at ad r i v (by simpa [mv_sl] using h)
    simpa [lg_sl, mv_cv, Value.category] using this
  | .float x :: r, 0, v, h => by simp [mv_sl] at h; subst h; simp [lg_sl, mv_cv, Value.category]
  | .float x :: r, i + 1, v, h => by
    have := mv_sl_at ad r i v (by simpa [mv_sl] using h)
    simpa [lg_sl, mv_cv, Value.category] using this
  | .null :: r, 0, v, h => by simp [mv_sl] at h; subst h; simp [lg_sl, mv_cv, Value.category]
  | .null :: r, i + 1, v, h => by
    have := mv_sl_at ad r i v (by simpa [mv_sl] using h)
    simpa [lg_sl, mv_cv, Value.category] using this
  | .ref x :: r, 0, v, h => by simp [mv_sl] at h; subst h; simp [lg_sl, mv_cv, Value.category]
  | .ref x :: r, i + 1, v, h => by
    have := mv_sl_at ad r i v (by simpa [mv_sl] using h)
    simpa [lg_sl, mv_cv, Value.category] using this
  | .retAddr x :: r, 0, v, h => by simp [mv_sl] at h; subst h; simp [lg_sl, mv_cv, Value.category]
  | .retAddr x :: r, i + 1, v, h => by
    have := mv_sl_at ad r i v (by simpa [mv_sl] using h)
    simpa [lg_sl, mv_cv, Value.category] using this
theorem mv_sl_len (ad : Nat → Nat) : ∀ (as : List Value), (lg_sl (as.map (mv_cv ad))).length = (mv_sl as).length
  | [] => rfl
  | .long x :: r => by have := mv_sl_len ad r; simp [lg_sl, mv_sl, mv_cv, Value.category] at this ⊢; omega
  | .double x :: r => by have := mv_sl_len ad r; simp [lg_sl, mv_sl, mv_cv, Value.category] at this ⊢; omega
  | .int x :: r => by have := mv_sl_len ad r; simp [lg_sl, mv_sl, mv_cv, Value.category] at this ⊢; omega
  | .float x :: r => by have := mv_sl_len ad r; simp [lg_sl, mv_sl, mv_cv, Value.category] at this ⊢; omega
  | .null :: r => by have := mv_sl_len ad r; simp [lg_sl, mv_sl, mv_cv, Value.category] at this ⊢; omega
  | .ref x :: r => by have := mv_sl_len ad r; simp [lg_sl, mv_sl, mv_cv, Value.category] at this ⊢; omega
  | .retAddr x :: r => by have := mv_sl_len ad r; simp [lg_sl, mv_sl, mv_cv, Value.category] at this ⊢; omega
theorem mv_entry (ad : Nat → Nat) (as : List Value) (n : Nat) (h : (mv_sl as).length ≤ n) : mv_has ad ((lg_sl (as.map (mv_cv ad)) ++ List.replicate (n - (lg_sl (as.map (mv_cv ad))).length) Slot.unset).toArray) n (mv_ent n as) := by
  have hl := lv_entry (as.map (mv_cv ad)) (n := n) (by rw [mv_sl_len]; exact h)
  refine ⟨hl.1, hl.2.1, ?_, fun i v hi => ?_⟩
  · simp [mv_ent]; omega
  · unfold mv_ent at hi
    by_cases hlt : i < (mv_sl as).length
    · rw [List.getElem?_append_left hlt] at hi
      have := mv_sl_at ad as i v hi
      have hlt2 : i < (lg_sl (as.map (mv_cv ad))).length := by rw [mv_sl_len]; exact hlt
      rw [List.getElem?_toArray, List.getElem?_append_left hlt2]
      exact this
    · rw [List.getElem?_append_right (by omega)] at hi
      have hm := List.mem_of_getElem? hi
      have := List.eq_of_mem_replicate hm
      cases this
theorem mv_Nw_warm {w : Cond} {s U : State} (hw : mv_isN w = true) (hW : s.WarmedH U.vm) (h : va_Nw w s) : va_Nw w U := by
  cases w <;> first | exact va_Nw.warmF hW h | exact va_Nw.warmM hW h | (simp [mv_isN] at hw)
theorem mv_Nw_same {w : Cond} {u U : State} (hw : mv_isN w = true) (hv : u.vm = U.vm) (h : va_Nw w u) : va_Nw w U := by
  cases w <;> first | exact va_Nw.same rfl hv h | (simp [mv_isN] at hw)
theorem mv_NB_is {w : Cond} (h : w ∈ mv_NB) : mv_isN w = true := (List.mem_filter.mp h).2
theorem mv_T_call {ad adV : Nat → Nat} {A B : Nat → Prop} {s U : State} {H : Heap} {locs : List Loc} (hW : s.WarmedH U.vm) (hU : U.heap = H) (hS : va_S A s.heap H locs) (hB : ∀ q, B q → A q) (h : mv_T ad adV A s s.heap) : mv_T ad adV B U U.heap := by
  rw [hU]
  exact ⟨((h.1.kept hS.2.1).moved hW.alike).narrow hB, fun j hj => (h.2.1 j hj).warm hW, ((h.2.2.kept hS.2.1).moved hW.alike).narrow hB⟩
def mv_rm (d mc ms : Nat) : Room := { frames := d + 4, cells := mc, slots := ms, locals := 60 * d + 240 }
/-- a method's start -/
def mv_PC (D : va_G) (ad adV cK : Nat → Nat) (sz : Nat) (as : List Value) (S S1 : mv_S) : Array Value → State → Prop := va_Pc (as.map (mv_cv ad)) (fun U => U.heap.size = sz ∧ va_P D vwCl (mv_ws ad cK S) U.heap ∧ va_K D vwCl (mv_tys cK) U ∧ va_D (fun _ => True) (mv_ws ad cK S) ∧ (∀ w ∈ mv_NB, va_Nw w U) ∧ va_AO "HueAndCry$Act" U ∧ mv_T ad adV (va_A (mv_ws ad cK S) sz) U U.heap ∧ (∀ k, S.1 ≤ k → k < S1.1 → ad k + S.1 = sz + k))
/-- its end -/
def mv_QC (D : va_G) (ad cK : Nat → Nat) (sz : Nat) (S : mv_S) (r : Option Value) (S1 : mv_S) : Array Value → State → Outcome → State → Prop := fun _ st oc t => oc = .returned (r.map (mv_cv ad)) ∧ va_P D vwCl (mv_ws ad cK S1) t.heap ∧ va_D (va_A (mv_ws ad cK S) sz) (mv_ws ad cK S1) ∧ t.heap.size + S.1 = st.heap.size + S1.1 ∧ va_F (va_A (mv_ws ad cK S) sz) st t
def mv_wy (y : Nat) : List Cond := Cond.code (mv_m y).1 (mv_m y).2.1 (mv_m y).2.2.1 (mv_m y).2.2.2.1 :: mv_TB
/-- a method's contract -/
def mv_Met (l : Launch) (d y : Nat) (as : List Value) (S : mv_S) (r : Option Value) (S1 : mv_S) : Prop := ∀ (D : va_G) (ad adV cK : Nat → Nat) (sz : Nat), Met l (mv_m y).1 (mv_wy y) (mv_rm d (S1.1 - S.1) (S1.2.1 - S.2.1)) (mv_PC D ad adV cK sz as S S1) (mv_QC D ad cK sz S r S1) (S1.1 - S.1) (S1.2.1 - S.2.1) (va_A (mv_ws ad cK S) sz)
theorem mv_PC_blind {D : va_G} {ad adV cK : Nat → Nat} {sz : Nat} {as : List Value} {S S1 : mv_S} : FrameBlind (mv_PC D ad adV cK sz as S S1) := by
  intro a U g mk q
  obtain ⟨q0, q1, qP, qK, qD, qN, qA, qT, qa⟩ := q
  exact ⟨q0, q1, qP, va_K.moved (u := U) (U := U.calling g mk a) (Vm.Alike.refl U.vm) qK, qD, fun w hw => mv_Nw_same (u := U) (U := U.calling g mk a) (mv_NB_is hw) rfl (qN w hw), va_AO.moved (u := U) (U := U.calling g mk a) (Vm.Alike.refl U.vm) qA, ⟨qT.1.moved (u := U) (U := U.calling g mk a) (Vm.Alike.refl U.vm), fun j hj => vk_R.same (u := U) (U := U.calling g mk a) rfl (qT.2.1 j hj), qT.2.2.moved (u := U) (U := U.calling g mk a) (Vm.Alike.refl U.vm)⟩, qa⟩
theorem mv_good (y : Nat) (hy : y < 171) : GoodIn mv_TB (mv_wy y) := by
  intro w hw
  have h1 : w ∈ mv_TB := by
    rcases List.mem_cons.mp hw with rfl | h
    · exact mv_TB_of (mv_cd y hy) rfl
    · exact h
  exact ⟨h1, good_of_word (List.mem_filter.mp h1).2⟩
theorem mv_wd_cv (ad : Nat → Nat) (st : List Value) : ((st.map (mv_cv ad)).map fun v => v.category).sum = mv_wd st := by
  unfold mv_wd
  rw [List.map_map]
  congr 1
  apply List.map_congr_left
  intro v _
  exact mv_cv_cat ad v
/-- a call's row of the table -/
def mv_clF (own idx mid kind nest : Nat) : Prop := (nest = 0 ∧ Cond.methodLink (mv_own own) idx (mv_m mid).1 ∈ mv_TB ∨ Cond.methodLinkNest (mv_own own) idx (mv_m mid).1 "HueAndCry" ∈ mv_NB) ∧ (kind = 1 → Cond.static (mv_m mid).1 ∈ mv_TB) ∧ (kind ≠ 1 → Cond.instanceMethod (mv_m mid).1 ∈ mv_TB) ∧ (kind = 0 → Cond.selects (mv_m mid).1.cls (mv_m mid).1 (mv_m mid).1 ∈ mv_TB ∧ ∃ T N, vwCl[(mv_m mid).2.2.2.2.2.1]? = some ((mv_m mid).1.cls, T, N)) ∧ (kind = 2 → (mv_m mid).1.name = "<init>" ∧ (mv_m mid).2.2.2.1 = none) ∧ ((mv_m mid).1.cls ≠ "java/lang/invoke/MethodHandle" ∧ (mv_m mid).1.cls ≠ "java/lang/invoke/VarHandle" ∧ (parseMethodDescriptor (mv_m mid).1.desc).map (fun d => d.parameters.length) = some (mv_m mid).2.2.2.2.1) ∧ Cond.initialized (mv_m mid).1.cls ∈ mv_TB ∧ mid < 171
theorem mv_cl_at {own idx mid kind nest a b c d j : Nat} (h : mv_cl[j]? = some (own, idx, mid, kind, nest, a, b, c, d)) : mv_clF own idx mid kind nest := by
  have h1 := List.all_eq_true.mp mv_cl_ok _ (List.mem_of_getElem? h)
  simp only [mv_clok, Bool.and_eq_true, decide_eq_true_eq] at h1
  obtain ⟨⟨⟨⟨⟨⟨⟨⟨⟨h1, h2⟩, h3⟩, h4⟩, h5⟩, h6⟩, h7⟩, h8⟩, -⟩, h9⟩ := h1
  refine ⟨?_, ?_, ?_, ?_, ?_, ⟨h5, h6, h7⟩, mv_ini h8, by simpa using h9⟩
  · cases hn : Nat.beq nest 0 with
    | true => rw [hn] at h1; simp only [cond_true, decide_eq_true_eq] at h1; exact Or.inl ⟨Nat.eq_of_beq_eq_true hn, mv_TB_of h1 rfl⟩
    | false => rw [hn] at h1; simp only [cond_false, decide_eq_true_eq] at h1; exact Or.inr (mv_NB_of h1 rfl)
  · rintro rfl
    simp only [show Nat.beq 1 1 = true from rfl, cond_true, decide_eq_true_eq] at h2
    exact mv_TB_of h2 rfl
  · intro hk
    have : Nat.beq kind 1 = false := by
      cases hb : Nat.beq kind 1 with
      | true => exact absurd (Nat.eq_of_beq_eq_true hb) hk
      | false => rfl
    rw [this] at h2
    simp only [cond_false, decide_eq_true_eq] at h2
    exact mv_TB_of h2 rfl
  · rintro rfl
    simp only [show Nat.beq 0 0 = true from rfl, cond_true, Bool.and_eq_true, decide_eq_true_eq] at h3
    refine ⟨mv_TB_of h3.1 rfl, ?_⟩
    have h31 := h3.2
    cases hv : vwCl[(mv_m mid).2.2.2.2.2.1]? with
    | none => rw [hv] at h31; cases h31
    | some q =>
      obtain ⟨C, T, N⟩ := q
      rw [hv] at h31
      simp only [Option.map_some, Option.some.injEq] at h31
      exact ⟨T, N, by rw [h31]⟩
  · rintro rfl
    simp only [show Nat.beq 2 2 = true from rfl, cond_true, Bool.and_eq_true, decide_eq_true_eq] at h4
    exact h4
theorem mv_oi1 : Cond.instanceMethod objectInit ∈ mv_TB := mv_TB_of (i := 74) (by decide +kernel) rfl
theorem mv_oi2 : Cond.code objectInit ⟨#[0xb1]⟩ 1 none ∈ mv_TB := mv_TB_of (i := 75) (by decide +kernel) rfl
theorem mv_im : Cond.initialized "java/lang/Math" ∈ mv_TB := mv_TB_of (i := 57) (by decide +kernel) rfl
theorem mv_st_min : Cond.static Lib.Math.min.name ∈ mv_TB := mv_TB_of (i := 521) (by decide +kernel) rfl
theorem mv_co_min : Cond.code Lib.Math.min.name Lib.Math.min.code 2 (some .int) ∈ mv_TB := mv_TB_of (i := 522) (by decide +kernel) rfl
theorem mv_st_max : Cond.static Lib.Math.max.name ∈ mv_TB := mv_TB_of (i := 582) (by decide +kernel) rfl
theorem mv_co_max : Cond.code Lib.Math.max.name Lib.Math.max.code 2 (some .int) ∈ mv_TB := mv_TB_of (i := 583) (by decide +kernel) rfl
theorem mv_st_abs : Cond.static Lib.Math.abs.name ∈ mv_TB := mv_TB_of (i := 670) (by decide +kernel) rfl
theorem mv_co_abs : Cond.code Lib.Math.abs.name Lib.Math.abs.code 1 (some .int) ∈ mv_TB := mv_TB_of (i := 671) (by decide +kernel) rfl
theorem mv_ml_all : mv_ms.all (fun q => Nat.ble q.2.2.1 41) = true := by decide +kernel
theorem mv_ml (k : Nat) : (mv_m k).2.2.1 ≤ 41 := by
  unfold mv_m
  rw [List.getD_eq_getElem?_getD]
  cases h : mv_ms[k]? with
  | none => simp
  | some q =>
    have := List.all_eq_true.mp mv_ml_all _ (List.mem_of_getElem? h)
    simpa using this
theorem mv_hrm {R : Room} {d mc ms x : Nat} (hx : x ≤ 41) (hf : d + 5 ≤ R.frames) (hl : 60 * d + 300 ≤ R.locals) : (mv_rm d mc ms).frames + 1 ≤ R.frames ∧ 8 + (x + 11) + (mv_rm d mc ms).locals ≤ R.locals := by
  have e1 : (mv_rm d mc ms).frames = d + 4 := rfl
  have e2 : (mv_rm d mc ms).locals = 60 * d + 240 := rfl
  rw [e1, e2]; omega
theorem mv_orm {R : Room} {m : MethodId} {pc : Nat} {la : Array Slot} {ad : Nat → Nat} {st st0 : List Value} {d : Nat} (h : mv_wd st ≤ 8) (hR : 60 * d + 300 ≤ R.locals) : 2 * (F0 m pc la st0).monitorRoom + ((st.map (mv_cv ad)).map fun v => v.category).sum + 12 ≤ R.locals := by
  rw [mv_wd_cv]; show 2 * 0 + _ + 12 ≤ _; omega
theorem mv_mrm {R : Room} {ad : Nat → Nat} {st : List Value} {d : Nat} (h : mv_wd st ≤ 8) (hR : 60 * d + 300 ≤ R.locals) : ((st.map (mv_cv ad)).map fun v => v.category).sum + 13 ≤ R.locals := by
  rw [mv_wd_cv]; omega
section MVC
variable {p : Program} {l : Launch} {e : Env} {R : Room} {s : State} {m : MethodId} {args : Array Value} {below : List Frame} {meth : Method} {c : Code} {Q : State → Prop} {D : va_G} {ad adV cK : Nat → Nat} {A : Nat → Prop} {own : Nat} {ini : Bool} {cc : ByteArray} {P : List (Nat × mv_I)} {nL n0 n1 s0 kx ks nM sM d : Nat} {rt : Option FieldType} {Rn : Nat → List Value → mv_S → Option Value → mv_S → Prop} {r0 : Option Value} {S0 : mv_S}
/-- the start of a callee, from where the caller stands -/
theorem mv_PC_at {S S1 : mv_S} {H : Heap} {locs : List Loc} {as : List Value} (hN : ∀ w ∈ mv_NB, va_Nw w s) (hK : va_K D vwCl (mv_tys cK) s) (hA : ∀ q, s.heap.size ≤ q → A q) (had : ∀ k, n1 ≤ k → k < nM → kx = 0 ∧ ad k + n0 = s.heap.size + k) (hT : mv_T ad adV A s s.heap) (hAO : va_AO "HueAndCry$Act" s) (hP : va_P D vwCl (mv_ws ad cK S) H) (hD : va_D A (mv_ws ad cK S)) (hS : va_S A s.heap H locs) (hz : kx = 0 → H.size + n0 = s.heap.size + S.1) (hn : n1 ≤ S.1) (g : S1.1 ≤ nM) (U : State) (hU : U.heap = H) (hW : s.WarmedH U.vm) : mv_PC D ad adV cK H.size as S S1 (as.map (mv_cv ad)).toArray U := by
  have hF : ∀ q, va_A (mv_ws ad cK S) H.size q → A q := by
    rintro q (⟨k, e, hk⟩ | hk)
    · exact hD.2 k _ hk
    · exact hA q (Nat.le_trans hS.1 hk)
  refine ⟨rfl, by rw [hU], by rw [hU]; exact hP, va_K.moved hW.alike hK, hD.weaken (fun _ _ _ _ => trivial), fun w hw => mv_Nw_warm (mv_NB_is hw) hW (hN w hw), va_AO.moved hW.alike hAO, mv_T_call hW hU hS hF hT, fun k h1 h2 => ?_⟩
  obtain ⟨h0, h3⟩ := had k (by omega) (by omega)
  have := hz h0
  omega
/-- behind a call -/
theorem mv_call_go {S S1 : mv_S} {H : Heap} {locs : List Loc} {la : Array Slot} {ls : mv_L} {stk : List Value} {rest : List Value} {r1 : Option Value} {pc : Nat} {as : Array Value} (hA : ∀ q, s.heap.size ≤ q → A q) (hP : va_P D vwCl (mv_ws ad cK S) H) (hD : va_D A (mv_ws ad cK S)) (hS : va_S A s.heap H locs) (hz : kx = 0 → H.size + n0 = s.heap.size + S.1) (hn : n1 ≤ S.1) (hnn : n0 ≤ n1) (hs : s0 ≤ S.2.1) (hl : mv_has ad la nL ls) (g7 : S1.1 ≤ nM) (g8 : S1.2.1 ≤ sM) (g9 : S.1 ≤ S1.1) (g10 : S.2.1 ≤ S1.2.1)
    (run : va_Run p l e R s m args below meth c H locs (S.1 - n0 + kx) (S.2.1 - s0 + ks) (S1.1 - S.1) (S1.2.1 - S.2.1) (F0 m pc la stk) (rest.map (mv_cv ad)) (mv_QC D ad cK H.size S r1 S1 as) (va_A (mv_ws ad cK S) H.size))
    (kk : mv_V p l e R s m args below meth c Q D ad cK A nL n0 n1 s0 kx ks nM sM (pc + 3) ls (r1.toList ++ rest) S1) : W p l e R s m args below meth c H locs (S.1 - n0 + kx) (S.2.1 - s0 + ks) Q (F0 m pc la stk) := by
  have hF : ∀ q, va_A (mv_ws ad cK S) H.size q → A q := by
    rintro q (⟨k, e, hk⟩ | hk)
    · exact hD.2 k _ hk
    · exact hA q (Nat.le_trans hS.1 hk)
  intro T hT X
  obtain ⟨v, st₀, t, T', L, h0, X', hL, e1, e2, ⟨hv, q1, q2, q3, q4, q5⟩, st⟩ := run T hT X
  have hv : v = r1.map (mv_cv ad) := by
    have := hv; simp only [Outcome.returned.injEq] at this; exact this
  subst hv
  rw [h0] at q3 q4 q5
  have hS1 : va_S A s.heap T'.heap (locs ++ L) := ⟨Nat.le_trans hS.1 (by rw [e1]; exact q4), fun q h1 h2 => by rw [e1, q5 q (Nat.lt_of_lt_of_le h1 hS.1) (fun z => h2 (hF q z))]; exact hS.2.1 q h1 h2, fun q hq => by
      rcases List.mem_append.mp hq with h | h
      · exact hS.2.2 q h
      · exact hF _ (hL q h)⟩
  have c1 : S.1 - n0 + kx + (S1.1 - S.1) = S1.1 - n0 + kx := by omega
  have c2 : S.2.1 - s0 + ks + (S1.2.1 - S.2.1) = S1.2.1 - s0 + ks := by omega
  rw [c1, c2] at X'
  obtain ⟨t2, a1, b1⟩ := kk T'.heap (locs ++ L) la (by rw [e1]; exact q1) (q2.weaken (fun k q _ h => hF q.1 h)) hS1 (fun h0 => by have := hz h0; rw [e1]; omega) (by omega) (by omega) g7 g8 hl T' rfl X'
  refine ⟨t2, st t2 ?_, b1⟩
  have e3 : (r1.map (mv_cv ad)).toList ++ rest.map (mv_cv ad) = (r1.toList ++ rest).map (mv_cv ad) := by cases r1 <;> simp
  rw [e3]
  exact a1
theorem mv_s_ldc (X : mv_Cx p R s m args meth c D ad adV cK A own ini cc P nL n0 n1 s0 kx ks nM sM d) : mv_R_ldc P rt Rn nM sM r0 S0 (mv_V p l e R s m args below meth c Q D ad cK A nL n0 n1 s0 kx ks nM sM) := by
  obtain ⟨hx, hb, hml, hown, hts, hN, hK, hA, hok, had, hin, hT, hRc, hRs, hRf, hRl, hnn, hAO⟩ := X
  intro pc nx a b v ls st S n h kk H locs la hP hD hS hz hn hs hM hM2 hl
  obtain ⟨hd, rfl⟩ := mv_dec hok h 2 rfl rfl
  have hc := mv_ckd hok h
  cases v with
  | int x =>
    simp only [mv_ck2, decide_eq_true_eq] at hc
    exact lv_ldc hx hb hown (hts _ (mv_TB_of hc rfl)) hd (kk H locs la hP hD hS hz hn hs hM hM2 hl)
  | ref q =>
    simp only [mv_ck2, Bool.and_eq_true, decide_eq_true_eq] at hc
    obtain ⟨⟨⟨⟨ho, h1⟩, h2⟩, -⟩, hk⟩ := hc
    subst ho
    obtain ⟨q1, hq1⟩ : ∃ q1 : Nat, q1 = q := ⟨q, rfl⟩
    have h1 : (1001 : Nat) ≤ q1 := by rw [hq1]; exact h1
    have h2 : (q1 : Nat) < 1006 := by rw [hq1]; exact h2
    rw [← hq1] at hk
    subst hq1
    have hR := hT.2.1 (q1 - 1001) (by omega)
    rw [show q1 - 1001 + 1 = q1 - 1000 by omega, show 1001 + (q1 - 1001) = q1 by omega, ← hk] at hR
    exact va_ldcS hx hb hown hR hd (kk H locs la hP hD hS hz hn hs hM hM2 hl)
  | _ => simp [mv_ck2] at hc
theorem mv_s_ldc_w (X : mv_Cx p R s m args meth c D ad adV cK A own ini cc P nL n0 n1 s0 kx ks nM sM d) : mv_R_ldc_w P rt Rn nM sM r0 S0 (mv_V p l e R s m args below meth c Q D ad cK A nL n0 n1 s0 kx ks nM sM) := by
  obtain ⟨hx, hb, hml, hown, hts, hN, hK, hA, hok, had, hin, hT, hRc, hRs, hRf, hRl, hnn, hAO⟩ := X
  intro pc nx a b v ls st S n h kk H locs la hP hD hS hz hn hs hM hM2 hl
  obtain ⟨hd, rfl⟩ := mv_dec hok h 3 rfl rfl
  have hc := mv_ckd hok h
  cases v with
  | int x =>
    simp only [mv_ck2, decide_eq_true_eq] at hc
    exact lv_ldcw hx hb hown (hts _ (mv_TB_of hc rfl)) hd (kk H locs la hP hD hS hz hn hs hM hM2 hl)
  | _ => simp [mv_ck2] at hc
theorem mv_s_ldc2_w (X : mv_Cx p R s m args meth c D ad adV cK A own ini cc P nL n0 n1 s0 kx ks nM sM d) : mv_R_ldc2_w P rt Rn nM sM r0 S0 (mv_V p l e R s m args below meth c Q D ad cK A nL n0 n1 s0 kx ks nM sM) := by
  obtain ⟨hx, hb, hml, hown, hts, hN, hK, hA, hok, had, hin, hT, hRc, hRs, hRf, hRl, hnn, hAO⟩ := X
  intro pc nx a b v ls st S n h kk H locs la hP hD hS hz hn hs hM hM2 hl
  obtain ⟨hd, rfl⟩ := mv_dec hok h 3 rfl rfl
  have hc := mv_ckd hok h
  cases v with
  | long x =>
    simp only [mv_ck2, decide_eq_true_eq] at hc
    exact lv_ldc2 hx hb hown (hts _ (mv_TB_of hc rfl)) hd (kk H locs la hP hD hS hz hn hs hM hM2 hl)
  | _ => simp [mv_ck2] at hc
theorem mv_s_obj (X : mv_Cx p R s m args meth c D ad adV cK A own ini cc P nL n0 n1 s0 kx ks nM sM d) : mv_R_obj P rt Rn nM sM r0 S0 (mv_V p l e R s m args below meth c Q D ad cK A nL n0 n1 s0 kx ks nM sM) := by
  obtain ⟨hx, hb, hml, hown, hts, hN, hK, hA, hok, had, hin, hT, hRc, hRs, hRf, hRl, hnn, hAO⟩ := X
  intro pc nx a b v ls st S n q h g0 g1 kk H locs la hP hD hS hz hn hs hM hM2 hl
  obtain ⟨hd, rfl⟩ := mv_dec hok h 3 rfl rfl
  have hc := mv_ckd hok h
  subst g0
  simp only [mv_ck2, show Nat.blt 999 900 = false from rfl, cond_false, show Nat.beq 999 999 = true from rfl, cond_true, decide_eq_true_eq] at hc
  exact W.objInit hx hb hown (hts _ (mv_TB_of hc rfl)) (hts _ mv_oi1) (hts _ mv_oi2) rfl (by rw [hml]; exact hl.1) rfl hd (by omega) (mv_orm g1 hRl) (kk H locs la hP hD hS hz hn hs hM hM2 hl)
theorem mv_s_mmin (X : mv_Cx p R s m args meth c D ad adV cK A own ini cc P nL n0 n1 s0 kx ks nM sM d) : mv_R_mmin P rt Rn nM sM r0 S0 (mv_V p l e R s m args below meth c Q D ad cK A nL n0 n1 s0 kx ks nM sM) := by
  obtain ⟨hx, hb, hml, hown, hts, hN, hK, hA, hok, had, hin, hT, hRc, hRs, hRf, hRl, hnn, hAO⟩ := X
  intro pc nx a b v ls st S n x y h g0 g1 kk H locs la hP hD hS hz hn hs hM hM2 hl
  obtain ⟨hd, rfl⟩ := mv_dec hok h 3 rfl rfl
  have hc := mv_ckd hok h
  subst g0
  simp only [mv_ck2, show Nat.blt 901 900 = false from rfl, cond_false, show Nat.beq 901 901 = true from rfl, cond_true, decide_eq_true_eq] at hc
  exact va_mmin hx hb (by rw [hml]; exact hl.1.symm) hown (hts _ (mv_TB_of hc rfl)) (hts _ mv_st_min) (hts _ mv_im) (hts _ mv_co_min) (by omega) (mv_mrm g1 hRl) (by omega) (by omega) hd (kk H locs la hP hD hS hz hn hs hM hM2 hl)
theorem mv_s_mmax (X : mv_Cx p R s m args meth c D ad adV cK A own ini cc P nL n0 n1 s0 kx ks nM sM d) : mv_R_mmax P rt Rn nM sM r0 S0 (mv_V p l e R s m args below meth c Q D ad cK A nL n0 n1 s0 kx ks nM sM) := by
  obtain ⟨hx, hb, hml, hown, hts, hN, hK, hA, hok, had, hin, hT, hRc, hRs, hRf, hRl, hnn, hAO⟩ := X
  intro pc nx a b v ls st S n x y h g0 g1 kk H locs la hP hD hS hz hn hs hM hM2 hl
  obtain ⟨hd, rfl⟩ := mv_dec hok h 3 rfl rfl
  have hc := mv_ckd hok h
  subst g0
  simp only [mv_ck2, show Nat.blt 902 900 = false from rfl, cond_false, show Nat.beq 902 901 = false from rfl, show Nat.beq 902 902 = true from rfl, cond_true, decide_eq_true_eq] at hc
  exact va_mmax hx hb (by rw [hml]; exact hl.1.symm) hown (hts _ (mv_TB_of hc rfl)) (hts _ mv_st_max) (hts _ mv_im) (hts _ mv_co_max) (by omega) (mv_mrm g1 hRl) (by omega) (by omega) hd (kk H locs la hP hD hS hz hn hs hM hM2 hl)
theorem mv_s_mabs (X : mv_Cx p R s m args meth c D ad adV cK A own ini cc P nL n0 n1 s0 kx ks nM sM d) : mv_R_mabs P rt Rn nM sM r0 S0 (mv_V p l e R s m args below meth c Q D ad cK A nL n0 n1 s0 kx ks nM sM) := by
  obtain ⟨hx, hb, hml, hown, hts, hN, hK, hA, hok, had, hin, hT, hRc, hRs, hRf, hRl, hnn, hAO⟩ := X
  intro pc nx a b v ls st S n x h g0 g1 kk H locs la hP hD hS hz hn hs hM hM2 hl
  obtain ⟨hd, rfl⟩ := mv_dec hok h 3 rfl rfl
  have hc := mv_ckd hok h
  subst g0
  simp only [mv_ck2, show Nat.blt 903 900 = false from rfl, cond_false, show Nat.beq 903 901 = false from rfl, show Nat.beq 903 902 = false from rfl, show Nat.beq 903 903 = true from rfl, cond_true, decide_eq_true_eq] at hc
  exact va_mabs hx hb (by rw [hml]; exact hl.1.symm) hown (hts _ (mv_TB_of hc rfl)) (hts _ mv_st_abs) (hts _ mv_im) (hts _ mv_co_abs) (by omega) (mv_mrm g1 hRl) (by omega) (by omega) hd (kk H locs la hP hD hS hz hn hs hM hM2 hl)
theorem mv_s_callV (X : mv_Cx p R s m args meth c D ad adV cK A own ini cc P nL n0 n1 s0 kx ks nM sM d) (hRn : ∀ y as S r S1, S.1 ≤ S1.1 → S.2.1 ≤ S1.2.1 → Rn y as S r S1 → mv_Met l d y as S r S1) : mv_R_callV P rt Rn nM sM r0 S0 (mv_V p l e R s m args below meth c Q D ad cK A nL n0 n1 s0 kx ks nM sM) := by
  obtain ⟨hx, hb, hml, hown, hts, hN, hK, hA, hok, had, hin, hT, hRc, hRs, hRf, hRl, hnn, hAO⟩ := X
  intro pc nx a b v ls st S n as rest q ci fs r1 S1 h g0 g1 g2 g3 g4 g5 g6 g7 g8 g9 g10 kk H locs la hP hD hS hz hn hs hM hM2 hl
  obtain ⟨hd, rfl⟩ := mv_dec hok h 3 rfl rfl
  have hc := mv_ckd hok h
  have hb9 : Nat.blt b 900 = true := by simpa using g0
  simp only [mv_ck2, hb9, cond_true] at hc
  cases hj : mv_cl[a]? with
  | none => rw [hj] at hc; simp at hc
  | some t =>
    obtain ⟨ow, idx, mid, kind, nest, j1, j2, j3, j4⟩ := t
    rw [hj] at hc
    simp only [decide_eq_true_eq] at hc
    obtain ⟨rfl, rfl, rfl, rfl⟩ := hc
    obtain ⟨k1, k2, k3, k4, k5, k6, k7, k8⟩ := mv_cl_at hj
    have hM := hRn _ _ _ _ _ g9 g10 g6 D ad adV cK H.size
    have hpc := fun U hU hW => mv_PC_at (as := (.ref q :: as)) (S1 := S1) hN hK hA had hT hAO hP hD hS hz hn g7 U hU hW
    have hroom : 2 * (F0 m pc la []).monitorRoom + ((rest.map (mv_cv ad)).map fun v => v.category).sum ≤ 8 := by rw [mv_wd_cv]; show 2 * 0 + _ ≤ 8; omega
    have hlen : (as.map (mv_cv ad)).length = (mv_m mid).2.2.2.2.1 := by rw [List.length_map]; exact g1.symm
    have hcs : S.1 - n0 + kx + (S1.1 - S.1) ≤ R.cells ∧ S.2.1 - s0 + ks + (S1.2.1 - S.2.1) ≤ R.slots := by constructor <;> omega
    have hrm : (mv_rm d (S1.1 - S.1) (S1.2.1 - S.2.1)).frames + 1 ≤ R.frames ∧ 8 + ((mv_m mid).2.2.1 + 11) + (mv_rm d (S1.1 - S.1) (S1.2.1 - S.2.1)).locals ≤ R.locals := mv_hrm (mv_ml mid) hRf hRl
    obtain ⟨T, N, hv⟩ := (k4 rfl).2
    have he : (mv_ws ad cK S)[q]? = some (ad q, .inr ((mv_m mid).2.2.2.2.2.1, fs.map (mv_cv ad))) := by rw [g2]; exact mv_he g3 g4
    have hrcv : ∃ cellB : Cell, H[ad q]? = some cellB ∧ cellB.vm.isStatics = false ∧ s.vm.findClass (mv_m mid).1.cls = some cellB.cls := va_recv hK hP hv he
    rcases k1 with ⟨-, k1⟩ | k1
    · refine mv_call_go hA hP hD hS hz hn hnn hs hl g7 g8 g9 g10 (va_runV (C := (mv_m mid).1.cls) ⟨hx, hb, hml, hown, hts⟩ hM ⟨callB_of (mv_m mid).2.2.2.2.1 hts (mv_good mid k8) rfl rfl rfl (hts _ k7) (hts _ k1) k6 hrm, hts _ (k3 (by decide)), hts _ (k4 rfl).1⟩ ⟨mv_PC_blind, hrcv, hpc⟩ rfl hlen hl.1 (by simp [List.map_append, List.map_reverse, mv_cv]) hroom hd hcs) kk
    · refine mv_call_go hA hP hD hS hz hn hnn hs hl g7 g8 g9 g10 (va_runVN (C := (mv_m mid).1.cls) ⟨hx, hb, hml, hown, hts⟩ hM ⟨va_cnB (mv_m mid).2.2.2.2.1 hts (mv_good mid k8) rfl rfl rfl (hN _ k1) (hts _ k7) k6 hrm, hts _ (k3 (by decide)), hts _ (k4 rfl).1⟩ ⟨mv_PC_blind, hrcv, hpc⟩ rfl hlen hl.1 (by simp [List.map_append, List.map_reverse, mv_cv]) hroom hd hcs) kk
theorem mv_s_callS (X : mv_Cx p R s m args meth c D ad adV cK A own ini cc P nL n0 n1 s0 kx ks nM sM d) (hRn : ∀ y as S r S1, S.1 ≤ S1.1 → S.2.1 ≤ S1.2.1 → Rn y as S r S1 → mv_Met l d y as S r S1) : mv_R_callS P rt Rn nM sM r0 S0 (mv_V p l e R s m args below meth c Q D ad cK A nL n0 n1 s0 kx ks nM sM) := by
  obtain ⟨hx, hb, hml, hown, hts, hN, hK, hA, hok, had, hin, hT, hRc, hRs, hRf, hRl, hnn, hAO⟩ := X
  intro pc nx a b v ls st S n as rest r1 S1 h g0 g1 g2 g3 g4 g5 g6 g7 kk H locs la hP hD hS hz hn hs hM hM2 hl
  obtain ⟨hd, rfl⟩ := mv_dec hok h 3 rfl rfl
  have hc := mv_ckd hok h
  have hb9 : Nat.blt b 900 = true := by simpa using g0
  simp only [mv_ck2, hb9, cond_true] at hc
  cases hj : mv_cl[a]? with
  | none => rw [hj] at hc; simp at hc
  | some t =>
    obtain ⟨ow, idx, mid, kind, nest, j1, j2, j3, j4⟩ := t
    rw [hj] at hc
    simp only [decide_eq_true_eq] at hc
    obtain ⟨rfl, rfl, rfl, rfl⟩ := hc
    obtain ⟨k1, k2, k3, k4, k5, k6, k7, k8⟩ := mv_cl_at hj
    have hM := hRn _ _ _ _ _ g6 g7 g3 D ad adV cK H.size
    have hpc := fun U hU hW => mv_PC_at (as := as) (S1 := S1) hN hK hA had hT hAO hP hD hS hz hn g4 U hU hW
    have hroom : 2 * (F0 m pc la []).monitorRoom + ((rest.map (mv_cv ad)).map fun v => v.category).sum ≤ 8 := by rw [mv_wd_cv]; show 2 * 0 + _ ≤ 8; omega
    have hlen : (as.map (mv_cv ad)).length = (mv_m mid).2.2.2.2.1 := by rw [List.length_map]; exact g1.symm
    have hcs : S.1 - n0 + kx + (S1.1 - S.1) ≤ R.cells ∧ S.2.1 - s0 + ks + (S1.2.1 - S.2.1) ≤ R.slots := by constructor <;> omega
    have hrm : (mv_rm d (S1.1 - S.1) (S1.2.1 - S.2.1)).frames + 1 ≤ R.frames ∧ 8 + ((mv_m mid).2.2.1 + 11) + (mv_rm d (S1.1 - S.1) (S1.2.1 - S.2.1)).locals ≤ R.locals := mv_hrm (mv_ml mid) hRf hRl
    rcases k1 with ⟨-, k1⟩ | k1
    · refine mv_call_go hA hP hD hS hz hn hnn hs hl g4 g5 g6 g7 (va_runS ⟨hx, hb, hml, hown, hts⟩ hM ⟨callB_of (mv_m mid).2.2.2.2.1 hts (mv_good mid k8) rfl rfl rfl (hts _ k7) (hts _ k1) k6 hrm, hts _ (k2 rfl)⟩ ⟨mv_PC_blind, hpc⟩ rfl hlen hl.1 (by simp [List.map_append, List.map_reverse, mv_cv]) hroom hd hcs) kk
    · refine mv_call_go hA hP hD hS hz hn hnn hs hl g4 g5 g6 g7 (va_runSN ⟨hx, hb, hml, hown, hts⟩ hM ⟨va_cnB (mv_m mid).2.2.2.2.1 hts (mv_good mid k8) rfl rfl rfl (hN _ k1) (hts _ k7) k6 hrm, hts _ (k2 rfl), trivial⟩ ⟨mv_PC_blind, hpc⟩ rfl hlen hl.1 (by simp [List.map_append, List.map_reverse, mv_cv]) hroom hd hcs) kk
theorem mv_s_callI (X : mv_Cx p R s m args meth c D ad adV cK A own ini cc P nL n0 n1 s0 kx ks nM sM d) (hRn : ∀ y as S r S1, S.1 ≤ S1.1 → S.2.1 ≤ S1.2.1 → Rn y as S r S1 → mv_Met l d y as S r S1) : mv_R_callI P rt Rn nM sM r0 S0 (mv_V p l e R s m args below meth c Q D ad cK A nL n0 n1 s0 kx ks nM sM) := by
  obtain ⟨hx, hb, hml, hown, hts, hN, hK, hA, hok, had, hin, hT, hRc, hRs, hRf, hRl, hnn, hAO⟩ := X
  intro pc nx a b v ls st S n as rest q r1 S1 h g0 g1 g2 g3 g4 g5 g6 g7 kk H locs la hP hD hS hz hn hs hM hM2 hl
  obtain ⟨hd, rfl⟩ := mv_dec hok h 3 rfl rfl
  have hc := mv_ckd hok h
  have hb9 : Nat.blt b 900 = true := by simpa using g0
  simp only [mv_ck2, hb9, cond_true] at hc
  cases hj : mv_cl[a]? with
  | none => rw [hj] at hc; simp at hc
  | some t =>
    obtain ⟨ow, idx, mid, kind, nest, j1, j2, j3, j4⟩ := t
    rw [hj] at hc
    simp only [decide_eq_true_eq] at hc
    obtain ⟨rfl, rfl, rfl, rfl⟩ := hc
    obtain ⟨k1, k2, k3, k4, k5, k6, k7, k8⟩ := mv_cl_at hj
    have hM := hRn _ _ _ _ _ g6 g7 g3 D ad adV cK H.size
    have hpc := fun U hU hW => mv_PC_at (as := (.ref q :: as)) (S1 := S1) hN hK hA had hT hAO hP hD hS hz hn g4 U hU hW
    have hroom : 2 * (F0 m pc la []).monitorRoom + ((rest.map (mv_cv ad)).map fun v => v.category).sum ≤ 8 := by rw [mv_wd_cv]; show 2 * 0 + _ ≤ 8; omega
    have hlen : (as.map (mv_cv ad)).length = (mv_m mid).2.2.2.2.1 := by rw [List.length_map]; exact g1.symm
    have hcs : S.1 - n0 + kx + (S1.1 - S.1) ≤ R.cells ∧ S.2.1 - s0 + ks + (S1.2.1 - S.2.1) ≤ R.slots := by constructor <;> omega
    have hrm : (mv_rm d (S1.1 - S.1) (S1.2.1 - S.2.1)).frames + 1 ≤ R.frames ∧ 8 + ((mv_m mid).2.2.1 + 11) + (mv_rm d (S1.1 - S.1) (S1.2.1 - S.2.1)).locals ≤ R.locals := mv_hrm (mv_ml mid) hRf hRl
    rcases k1 with ⟨-, k1⟩ | k1
    · refine mv_call_go hA hP hD hS hz hn hnn hs hl g4 g5 g6 g7 (va_runI ⟨hx, hb, hml, hown, hts⟩ hM ⟨by have := callB_of (mv_m mid).2.2.2.2.1 hts (mv_good mid k8) rfl rfl rfl (hts _ k7) (hts _ k1) k6 hrm; rw [(k5 rfl).2] at this; exact this, (k5 rfl).1, hts _ (k3 (by decide))⟩ ⟨mv_PC_blind, hpc⟩ rfl hlen hl.1 (by simp [List.map_append, List.map_reverse, mv_cv]) hroom hd hcs) kk
    · refine mv_call_go hA hP hD hS hz hn hnn hs hl g4 g5 g6 g7 (va_runIN ⟨hx, hb, hml, hown, hts⟩ hM ⟨by have := va_cnB (mv_m mid).2.2.2.2.1 hts (mv_good mid k8) rfl rfl rfl (hN _ k1) (hts _ k7) k6 hrm; rw [(k5 rfl).2] at this; exact this, (k5 rfl).1, hts _ (k3 (by decide))⟩ ⟨mv_PC_blind, hpc⟩ rfl hlen hl.1 (by simp [List.map_append, List.map_reverse, mv_cv]) hroom hd hcs) kk
theorem mv_s_forget : mv_R_forget P rt Rn nM sM r0 S0 (mv_V p l e R s m args below meth c Q D ad cK A nL n0 n1 s0 kx ks nM sM) := by
  intro pc ls ls1 st S hle kk H locs la hP hD hS hz hn hs hM hM2 hl
  exact kk H locs la hP hD hS hz hn hs hM hM2 (mv_has_le hl hle)
end MVC
