/-! THE ABSTRACT MACHINE OVER THE MACHINE -/
def mv_cv (ad : Nat → Nat) : Value → Value
  | .ref k => .ref (ad k)
  | v => v
def mv_ca (ad : Nat → Nat) : vp_A → vp_A
  | (n, .inr (.inr (.inr (.inr g)))) => (n, .inr (.inr (.inr (.inr (fun i => (g i).map ad)))))
  | a => a
def mv_ce (ad cK : Nat → Nat) : mv_C → va_E
  | .inl (kd, a) => .inl (cK kd, mv_ca ad a)
  | .inr (ci, fs) => .inr (ci, fs.map (mv_cv ad))
def mv_ws (ad cK : Nat → Nat) (S : mv_S) : va_W := (List.range S.1).map fun k => (ad k, mv_ce ad cK (S.2.2 k))
theorem mv_ws_at {ad cK : Nat → Nat} {S : mv_S} {k : Nat} (h : k < S.1) : (mv_ws ad cK S)[k]? = some (ad k, mv_ce ad cK (S.2.2 k)) := by simp [mv_ws, h]
theorem mv_ws_out {ad cK : Nat → Nat} {S : mv_S} {k : Nat} (h : ¬ k < S.1) : (mv_ws ad cK S)[k]? = none := by simp [mv_ws]; omega
theorem mv_ws_set {ad cK : Nat → Nat} {S : mv_S} {q : Nat} (h : q < S.1) (c1 : mv_C) : (mv_ws ad cK S).set q (ad q, mv_ce ad cK c1) = mv_ws ad cK (S.1, S.2.1, va_up S.2.2 q c1) := by
  apply List.ext_getElem?
  intro k
  by_cases hk : k < S.1
  · rw [mv_ws_at (S := (S.1, S.2.1, va_up S.2.2 q c1)) hk]
    by_cases hq : q = k
    · subst hq
      rw [List.getElem?_set_self (by simp [mv_ws, h])]; simp [va_up]
    · rw [List.getElem?_set_ne hq, mv_ws_at hk]; simp [va_up, Ne.symm hq]
  · rw [mv_ws_out (S := (S.1, S.2.1, va_up S.2.2 q c1)) hk, List.getElem?_eq_none]
    simp [mv_ws]; omega
theorem mv_ws_push {ad cK : Nat → Nat} {S : mv_S} (c1 : mv_C) (x : Nat) : mv_ws ad cK (S.1 + 1, x, va_up S.2.2 S.1 c1) = mv_ws ad cK S ++ [(ad S.1, mv_ce ad cK c1)] := by
  unfold mv_ws
  simp only [List.range_succ, List.map_append, List.map_cons, List.map_nil]
  congr 1
  · apply List.map_congr_left
    intro k hk
    have : k ≠ S.1 := by have := List.mem_range.mp hk; omega
    simp [va_up, this]
  · simp [va_up]
/-- the locals -/
def mv_has (ad : Nat → Nat) (la : Array Slot) (nL : Nat) (ls : mv_L) : Prop := la.size = nL ∧ lv_wf la ∧ ls.length = nL ∧ ∀ (i : Nat) (v : Value), ls[i]? = some (some v) → la[i]? = some (.val (mv_cv ad v))
def mv_lv (ad : Nat → Nat) (ls : mv_L) : List (Nat × Value) := (List.range ls.length).filterMap fun i => (ls.getD i none).map fun v => (i, mv_cv ad v)
theorem mv_lv_mem {ad : Nat → Nat} {ls : mv_L} {i : Nat} {v : Value} (h : ls[i]? = some (some v)) : (i, mv_cv ad v) ∈ mv_lv ad ls := by
  refine List.mem_filterMap.mpr ⟨i, List.mem_range.mpr (List.getElem?_eq_some_iff.mp h).1, ?_⟩
  simp [List.getD_eq_getElem?_getD, h]
theorem mv_lv_of {ad : Nat → Nat} {ls : mv_L} {q : Nat × Value} (h : q ∈ mv_lv ad ls) : ∃ v, ls[q.1]? = some (some v) ∧ q.2 = mv_cv ad v := by
  obtain ⟨i, hi, h2⟩ := List.mem_filterMap.mp h
  have hi := List.mem_range.mp hi
  rw [List.getD_eq_getElem?_getD] at h2
  cases h3 : ls[i]? with
  | none => rw [h3] at h2; simp at h2
  | some o =>
    cases o with
    | none => rw [h3] at h2; simp at h2
    | some v => rw [h3] at h2; simp at h2; subst h2; exact ⟨v, h3, rfl⟩
theorem mv_has.lv {ad : Nat → Nat} {la : Array Slot} {nL : Nat} {ls : mv_L} (h : mv_has ad la nL ls) : lv_has la nL (mv_lv ad ls) := ⟨h.1, h.2.1, fun q hq => by
  obtain ⟨v, h1, h2⟩ := mv_lv_of hq
  rw [h2]; exact h.2.2.2 _ _ h1⟩
theorem mv_cv_cat (ad : Nat → Nat) (v : Value) : (mv_cv ad v).category = v.category := by cases v <;> rfl
theorem mv_pre_lt {ls : mv_L} : ∀ {i : Nat}, mv_pre ls i = true → i < ls.length
  | 0, h => by simpa [mv_pre] using h
  | j + 1, h => by simp [mv_pre] at h; exact h.1
theorem mv_pre_nl {ls : mv_L} {i : Nat} (h : mv_pre ls i = true) {j : Nat} {v : Value} (hj : j + 1 = i) (hv : ls[j]? = some (some v)) : ¬ v.category = 2 := by
  subst hj
  simp only [mv_pre, Bool.and_eq_true, Bool.not_eq_true'] at h
  have h2 := h.2
  rw [List.getD_eq_getElem?_getD, hv] at h2
  cases v <;> simp_all [mv_isL, Value.category]
theorem mv_has_st1 {ad : Nat → Nat} {la la1 : Array Slot} {nL : Nat} {ls : mv_L} {i : Nat} {x : Value} (h : mv_has ad la nL ls) (hp : mv_pre ls i = true) (hl : lv_has la1 nL ((i, mv_cv ad x) :: (mv_lv ad ls).filter (fun q => !(q.1 == i) && !(q.1 + 1 == i && q.2.category == 2)))) : mv_has ad la1 nL (ls.set i (some x)) := by
  refine ⟨hl.1, hl.2.1, by rw [List.length_set]; exact h.2.2.1, fun j v hj => ?_⟩
  by_cases hji : i = j
  · subst hji
    rw [List.getElem?_set_self (mv_pre_lt hp)] at hj
    cases hj
    exact hl.2.2 (i, mv_cv ad x) List.mem_cons_self
  · rw [List.getElem?_set_ne hji] at hj
    refine hl.2.2 (j, mv_cv ad v) (List.mem_cons_of_mem _ (List.mem_filter.mpr ⟨mv_lv_mem hj, ?_⟩))
    have h1 : ¬ j = i := fun e => hji e.symm
    simp only [Bool.and_eq_true, Bool.not_eq_true', beq_eq_false_iff_ne, ne_eq, h1, not_false_eq_true, true_and, Bool.and_eq_false_imp, beq_iff_eq]
    intro h2
    rw [mv_cv_cat]
    exact mv_pre_nl hp h2 hj
theorem mv_has_st2 {ad : Nat → Nat} {la la1 : Array Slot} {nL : Nat} {ls : mv_L} {i : Nat} {x : Value} (h : mv_has ad la nL ls) (hp : mv_pre ls i = true) (hl : lv_has la1 nL ((i, mv_cv ad x) :: (mv_lv ad ls).filter (fun q => !(q.1 == i) && (!(q.1 == i + 1) && !(q.1 + 1 == i && q.2.category == 2))))) : mv_has ad la1 nL ((ls.set i (some x)).set (i + 1) none) := by
  refine ⟨hl.1, hl.2.1, by rw [List.length_set, List.length_set]; exact h.2.2.1, fun j v hj => ?_⟩
  by_cases hj1 : i + 1 = j
  · subst hj1
    by_cases hlt : i + 1 < (ls.set i (some x)).length
    · rw [List.getElem?_set_self hlt] at hj; simp at hj
    · rw [List.getElem?_eq_none (by rw [List.length_set]; omega)] at hj; simp at hj
  · rw [List.getElem?_set_ne hj1] at hj
    by_cases hji : i = j
    · subst hji
      rw [List.getElem?_set_self (mv_pre_lt hp)] at hj
      cases hj
      exact hl.2.2 (i, mv_cv ad x) List.mem_cons_self
    · rw [List.getElem?_set_ne hji] at hj
      refine hl.2.2 (j, mv_cv ad v) (List.mem_cons_of_mem _ (List.mem_filter.mpr ⟨mv_lv_mem hj, ?_⟩))
      have h1 : ¬ j = i := fun e => hji e.symm
      have h2 : ¬ j = i + 1 := fun e => hj1 e.symm
      simp only [Bool.and_eq_true, Bool.not_eq_true', beq_eq_false_iff_ne, ne_eq, h1, h2, not_false_eq_true, true_and, Bool.and_eq_false_imp, beq_iff_eq]
      intro h3
      rw [mv_cv_cat]
      exact mv_pre_nl hp h3 hj
theorem mv_has_le {ad : Nat → Nat} {la : Array Slot} {nL : Nat} {ls ls1 : mv_L} (h : mv_has ad la nL ls) (hle : mv_le ls1 ls) : mv_has ad la nL ls1 := ⟨h.1, h.2.1, hle.1.trans h.2.2.1, fun i v hi => h.2.2.2 i v (hle.2 i v hi)⟩
/-- what a method's program says of its bytes -/
theorem mv_at_mem : ∀ {P : List (Nat × mv_I)} {pc : Nat} {i : mv_I}, mv_at P pc = some i → (pc, i) ∈ P
  | [], _, _, h => by simp [mv_at] at h
  | q :: r, pc, i, h => by
    simp only [mv_at] at h
    cases hq : Nat.beq q.1 pc with
    | true =>
      rw [hq] at h
      have e := Nat.eq_of_beq_eq_true hq
      simp only [cond_true, Option.some.injEq] at h
      subst e; subst h
      exact List.mem_cons_self
    | false =>
      rw [hq] at h
      exact List.mem_cons_of_mem _ (mv_at_mem h)
theorem mv_chk_of {own : Nat} {ini : Bool} {cc : ByteArray} {P : List (Nat × mv_I)} (hok : mv_ok own ini cc P = true) {pc : Nat} {i : mv_I} (h : mv_at P pc = some i) : mv_chk own ini cc pc i = true := by
  unfold mv_ok at hok
  rw [List.all_eq_true] at hok
  exact hok (pc, i) (mv_at_mem h)
theorem mv_dec {own : Nat} {ini : Bool} {cc : ByteArray} {P : List (Nat × mv_I)} (hok : mv_ok own ini cc P = true) {pc nx a b : Nat} {ins : Instr} {v : Value} (h : mv_at P pc = some (ins, nx, a, b, v)) (n : Nat) (hn : mv_lenof ins = n) (h0 : Nat.beq n 0 = false) : decode cc pc = .ok (ins, n) ∧ nx = pc + n := by
  have := mv_chk_of hok h
  simp only [mv_chk, Bool.and_eq_true, decide_eq_true_eq, hn, h0, Bool.false_or] at this
  obtain ⟨⟨⟨h1, h2⟩, h3⟩, h4⟩ := this
  have e := Nat.eq_of_beq_eq_true h3
  refine ⟨?_, e⟩
  rw [h1, e]
  simp
theorem mv_dec0 {own : Nat} {ini : Bool} {cc : ByteArray} {P : List (Nat × mv_I)} (hok : mv_ok own ini cc P = true) {pc nx a b : Nat} {ins : Instr} {v : Value} (h : mv_at P pc = some (ins, nx, a, b, v)) : decode cc pc = .ok (ins, nx - pc) := by
  have := mv_chk_of hok h
  simp only [mv_chk, Bool.and_eq_true, decide_eq_true_eq] at this
  exact this.1.1.1
theorem mv_ckd {own : Nat} {ini : Bool} {cc : ByteArray} {P : List (Nat × mv_I)} (hok : mv_ok own ini cc P = true) {pc : Nat} {i : mv_I} (h : mv_at P pc = some i) : mv_ck2 own ini pc i = true := by
  have := mv_chk_of hok h
  simp only [mv_chk, Bool.and_eq_true] at this
  exact this.2
