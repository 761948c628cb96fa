section
theorem hv_same {α : Type} {f : Nat → α} {k : Nat} {c : α} (h : f k = c) : va_up f k c = f := by
  funext j; unfold va_up; split
  · rename_i e; rw [e, h]
  · rfl
theorem hv_up {α : Type} {f : Nat → α} {k : Nat} {c d : α} : va_up (va_up f k c) k d = va_up f k d := by
  funext j; unfold va_up; split <;> rfl
theorem hv_comm {α : Type} {f : Nat → α} {k q : Nat} {c d : α} (h : ¬ k = q) : va_up (va_up f k c) q d = va_up (va_up f q d) k c := by
  funext j; unfold va_up
  by_cases e : j = q
  · have : ¬ j = k := fun w => h (by omega)
    rw [if_pos e, if_neg this, if_pos e]
  · rw [if_neg e]
    by_cases e2 : j = k
    · rw [if_pos e2, if_pos e2]
    · rw [if_neg e2, if_neg e2, if_neg e]
theorem hv_ne {α : Type} {f : Nat → α} {k q : Nat} {c : α} (h : ¬ k = q) : va_up f q c k = f k := by unfold va_up; rw [if_neg h]
theorem hv_at {α : Type} {f : Nat → α} {q : Nat} {c : α} : va_up f q c q = c := by unfold va_up; rw [if_pos rfl]
variable {P : List (Nat × mv_I)} {rt : Option FieldType} {Rn : Nat → List Value → mv_S → Option Value → mv_S → Prop} {nM sM : Nat} {r0 : Option Value} {S0 : mv_S} {V : Nat → mv_L → List Value → mv_S → Prop}
theorem mi_new_int (C : mv_Clo P rt Rn nM sM r0 S0 V) {pc nx a b : Nat} {v : Value} {ls : mv_L} {st : List Value} {n s : Nat} {F : Nat → mv_C} {y : Int32} (x : Nat) (h : mv_at P pc = some (.newarray .int, nx, a, b, v)) (hy : y = nI x) (hx : Nat.ble x 65536 = true) (hn : Nat.ble (n + 1) nM = true) (hs : Nat.ble (s + x) sM = true) (kk : V nx ls (.ref n :: st) (n + 1, s + x, va_up F n (.inl (0, x, .inl (fun _ => 0))))) : V pc ls (.int y :: st) (n, s, F) := by
  subst hy; exact mv_new_int C h (Nat.le_of_ble_eq_true hx) (Nat.le_of_ble_eq_true hn) (Nat.le_of_ble_eq_true hs) kk
theorem mi_new_boolean (C : mv_Clo P rt Rn nM sM r0 S0 V) {pc nx a b : Nat} {v : Value} {ls : mv_L} {st : List Value} {n s : Nat} {F : Nat → mv_C} {y : Int32} (x : Nat) (h : mv_at P pc = some (.newarray .boolean, nx, a, b, v)) (hy : y = nI x) (hx : Nat.ble x 65536 = true) (hn : Nat.ble (n + 1) nM = true) (hs : Nat.ble (s + x) sM = true) (kk : V nx ls (.ref n :: st) (n + 1, s + x, va_up F n (.inl (1, x, .inl (fun _ => 0))))) : V pc ls (.int y :: st) (n, s, F) := by
  subst hy; exact mv_new_boolean C h (Nat.le_of_ble_eq_true hx) (Nat.le_of_ble_eq_true hn) (Nat.le_of_ble_eq_true hs) kk
theorem mi_new_long (C : mv_Clo P rt Rn nM sM r0 S0 V) {pc nx a b : Nat} {v : Value} {ls : mv_L} {st : List Value} {n s : Nat} {F : Nat → mv_C} {y : Int32} (x : Nat) (h : mv_at P pc = some (.newarray .long, nx, a, b, v)) (hy : y = nI x) (hx : Nat.ble x 65536 = true) (hn : Nat.ble (n + 1) nM = true) (hs : Nat.ble (s + x) sM = true) (kk : V nx ls (.ref n :: st) (n + 1, s + x, va_up F n (.inl (2, x, .inr (.inl (fun _ => 0)))))) : V pc ls (.int y :: st) (n, s, F) := by
  subst hy; exact mv_new_long C h (Nat.le_of_ble_eq_true hx) (Nat.le_of_ble_eq_true hn) (Nat.le_of_ble_eq_true hs) kk
theorem mi_anew (C : mv_Clo P rt Rn nM sM r0 S0 V) {pc nx a b i : Nat} {v : Value} {ls : mv_L} {st : List Value} {n s : Nat} {F : Nat → mv_C} {y : Int32} (x : Nat) (h : mv_at P pc = some (.anewarray i, nx, a, b, v)) (hy : y = nI x) (hx : Nat.ble x 65536 = true) (hn : Nat.ble (n + 1) nM = true) (hs : Nat.ble (s + x) sM = true) (kk : V nx ls (.ref n :: st) (n + 1, s + x, va_up F n (.inl (3, x, .inr (.inr (.inr (.inr (fun _ => none)))))))) : V pc ls (.int y :: st) (n, s, F) := by
  subst hy; exact mv_anew C h (Nat.le_of_ble_eq_true hx) (Nat.le_of_ble_eq_true hn) (Nat.le_of_ble_eq_true hs) kk
theorem mi_new (C : mv_Clo P rt Rn nM sM r0 S0 V) {pc nx a b i : Nat} {v : Value} {ls : mv_L} {st : List Value} {n s : Nat} {F : Nat → mv_C} (x : Nat) (h : mv_at P pc = some (.new i, nx, a, b, v)) (hl : (mv_df a).length = x) (hn : Nat.ble (n + 1) nM = true) (hs : Nat.ble (s + x) sM = true) (kk : V nx ls (.ref n :: st) (n + 1, s + x, va_up F n (.inr (a, mv_df a)))) : V pc ls st (n, s, F) := by
  subst hl; exact mv_new C h (Nat.le_of_ble_eq_true hn) (Nat.le_of_ble_eq_true hs) kk
theorem mi_put (C : mv_Clo P rt Rn nM sM r0 S0 V) {pc nx a b i : Nat} {v x : Value} {ls : mv_L} {st : List Value} {n s q : Nat} {g : Nat → mv_C} {fs : List Value} (h : mv_at P pc = some (.putfield i, nx, a, b, v)) (hq : Nat.blt q n = true) (hb : Nat.blt b fs.length = true) (hv : mv_vok a b x = true) (kk : V nx ls st (n, s, va_up g q (.inr (a, fs.set b x)))) : V pc ls (x :: .ref q :: st) (n, s, va_up g q (.inr (a, fs))) := by
  refine mv_putfield C h (Nat.blt_eq.mp hq) hv_at (Nat.blt_eq.mp hb) hv ?_
  rw [hv_up]; exact kk
theorem mi_get (C : mv_Clo P rt Rn nM sM r0 S0 V) {pc nx a b i : Nat} {v x : Value} {ls : mv_L} {st : List Value} {n s q : Nat} {F : Nat → mv_C} (fs : List Value) (h : mv_at P pc = some (.getfield i, nx, a, b, v)) (hq : Nat.blt q n = true) (hF : F q = .inr (a, fs)) (hb : fs[b]? = some x) (kk : V nx ls (x :: st) (n, s, F)) : V pc ls (.ref q :: st) (n, s, F) := mv_getfield C h (Nat.blt_eq.mp hq) hF hb kk
theorem mi_fix {pc : Nat} {ls : mv_L} {st : List Value} {n s : Nat} {F G : Nat → mv_C} (h : F = G) (kk : V pc ls st (n, s, G)) : V pc ls st (n, s, F) := by rw [h]; exact kk
theorem mi_call (C : mv_Clo P rt Rn nM sM r0 S0 V) {pc nx a b i : Nat} {v : Value} {ls : mv_L} {rest : List Value} {n s n1 s1 q : Nat} {F G : Nat → mv_C} (h : mv_at P pc = some (.invokespecial i, nx, a, b, v)) (hb : Nat.blt b 900 = true) (hm : (mv_m b).2.2.2.2.1 = 0) (hw : Nat.ble (mv_wd rest) 8 = true) (R : Rn b [.ref q] (n, s, F) none (n1, s1, G)) (h1 : Nat.ble n1 nM = true) (h2 : Nat.ble s1 sM = true) (h3 : Nat.ble n n1 = true) (h4 : Nat.ble s s1 = true) (kk : V nx ls rest (n1, s1, G)) : V pc ls (.ref q :: rest) (n, s, F) :=
  mv_callI (as := []) C h (Nat.blt_eq.mp hb) hm (Nat.le_of_ble_eq_true hw) R (Nat.le_of_ble_eq_true h1) (Nat.le_of_ble_eq_true h2) (Nat.le_of_ble_eq_true h3) (Nat.le_of_ble_eq_true h4) kk
theorem mi_iast (C : mv_Clo P rt Rn nM sM r0 S0 V) {pc nx a b : Nat} {v : Value} {ls : mv_L} {st : List Value} {n s q r len : Nat} {g : Nat → mv_C} {O : mv_C} {f : Nat → Int32} {x y : Int32} (j : Nat) (h : mv_at P pc = some (.iastore, nx, a, b, v)) (hr : Nat.blt r n = true) (hq : Nat.beq r q = false) (hx : x = nI j) (hj : Nat.blt j len = true) (hl : Nat.ble len 65536 = true) (kk : V nx ls st (n, s, va_up (va_up g r (.inl (0, len, .inl (upd f j y)))) q O)) : V pc ls (.int y :: .int x :: .ref r :: st) (n, s, va_up (va_up g r (.inl (0, len, .inl f))) q O) := by
  subst hx
  have hne : ¬ r = q := fun e => by rw [e, Nat.beq_refl] at hq; cases hq
  have hj := Nat.blt_eq.mp hj
  have hl := Nat.le_of_ble_eq_true hl
  refine mv_iastore C h (Nat.blt_eq.mp hr) ((hv_ne hne).trans hv_at) (vp_in_nI hj (by omega)) ?_
  rw [nI_clamp (by omega)]
  dsimp only
  rw [hv_comm (k := q) (q := r) (fun e => hne e.symm), hv_up]
  exact kk
theorem mi_aast (C : mv_Clo P rt Rn nM sM r0 S0 V) {pc nx a b : Nat} {v : Value} {ls : mv_L} {st : List Value} {n s q r len y : Nat} {g : Nat → mv_C} {O : mv_C} {f : Nat → Option Nat} {x : Int32} (j : Nat) (fs : List Value) (h : mv_at P pc = some (.aastore, nx, a, b, v)) (hr : Nat.blt r n = true) (hq : Nat.beq r q = false) (hx : x = nI j) (hj : Nat.blt j len = true) (hl : Nat.ble len 65536 = true) (hy : Nat.blt y n = true) (hy2 : (va_up (va_up g r (.inl (3, len, .inr (.inr (.inr (.inr f)))))) q O) y = .inr (0, fs)) (kk : V nx ls st (n, s, va_up (va_up g r (.inl (3, len, .inr (.inr (.inr (.inr (va_up f j (some y)))))))) q O)) : V pc ls (.ref y :: .int x :: .ref r :: st) (n, s, va_up (va_up g r (.inl (3, len, .inr (.inr (.inr (.inr f)))))) q O) := by
  subst hx
  have hne : ¬ r = q := fun e => by rw [e, Nat.beq_refl] at hq; cases hq
  have hj := Nat.blt_eq.mp hj
  have hl := Nat.le_of_ble_eq_true hl
  refine mv_aastore C h (Nat.blt_eq.mp hr) ((hv_ne hne).trans hv_at) (vp_in_nI hj (by omega)) (Nat.blt_eq.mp hy) hy2 ?_
  rw [nI_clamp (by omega)]
  dsimp only
  rw [hv_comm (k := q) (q := r) (fun e => hne e.symm), hv_up]
  exact kk
end
section
/-- the numbers at the beginning -/
def hz0 : mv_Z := (fun q j => bif (Nat.beq q 23 || Nat.beq q 84) && Nat.blt j 6 then -1 else bif (Nat.beq q 3 || Nat.beq q 68) && Nat.beq j 9 then -1 else 0, fun _ _ => 0)
theorem h6v : upd (upd (upd (upd (upd (upd (fun _ => (0 : Int32)) 0 (-1)) 1 (-1)) 2 (-1)) 3 (-1)) 4 (-1)) 5 (-1) = hz0.1 23 := by
  funext j
  rcases Nat.lt_or_ge j 6 with h | h
  · rcases (show j = 0 ∨ j = 1 ∨ j = 2 ∨ j = 3 ∨ j = 4 ∨ j = 5 by omega) with rfl | rfl | rfl | rfl | rfl | rfl <;> rfl
  · have hb : Nat.blt j 6 = false := by
      cases q : Nat.blt j 6 with
      | false => rfl
      | true => have := Nat.blt_eq.mp q; omega
    have e : hz0.1 23 j = 0 := by
      show (bif (true || Nat.beq 23 84) && Nat.blt j 6 then (-1 : Int32) else bif (Nat.beq 23 3 || Nat.beq 23 68) && Nat.beq j 9 then -1 else 0) = 0
      rw [hb]; rfl
    rw [e]
    simp only [upd]
    rw [if_neg (by omega), if_neg (by omega), if_neg (by omega), if_neg (by omega), if_neg (by omega), if_neg (by omega)]
theorem h8b : va_up (va_up (va_up (va_up (va_up (va_up (va_up (va_up (fun _ => (none : Option Nat)) 0 (some 34)) 1 (some 38)) 2 (some 42)) 3 (some 46)) 4 (some 50)) 5 (some 54)) 6 (some 58)) 7 (some 62) = mv_bk := by
  funext j
  rcases Nat.lt_or_ge j 8 with h | h
  · rcases (show j = 0 ∨ j = 1 ∨ j = 2 ∨ j = 3 ∨ j = 4 ∨ j = 5 ∨ j = 6 ∨ j = 7 by omega) with rfl | rfl | rfl | rfl | rfl | rfl | rfl | rfl <;> rfl
  · unfold mv_bk
    rw [if_neg (by omega)]
    rw [hv_ne (by omega), hv_ne (by omega), hv_ne (by omega), hv_ne (by omega), hv_ne (by omega), hv_ne (by omega), hv_ne (by omega), hv_ne (by omega)]
set_option maxRecDepth 20000 in
theorem n_init_6_3 (g : Nat → mv_C) (hg : ∀ k, 4 ≤ k → k < 10 → g k = mv_H hz0 k) : mv_Runs 1 46 [.ref 3] (4, 31, va_up g 3 (.inr (6, mv_df 6))) none (10, 239, va_up g 3 (mv_H hz0 3)) := by
  refine mv_start pX6_init none [some (.ref 3)] rfl rfl rfl rfl (fun V C => ?_)
  refine mv_aload_n C rfl rfl ?_
  refine mv_obj C rfl rfl (Nat.le_of_ble_eq_true rfl) ?_
  refine mv_aload_n C rfl rfl ?_
  refine mv_bipush C rfl ?_
  refine mi_new_int C 24 rfl rfl rfl rfl rfl ?_
  refine mi_fix (hv_same ((hv_ne (by decide)).trans (hg 4 (Nat.le_of_ble_eq_true rfl) (Nat.le_of_ble_eq_true rfl)))) ?_
  refine mi_put C rfl rfl rfl rfl ?_
  refine mv_aload_n C rfl rfl ?_
  refine mv_bipush C rfl ?_
  refine mi_new_int C 24 rfl rfl rfl rfl rfl ?_
  refine mi_fix (hv_same ((hv_ne (by decide)).trans (hg 5 (Nat.le_of_ble_eq_true rfl) (Nat.le_of_ble_eq_true rfl)))) ?_
  refine mi_put C rfl rfl rfl rfl ?_
  refine mv_aload_n C rfl rfl ?_
  refine mv_bipush C rfl ?_
  refine mi_new_int C 40 rfl rfl rfl rfl rfl ?_
  refine mi_fix (hv_same ((hv_ne (by decide)).trans (hg 6 (Nat.le_of_ble_eq_true rfl) (Nat.le_of_ble_eq_true rfl)))) ?_
  refine mi_put C rfl rfl rfl rfl ?_
  refine mv_aload_n C rfl rfl ?_
  refine mv_bipush C rfl ?_
  refine mi_new_int C 40 rfl rfl rfl rfl rfl ?_
  refine mi_fix (hv_same ((hv_ne (by decide)).trans (hg 7 (Nat.le_of_ble_eq_true rfl) (Nat.le_of_ble_eq_true rfl)))) ?_
  refine mi_put C rfl rfl rfl rfl ?_
  refine mv_aload_n C rfl rfl ?_
  refine mv_bipush C rfl ?_
  refine mi_new_int C 40 rfl rfl rfl rfl rfl ?_
  refine mi_fix (hv_same ((hv_ne (by decide)).trans (hg 8 (Nat.le_of_ble_eq_true rfl) (Nat.le_of_ble_eq_true rfl)))) ?_
  refine mi_put C rfl rfl rfl rfl ?_
  refine mv_aload_n C rfl rfl ?_
  refine mv_bipush C rfl ?_
  refine mi_new_boolean C 40 rfl rfl rfl rfl rfl ?_
  refine mi_fix (hv_same ((hv_ne (by decide)).trans (hg 9 (Nat.le_of_ble_eq_true rfl) (Nat.le_of_ble_eq_true rfl)))) ?_
  refine mi_put C rfl rfl rfl rfl ?_
  refine mv_aload_n C rfl rfl ?_
  refine mv_iconst C rfl ?_
  refine mi_put C rfl rfl rfl rfl ?_
  refine mv_aload_n C rfl rfl ?_
  refine mv_iconst C rfl ?_
  refine mi_put C rfl rfl rfl rfl ?_
  refine mv_aload_n C rfl rfl ?_
  refine mv_iconst C rfl ?_
  refine mi_put C rfl rfl rfl rfl ?_
  refine mv_aload_n C rfl rfl ?_
  refine mv_iconst C rfl ?_
  refine mi_put C rfl rfl rfl rfl ?_
  refine mv_return_ C rfl rfl rfl ?_
  rfl
set_option maxRecDepth 20000 in
theorem n_init_5_10 (g : Nat → mv_C) (hg : ∀ k, 11 ≤ k → k < 15 → g k = mv_H hz0 k) : mv_Runs 1 43 [.ref 10] (11, 244, va_up g 10 (.inr (5, mv_df 5))) none (15, 404, va_up g 10 (mv_H hz0 10)) := by
  refine mv_start pX5_init none [some (.ref 10)] rfl rfl rfl rfl (fun V C => ?_)
  refine mv_aload_n C rfl rfl ?_
  refine mv_obj C rfl rfl (Nat.le_of_ble_eq_true rfl) ?_
  refine mv_aload_n C rfl rfl ?_
  refine mv_bipush C rfl ?_
  refine mi_new_int C 40 rfl rfl rfl rfl rfl ?_
  refine mi_fix (hv_same ((hv_ne (by decide)).trans (hg 11 (Nat.le_of_ble_eq_true rfl) (Nat.le_of_ble_eq_true rfl)))) ?_
  refine mi_put C rfl rfl rfl rfl ?_
  refine mv_aload_n C rfl rfl ?_
  refine mv_bipush C rfl ?_
  refine mi_new_int C 40 rfl rfl rfl rfl rfl ?_
  refine mi_fix (hv_same ((hv_ne (by decide)).trans (hg 12 (Nat.le_of_ble_eq_true rfl) (Nat.le_of_ble_eq_true rfl)))) ?_
  refine mi_put C rfl rfl rfl rfl ?_
  refine mv_aload_n C rfl rfl ?_
  refine mv_bipush C rfl ?_
  refine mi_new_int C 40 rfl rfl rfl rfl rfl ?_
  refine mi_fix (hv_same ((hv_ne (by decide)).trans (hg 13 (Nat.le_of_ble_eq_true rfl) (Nat.le_of_ble_eq_true rfl)))) ?_
  refine mi_put C rfl rfl rfl rfl ?_
  refine mv_aload_n C rfl rfl ?_
  refine mv_bipush C rfl ?_
  refine mi_new_boolean C 40 rfl rfl rfl rfl rfl ?_
  refine mi_fix (hv_same ((hv_ne (by decide)).trans (hg 14 (Nat.le_of_ble_eq_true rfl) (Nat.le_of_ble_eq_true rfl)))) ?_
  refine mi_put C rfl rfl rfl rfl ?_
  refine mv_aload_n C rfl rfl ?_
  refine mv_iconst C rfl ?_
  refine mi_put C rfl rfl rfl rfl ?_
  refine mv_return_ C rfl rfl rfl ?_
  rfl
set_option maxRecDepth 20000 in
theorem n_init_1_2 (g : Nat → mv_C) (hg : ∀ k, 3 ≤ k → k < 19 → g k = mv_H hz0 k) : mv_Runs 2 10 [.ref 2] (3, 21, va_up g 2 (.inr (1, mv_df 1))) none (19, 588, va_up g 2 (mv_H hz0 2)) := by
  refine mv_start pX1_init none [some (.ref 2)] rfl rfl rfl rfl (fun V C => ?_)
  refine mv_aload_n C rfl rfl ?_
  refine mv_obj C rfl rfl (Nat.le_of_ble_eq_true rfl) ?_
  refine mv_aload_n C rfl rfl ?_
  refine mi_new C 10 rfl rfl rfl rfl ?_
  refine mv_dup C rfl rfl ?_
  refine mi_call C rfl rfl rfl rfl (mv_up (n_init_6_3 _ (fun k h1 h2 => (hv_ne (by omega)).trans (hg k (by omega) (by omega)))) rfl) rfl rfl rfl rfl ?_
  refine mi_fix (hv_same ((hv_ne (by decide)).trans (hg 3 (Nat.le_of_ble_eq_true rfl) (Nat.le_of_ble_eq_true rfl)))) ?_
  refine mi_put C rfl rfl rfl rfl ?_
  refine mv_aload_n C rfl rfl ?_
  refine mi_new C 5 rfl rfl rfl rfl ?_
  refine mv_dup C rfl rfl ?_
  refine mi_call C rfl rfl rfl rfl (mv_up (n_init_5_10 _ (fun k h1 h2 => (hv_ne (by omega)).trans (hg k (by omega) (by omega)))) rfl) rfl rfl rfl rfl ?_
  refine mi_fix (hv_same ((hv_ne (by decide)).trans (hg 10 (Nat.le_of_ble_eq_true rfl) (Nat.le_of_ble_eq_true rfl)))) ?_
  refine mi_put C rfl rfl rfl rfl ?_
  refine mv_aload_n C rfl rfl ?_
  refine mv_bipush C rfl ?_
  refine mi_new_int C 48 rfl rfl rfl rfl rfl ?_
  refine mi_fix (hv_same ((hv_ne (by decide)).trans (hg 15 (Nat.le_of_ble_eq_true rfl) (Nat.le_of_ble_eq_true rfl)))) ?_
  refine mi_put C rfl rfl rfl rfl ?_
  refine mv_aload_n C rfl rfl ?_
  refine mv_bipush C rfl ?_
  refine mi_new_long C 40 rfl rfl rfl rfl rfl ?_
  refine mi_fix (hv_same ((hv_ne (by decide)).trans (hg 16 (Nat.le_of_ble_eq_true rfl) (Nat.le_of_ble_eq_true rfl)))) ?_
  refine mi_put C rfl rfl rfl rfl ?_
  refine mv_aload_n C rfl rfl ?_
  refine mv_bipush C rfl ?_
  refine mi_new_int C 48 rfl rfl rfl rfl rfl ?_
  refine mi_fix (hv_same ((hv_ne (by decide)).trans (hg 17 (Nat.le_of_ble_eq_true rfl) (Nat.le_of_ble_eq_true rfl)))) ?_
  refine mi_put C rfl rfl rfl rfl ?_
  refine mv_aload_n C rfl rfl ?_
  refine mv_bipush C rfl ?_
  refine mi_new_int C 48 rfl rfl rfl rfl rfl ?_
  refine mi_fix (hv_same ((hv_ne (by decide)).trans (hg 18 (Nat.le_of_ble_eq_true rfl) (Nat.le_of_ble_eq_true rfl)))) ?_
  refine mi_put C rfl rfl rfl rfl ?_
  refine mv_return_ C rfl rfl rfl ?_
  rfl
set_option maxRecDepth 20000 in
theorem n_init_7_1 (g : Nat → mv_C) (hg : ∀ k, 2 ≤ k → k < 21 → g k = mv_H hz0 k) : mv_Runs 3 57 [.ref 1] (2, 15, va_up g 1 (.inr (7, mv_df 7))) none (21, 623, va_up g 1 (mv_H hz0 1)) := by
  refine mv_start pX7_init none [some (.ref 1)] rfl rfl rfl rfl (fun V C => ?_)
  refine mv_aload_n C rfl rfl ?_
  refine mv_obj C rfl rfl (Nat.le_of_ble_eq_true rfl) ?_
  refine mv_aload_n C rfl rfl ?_
  refine mi_new C 6 rfl rfl rfl rfl ?_
  refine mv_dup C rfl rfl ?_
  refine mi_call C rfl rfl rfl rfl (mv_up (n_init_1_2 _ (fun k h1 h2 => (hv_ne (by omega)).trans (hg k (by omega) (by omega)))) rfl) rfl rfl rfl rfl ?_
  refine mi_fix (hv_same ((hv_ne (by decide)).trans (hg 2 (Nat.le_of_ble_eq_true rfl) (Nat.le_of_ble_eq_true rfl)))) ?_
  refine mi_put C rfl rfl rfl rfl ?_
  refine mv_aload_n C rfl rfl ?_
  refine mv_aload_n C rfl rfl ?_
  refine mi_get C _ rfl rfl hv_at rfl ?_
  refine mi_get C _ rfl rfl ((hv_ne (by decide)).trans (hg 2 (Nat.le_of_ble_eq_true rfl) (Nat.le_of_ble_eq_true rfl))) rfl ?_
  refine mi_put C rfl rfl rfl rfl ?_
  refine mv_aload_n C rfl rfl ?_
  refine mv_iconst C rfl ?_
  refine mi_new_int C 3 rfl rfl rfl rfl rfl ?_
  refine mi_fix (hv_same ((hv_ne (by decide)).trans (hg 19 (Nat.le_of_ble_eq_true rfl) (Nat.le_of_ble_eq_true rfl)))) ?_
  refine mi_put C rfl rfl rfl rfl ?_
  refine mv_aload_n C rfl rfl ?_
  refine mv_bipush C rfl ?_
  refine mi_new_int C 32 rfl rfl rfl rfl rfl ?_
  refine mi_fix (hv_same ((hv_ne (by decide)).trans (hg 20 (Nat.le_of_ble_eq_true rfl) (Nat.le_of_ble_eq_true rfl)))) ?_
  refine mi_put C rfl rfl rfl rfl ?_
  refine mv_aload_n C rfl rfl ?_
  refine mv_iconst C rfl ?_
  refine mi_put C rfl rfl rfl rfl ?_
  refine mv_aload_n C rfl rfl ?_
  refine mv_iconst C rfl ?_
  refine mi_put C rfl rfl rfl rfl ?_
  refine mv_aload_n C rfl rfl ?_
  refine mv_iconst C rfl ?_
  refine mi_put C rfl rfl rfl rfl ?_
  refine mv_return_ C rfl rfl rfl ?_
  rfl
set_option maxRecDepth 20000 in
theorem n_init_4_22 (g : Nat → mv_C) (hg : ∀ k, 23 ≤ k → k < 25 → g k = mv_H hz0 k) : mv_Runs 1 39 [.ref 22] (23, 629, va_up g 22 (.inr (4, mv_df 4))) none (25, 641, va_up g 22 (mv_H hz0 22)) := by
  refine mv_start pX4_init none [some (.ref 22), none] rfl rfl rfl rfl (fun V C => ?_)
  refine mv_aload_n C rfl rfl ?_
  refine mv_obj C rfl rfl (Nat.le_of_ble_eq_true rfl) ?_
  refine mv_aload_n C rfl rfl ?_
  refine mv_bipush C rfl ?_
  refine mi_new_int C 6 rfl rfl rfl rfl rfl ?_
  refine mi_fix (hv_comm (by decide)) ?_
  refine mi_put C rfl rfl rfl rfl ?_
  refine mv_aload_n C rfl rfl ?_
  refine mv_bipush C rfl ?_
  refine mi_new_int C 6 rfl rfl rfl rfl rfl ?_
  refine mi_fix (hv_same ((hv_ne (by decide)).trans ((hv_ne (by decide)).trans (hg 24 (Nat.le_of_ble_eq_true rfl) (Nat.le_of_ble_eq_true rfl))))) ?_
  refine mi_put C rfl rfl rfl rfl ?_
  refine mv_iconst C rfl ?_
  refine mv_is_n1 C rfl rfl ?_
  refine mv_iload_n C rfl rfl ?_
  refine mv_bipush C rfl ?_
  refine mv_icmp_ge C rfl (fun h => absurd h (by decide)) (fun _ => ?_)
  refine mv_aload_n C rfl rfl ?_
  refine mi_get C _ rfl rfl hv_at rfl ?_
  refine mv_iload_n C rfl rfl ?_
  refine mv_iconst C rfl ?_
  refine mi_iast C 0 rfl rfl rfl (by decide) rfl rfl ?_
  refine mv_inc1 C rfl rfl ?_
  refine mv_goto C rfl ?_
  refine mv_iload_n C rfl rfl ?_
  refine mv_bipush C rfl ?_
  refine mv_icmp_ge C rfl (fun h => absurd h (by decide)) (fun _ => ?_)
  refine mv_aload_n C rfl rfl ?_
  refine mi_get C _ rfl rfl hv_at rfl ?_
  refine mv_iload_n C rfl rfl ?_
  refine mv_iconst C rfl ?_
  refine mi_iast C 1 rfl rfl rfl (by decide) rfl rfl ?_
  refine mv_inc1 C rfl rfl ?_
  refine mv_goto C rfl ?_
  refine mv_iload_n C rfl rfl ?_
  refine mv_bipush C rfl ?_
  refine mv_icmp_ge C rfl (fun h => absurd h (by decide)) (fun _ => ?_)
  refine mv_aload_n C rfl rfl ?_
  refine mi_get C _ rfl rfl hv_at rfl ?_
  refine mv_iload_n C rfl rfl ?_
  refine mv_iconst C rfl ?_
  refine mi_iast C 2 rfl rfl rfl (by decide) rfl rfl ?_
  refine mv_inc1 C rfl rfl ?_
  refine mv_goto C rfl ?_
  refine mv_iload_n C rfl rfl ?_
  refine mv_bipush C rfl ?_
  refine mv_icmp_ge C rfl (fun h => absurd h (by decide)) (fun _ => ?_)
  refine mv_aload_n C rfl rfl ?_
  refine mi_get C _ rfl rfl hv_at rfl ?_
  refine mv_iload_n C rfl rfl ?_
  refine mv_iconst C rfl ?_
  refine mi_iast C 3 rfl rfl rfl (by decide) rfl rfl ?_
  refine mv_inc1 C rfl rfl ?_
  refine mv_goto C rfl ?_
  refine mv_iload_n C rfl rfl ?_
  refine mv_bipush C rfl ?_
  refine mv_icmp_ge C rfl (fun h => absurd h (by decide)) (fun _ => ?_)
  refine mv_aload_n C rfl rfl ?_
  refine mi_get C _ rfl rfl hv_at rfl ?_
  refine mv_iload_n C rfl rfl ?_
  refine mv_iconst C rfl ?_
  refine mi_iast C 4 rfl rfl rfl (by decide) rfl rfl ?_
  refine mv_inc1 C rfl rfl ?_
  refine mv_goto C rfl ?_
  refine mv_iload_n C rfl rfl ?_
  refine mv_bipush C rfl ?_
  refine mv_icmp_ge C rfl (fun h => absurd h (by decide)) (fun _ => ?_)
  refine mv_aload_n C rfl rfl ?_
  refine mi_get C _ rfl rfl hv_at rfl ?_
  refine mv_iload_n C rfl rfl ?_
  refine mv_iconst C rfl ?_
  refine mi_iast C 5 rfl rfl rfl (by decide) rfl rfl ?_
  refine mi_fix (congrArg (fun w => va_up w 22 _) (hv_same ((hg 23 (Nat.le_of_ble_eq_true rfl) (Nat.le_of_ble_eq_true rfl)).trans (congrArg (fun w => (.inl (0, 6, .inl w) : mv_C)) h6v.symm)))) ?_
  refine mv_inc1 C rfl rfl ?_
  refine mv_goto C rfl ?_
  refine mv_iload_n C rfl rfl ?_
  refine mv_bipush C rfl ?_
  refine mv_icmp_ge C rfl (fun _ => ?_) (fun h => absurd (by decide) h)
  refine mv_return_ C rfl rfl rfl ?_
  rfl
set_option maxRecDepth 20000 in
theorem n_init_3_21 (g : Nat → mv_C) (hg : ∀ k, 22 ≤ k → k < 27 → g k = mv_H hz0 k) : mv_Runs 2 35 [.ref 21] (22, 627, va_up g 21 (.inr (3, mv_df 3))) none (27, 701, va_up g 21 (mv_H hz0 21)) := by
  refine mv_start pX3_init none [some (.ref 21)] rfl rfl rfl rfl (fun V C => ?_)
  refine mv_aload_n C rfl rfl ?_
  refine mv_obj C rfl rfl (Nat.le_of_ble_eq_true rfl) ?_
  refine mv_aload_n C rfl rfl ?_
  refine mi_new C 2 rfl rfl rfl rfl ?_
  refine mv_dup C rfl rfl ?_
  refine mi_call C rfl rfl rfl rfl (mv_up (n_init_4_22 _ (fun k h1 h2 => (hv_ne (by omega)).trans (hg k (by omega) (by omega)))) rfl) rfl rfl rfl rfl ?_
  refine mi_fix (hv_same ((hv_ne (by decide)).trans (hg 22 (Nat.le_of_ble_eq_true rfl) (Nat.le_of_ble_eq_true rfl)))) ?_
  refine mi_put C rfl rfl rfl rfl ?_
  refine mv_aload_n C rfl rfl ?_
  refine mv_bipush C rfl ?_
  refine mi_new_int C 30 rfl rfl rfl rfl rfl ?_
  refine mi_fix (hv_same ((hv_ne (by decide)).trans (hg 25 (Nat.le_of_ble_eq_true rfl) (Nat.le_of_ble_eq_true rfl)))) ?_
  refine mi_put C rfl rfl rfl rfl ?_
  refine mv_aload_n C rfl rfl ?_
  refine mv_bipush C rfl ?_
  refine mi_new_int C 30 rfl rfl rfl rfl rfl ?_
  refine mi_fix (hv_same ((hv_ne (by decide)).trans (hg 26 (Nat.le_of_ble_eq_true rfl) (Nat.le_of_ble_eq_true rfl)))) ?_
  refine mi_put C rfl rfl rfl rfl ?_
  refine mv_aload_n C rfl rfl ?_
  refine mv_iconst C rfl ?_
  refine mi_put C rfl rfl rfl rfl ?_
  refine mv_return_ C rfl rfl rfl ?_
  rfl
set_option maxRecDepth 20000 in
theorem n_init_9_27 (g : Nat → mv_C) (hg : ∀ k, 28 ≤ k → k < 29 → g k = mv_H hz0 k) : mv_Runs 1 68 [.ref 27] (28, 703, va_up g 27 (.inr (9, mv_df 9))) none (29, 803, va_up g 27 (mv_H hz0 27)) := by
  refine mv_start pX9_init none [some (.ref 27)] rfl rfl rfl rfl (fun V C => ?_)
  refine mv_aload_n C rfl rfl ?_
  refine mv_obj C rfl rfl (Nat.le_of_ble_eq_true rfl) ?_
  refine mv_aload_n C rfl rfl ?_
  refine mv_bipush C rfl ?_
  refine mi_new_int C 100 rfl rfl rfl rfl rfl ?_
  refine mi_fix (hv_same ((hv_ne (by decide)).trans (hg 28 (Nat.le_of_ble_eq_true rfl) (Nat.le_of_ble_eq_true rfl)))) ?_
  refine mi_put C rfl rfl rfl rfl ?_
  refine mv_aload_n C rfl rfl ?_
  refine mv_iconst C rfl ?_
  refine mi_put C rfl rfl rfl rfl ?_
  refine mv_return_ C rfl rfl rfl ?_
  rfl
set_option maxRecDepth 20000 in
theorem n_init_0_34 (g : Nat → mv_C) (hg : ∀ k, 35 ≤ k → k < 38 → g k = mv_H hz0 k) : mv_Runs 1 0 [.ref 34] (35, 860, va_up g 34 (.inr (0, mv_df 0))) none (38, 890, va_up g 34 (mv_H hz0 34)) := by
  refine mv_start pX0_init none [some (.ref 34)] rfl rfl rfl rfl (fun V C => ?_)
  refine mv_aload_n C rfl rfl ?_
  refine mv_obj C rfl rfl (Nat.le_of_ble_eq_true rfl) ?_
  refine mv_aload_n C rfl rfl ?_
  refine mv_bipush C rfl ?_
  refine mi_new_int C 10 rfl rfl rfl rfl rfl ?_
  refine mi_fix (hv_same ((hv_ne (by decide)).trans (hg 35 (Nat.le_of_ble_eq_true rfl) (Nat.le_of_ble_eq_true rfl)))) ?_
  refine mi_put C rfl rfl rfl rfl ?_
  refine mv_aload_n C rfl rfl ?_
  refine mv_bipush C rfl ?_
  refine mi_new_int C 10 rfl rfl rfl rfl rfl ?_
  refine mi_fix (hv_same ((hv_ne (by decide)).trans (hg 36 (Nat.le_of_ble_eq_true rfl) (Nat.le_of_ble_eq_true rfl)))) ?_
  refine mi_put C rfl rfl rfl rfl ?_
  refine mv_aload_n C rfl rfl ?_
  refine mv_bipush C rfl ?_
  refine mi_new_int C 10 rfl rfl rfl rfl rfl ?_
  refine mi_fix (hv_same ((hv_ne (by decide)).trans (hg 37 (Nat.le_of_ble_eq_true rfl) (Nat.le_of_ble_eq_true rfl)))) ?_
  refine mi_put C rfl rfl rfl rfl ?_
  refine mv_aload_n C rfl rfl ?_
  refine mv_iconst C rfl ?_
  refine mi_put C rfl rfl rfl rfl ?_
  refine mv_aload_n C rfl rfl ?_
  refine mv_iconst C rfl ?_
  refine mi_put C rfl rfl rfl rfl ?_
  refine mv_aload_n C rfl rfl ?_
  refine mv_iconst C rfl ?_
  refine mi_put C rfl rfl rfl rfl ?_
  refine mv_aload_n C rfl rfl ?_
  refine mv_iconst C rfl ?_
  refine mi_put C rfl rfl rfl rfl ?_
  refine mv_return_ C rfl rfl rfl ?_
  rfl
set_option maxRecDepth 20000 in
theorem n_init_0_38 (g : Nat → mv_C) (hg : ∀ k, 39 ≤ k → k < 42 → g k = mv_H hz0 k) : mv_Runs 1 0 [.ref 38] (39, 897, va_up g 38 (.inr (0, mv_df 0))) none (42, 927, va_up g 38 (mv_H hz0 38)) := by
  refine mv_start pX0_init none [some (.ref 38)] rfl rfl rfl rfl (fun V C => ?_)
  refine mv_aload_n C rfl rfl ?_
  refine mv_obj C rfl rfl (Nat.le_of_ble_eq_true rfl) ?_
  refine mv_aload_n C rfl rfl ?_
  refine mv_bipush C rfl ?_
  refine mi_new_int C 10 rfl rfl rfl rfl rfl ?_
  refine mi_fix (hv_same ((hv_ne (by decide)).trans (hg 39 (Nat.le_of_ble_eq_true rfl) (Nat.le_of_ble_eq_true rfl)))) ?_
  refine mi_put C rfl rfl rfl rfl ?_
  refine mv_aload_n C rfl rfl ?_
  refine mv_bipush C rfl ?_
  refine mi_new_int C 10 rfl rfl rfl rfl rfl ?_
  refine mi_fix (hv_same ((hv_ne (by decide)).trans (hg 40 (Nat.le_of_ble_eq_true rfl) (Nat.le_of_ble_eq_true rfl)))) ?_
  refine mi_put C rfl rfl rfl rfl ?_
  refine mv_aload_n C rfl rfl ?_
  refine mv_bipush C rfl ?_
  refine mi_new_int C 10 rfl rfl rfl rfl rfl ?_
  refine mi_fix (hv_same ((hv_ne (by decide)).trans (hg 41 (Nat.le_of_ble_eq_true rfl) (Nat.le_of_ble_eq_true rfl)))) ?_
  refine mi_put C rfl rfl rfl rfl ?_
  refine mv_aload_n C rfl rfl ?_
  refine mv_iconst C rfl ?_
  refine mi_put C rfl rfl rfl rfl ?_
  refine mv_aload_n C rfl rfl ?_
  refine mv_iconst C rfl ?_
  refine mi_put C rfl rfl rfl rfl ?_
  refine mv_aload_n C rfl rfl ?_
  refine mv_iconst C rfl ?_
  refine mi_put C rfl rfl rfl rfl ?_
  refine mv_aload_n C rfl rfl ?_
  refine mv_iconst C rfl ?_
  refine mi_put C rfl rfl rfl rfl ?_
  refine mv_return_ C rfl rfl rfl ?_
  rfl
set_option maxRecDepth 20000 in
theorem n_init_0_42 (g : Nat → mv_C) (hg : ∀ k, 43 ≤ k → k < 46 → g k = mv_H hz0 k) : mv_Runs 1 0 [.ref 42] (43, 934, va_up g 42 (.inr (0, mv_df 0))) none (46, 964, va_up g 42 (mv_H hz0 42)) := by
  refine mv_start pX0_init none [some (.ref 42)] rfl rfl rfl rfl (fun V C => ?_)
  refine mv_aload_n C rfl rfl ?_
  refine mv_obj C rfl rfl (Nat.le_of_ble_eq_true rfl) ?_
  refine mv_aload_n C rfl rfl ?_
  refine mv_bipush C rfl ?_
  refine mi_new_int C 10 rfl rfl rfl rfl rfl ?_
  refine mi_fix (hv_same ((hv_ne (by decide)).trans (hg 43 (Nat.le_of_ble_eq_true rfl) (Nat.le_of_ble_eq_true rfl)))) ?_
  refine mi_put C rfl rfl rfl rfl ?_
  refine mv_aload_n C rfl rfl ?_
  refine mv_bipush C rfl ?_
  refine mi_new_int C 10 rfl rfl rfl rfl rfl ?_
  refine mi_fix (hv_same ((hv_ne (by decide)).trans (hg 44 (Nat.le_of_ble_eq_true rfl) (Nat.le_of_ble_eq_true rfl)))) ?_
  refine mi_put C rfl rfl rfl rfl ?_
  refine mv_aload_n C rfl rfl ?_
  refine mv_bipush C rfl ?_
  refine mi_new_int C 10 rfl rfl rfl rfl rfl ?_
  refine mi_fix (hv_same ((hv_ne (by decide)).trans (hg 45 (Nat.le_of_ble_eq_true rfl) (Nat.le_of_ble_eq_true rfl)))) ?_
  refine mi_put C rfl rfl rfl rfl ?_
  refine mv_aload_n C rfl rfl ?_
  refine mv_iconst C rfl ?_
  refine mi_put C rfl rfl rfl rfl ?_
  refine mv_aload_n C rfl rfl ?_
  refine mv_iconst C rfl ?_
  refine mi_put C rfl rfl rfl rfl ?_
  refine mv_aload_n C rfl rfl ?_
  refine mv_iconst C rfl ?_
  refine mi_put C rfl rfl rfl rfl ?_
  refine mv_aload_n C rfl rfl ?_
  refine mv_iconst C rfl ?_
  refine mi_put C rfl rfl rfl rfl ?_
  refine mv_return_ C rfl rfl rfl ?_
  rfl
set_option maxRecDepth 20000 in
theorem n_init_0_46 (g : Nat → mv_C) (hg : ∀ k, 47 ≤ k → k < 50 → g k = mv_H hz0 k) : mv_Runs 1 0 [.ref 46] (47, 971, va_up g 46 (.inr (0, mv_df 0))) none (50, 1001, va_up g 46 (mv_H hz0 46)) := by
  refine mv_start pX0_init none [some (.ref 46)] rfl rfl rfl rfl (fun V C => ?_)
  refine mv_aload_n C rfl rfl ?_
  refine mv_obj C rfl rfl (Nat.le_of_ble_eq_true rfl) ?_
  refine mv_aload_n C rfl rfl ?_
  refine mv_bipush C rfl ?_
  refine mi_new_int C 10 rfl rfl rfl rfl rfl ?_
  refine mi_fix (hv_same ((hv_ne (by decide)).trans (hg 47 (Nat.le_of_ble_eq_true rfl) (Nat.le_of_ble_eq_true rfl)))) ?_
  refine mi_put C rfl rfl rfl rfl ?_
  refine mv_aload_n C rfl rfl ?_
  refine mv_bipush C rfl ?_
  refine mi_new_int C 10 rfl rfl rfl rfl rfl ?_
  refine mi_fix (hv_same ((hv_ne (by decide)).trans (hg 48 (Nat.le_of_ble_eq_true rfl) (Nat.le_of_ble_eq_true rfl)))) ?_
  refine mi_put C rfl rfl rfl rfl ?_
  refine mv_aload_n C rfl rfl ?_
  refine mv_bipush C rfl ?_
  refine mi_new_int C 10 rfl rfl rfl rfl rfl ?_
  refine mi_fix (hv_same ((hv_ne (by decide)).trans (hg 49 (Nat.le_of_ble_eq_true rfl) (Nat.le_of_ble_eq_true rfl)))) ?_
  refine mi_put C rfl rfl rfl rfl ?_
  refine mv_aload_n C rfl rfl ?_
  refine mv_iconst C rfl ?_
  refine mi_put C rfl rfl rfl rfl ?_
  refine mv_aload_n C rfl rfl ?_
  refine mv_iconst C rfl ?_
  refine mi_put C rfl rfl rfl rfl ?_
  refine mv_aload_n C rfl rfl ?_
  refine mv_iconst C rfl ?_
  refine mi_put C rfl rfl rfl rfl ?_
  refine mv_aload_n C rfl rfl ?_
  refine mv_iconst C rfl ?_
  refine mi_put C rfl rfl rfl rfl ?_
  refine mv_return_ C rfl rfl rfl ?_
  rfl
set_option maxRecDepth 20000 in
theorem n_init_0_50 (g : Nat → mv_C) (hg : ∀ k, 51 ≤ k → k < 54 → g k = mv_H hz0 k) : mv_Runs 1 0 [.ref 50] (51, 1008, va_up g 50 (.inr (0, mv_df 0))) none (54, 1038, va_up g 50 (mv_H hz0 50)) := by
  refine mv_start pX0_init none [some (.ref 50)] rfl rfl rfl rfl (fun V C => ?_)
  refine mv_aload_n C rfl rfl ?_
  refine mv_obj C rfl rfl (Nat.le_of_ble_eq_true rfl) ?_
  refine mv_aload_n C rfl rfl ?_
  refine mv_bipush C rfl ?_
  refine mi_new_int C 10 rfl rfl rfl rfl rfl ?_
  refine mi_fix (hv_same ((hv_ne (by decide)).trans (hg 51 (Nat.le_of_ble_eq_true rfl) (Nat.le_of_ble_eq_true rfl)))) ?_
  refine mi_put C rfl rfl rfl rfl ?_
  refine mv_aload_n C rfl rfl ?_
  refine mv_bipush C rfl ?_
  refine mi_new_int C 10 rfl rfl rfl rfl rfl ?_
  refine mi_fix (hv_same ((hv_ne (by decide)).trans (hg 52 (Nat.le_of_ble_eq_true rfl) (Nat.le_of_ble_eq_true rfl)))) ?_
  refine mi_put C rfl rfl rfl rfl ?_
  refine mv_aload_n C rfl rfl ?_
  refine mv_bipush C rfl ?_
  refine mi_new_int C 10 rfl rfl rfl rfl rfl ?_
  refine mi_fix (hv_same ((hv_ne (by decide)).trans (hg 53 (Nat.le_of_ble_eq_true rfl) (Nat.le_of_ble_eq_true rfl)))) ?_
  refine mi_put C rfl rfl rfl rfl ?_
  refine mv_aload_n C rfl rfl ?_
  refine mv_iconst C rfl ?_
  refine mi_put C rfl rfl rfl rfl ?_
  refine mv_aload_n C rfl rfl ?_
  refine mv_iconst C rfl ?_
  refine mi_put C rfl rfl rfl rfl ?_
  refine mv_aload_n C rfl rfl ?_
  refine mv_iconst C rfl ?_
  refine mi_put C rfl rfl rfl rfl ?_
  refine mv_aload_n C rfl rfl ?_
  refine mv_iconst C rfl ?_
  refine mi_put C rfl rfl rfl rfl ?_
  refine mv_return_ C rfl rfl rfl ?_
  rfl
set_option maxRecDepth 20000 in
theorem n_init_0_54 (g : Nat → mv_C) (hg : ∀ k, 55 ≤ k → k < 58 → g k = mv_H hz0 k) : mv_Runs 1 0 [.ref 54] (55, 1045, va_up g 54 (.inr (0, mv_df 0))) none (58, 1075, va_up g 54 (mv_H hz0 54)) := by
  refine mv_start pX0_init none [some (.ref 54)] rfl rfl rfl rfl (fun V C => ?_)
  refine mv_aload_n C rfl rfl ?_
  refine mv_obj C rfl rfl (Nat.le_of_ble_eq_true rfl) ?_
  refine mv_aload_n C rfl rfl ?_
  refine mv_bipush C rfl ?_
  refine mi_new_int C 10 rfl rfl rfl rfl rfl ?_
  refine mi_fix (hv_same ((hv_ne (by decide)).trans (hg 55 (Nat.le_of_ble_eq_true rfl) (Nat.le_of_ble_eq_true rfl)))) ?_
  refine mi_put C rfl rfl rfl rfl ?_
  refine mv_aload_n C rfl rfl ?_
  refine mv_bipush C rfl ?_
  refine mi_new_int C 10 rfl rfl rfl rfl rfl ?_
  refine mi_fix (hv_same ((hv_ne (by decide)).trans (hg 56 (Nat.le_of_ble_eq_true rfl) (Nat.le_of_ble_eq_true rfl)))) ?_
  refine mi_put C rfl rfl rfl rfl ?_
  refine mv_aload_n C rfl rfl ?_
  refine mv_bipush C rfl ?_
  refine mi_new_int C 10 rfl rfl rfl rfl rfl ?_
  refine mi_fix (hv_same ((hv_ne (by decide)).trans (hg 57 (Nat.le_of_ble_eq_true rfl) (Nat.le_of_ble_eq_true rfl)))) ?_
  refine mi_put C rfl rfl rfl rfl ?_
  refine mv_aload_n C rfl rfl ?_
  refine mv_iconst C rfl ?_
  refine mi_put C rfl rfl rfl rfl ?_
  refine mv_aload_n C rfl rfl ?_
  refine mv_iconst C rfl ?_
  refine mi_put C rfl rfl rfl rfl ?_
  refine mv_aload_n C rfl rfl ?_
  refine mv_iconst C rfl ?_
  refine mi_put C rfl rfl rfl rfl ?_
  refine mv_aload_n C rfl rfl ?_
  refine mv_iconst C rfl ?_
  refine mi_put C rfl rfl rfl rfl ?_
  refine mv_return_ C rfl rfl rfl ?_
  rfl
set_option maxRecDepth 20000 in
theorem n_init_0_58 (g : Nat → mv_C) (hg : ∀ k, 59 ≤ k → k < 62 → g k = mv_H hz0 k) : mv_Runs 1 0 [.ref 58] (59, 1082, va_up g 58 (.inr (0, mv_df 0))) none (62, 1112, va_up g 58 (mv_H hz0 58)) := by
  refine mv_start pX0_init none [some (.ref 58)] rfl rfl rfl rfl (fun V C => ?_)
  refine mv_aload_n C rfl rfl ?_
  refine mv_obj C rfl rfl (Nat.le_of_ble_eq_true rfl) ?_
  refine mv_aload_n C rfl rfl ?_
  refine mv_bipush C rfl ?_
  refine mi_new_int C 10 rfl rfl rfl rfl rfl ?_
  refine mi_fix (hv_same ((hv_ne (by decide)).trans (hg 59 (Nat.le_of_ble_eq_true rfl) (Nat.le_of_ble_eq_true rfl)))) ?_
  refine mi_put C rfl rfl rfl rfl ?_
  refine mv_aload_n C rfl rfl ?_
  refine mv_bipush C rfl ?_
  refine mi_new_int C 10 rfl rfl rfl rfl rfl ?_
  refine mi_fix (hv_same ((hv_ne (by decide)).trans (hg 60 (Nat.le_of_ble_eq_true rfl) (Nat.le_of_ble_eq_true rfl)))) ?_
  refine mi_put C rfl rfl rfl rfl ?_
  refine mv_aload_n C rfl rfl ?_
  refine mv_bipush C rfl ?_
  refine mi_new_int C 10 rfl rfl rfl rfl rfl ?_
  refine mi_fix (hv_same ((hv_ne (by decide)).trans (hg 61 (Nat.le_of_ble_eq_true rfl) (Nat.le_of_ble_eq_true rfl)))) ?_
  refine mi_put C rfl rfl rfl rfl ?_
  refine mv_aload_n C rfl rfl ?_
  refine mv_iconst C rfl ?_
  refine mi_put C rfl rfl rfl rfl ?_
  refine mv_aload_n C rfl rfl ?_
  refine mv_iconst C rfl ?_
  refine mi_put C rfl rfl rfl rfl ?_
  refine mv_aload_n C rfl rfl ?_
  refine mv_iconst C rfl ?_
  refine mi_put C rfl rfl rfl rfl ?_
  refine mv_aload_n C rfl rfl ?_
  refine mv_iconst C rfl ?_
  refine mi_put C rfl rfl rfl rfl ?_
  refine mv_return_ C rfl rfl rfl ?_
  rfl
set_option maxRecDepth 20000 in
theorem n_init_0_62 (g : Nat → mv_C) (hg : ∀ k, 63 ≤ k → k < 66 → g k = mv_H hz0 k) : mv_Runs 1 0 [.ref 62] (63, 1119, va_up g 62 (.inr (0, mv_df 0))) none (66, 1149, va_up g 62 (mv_H hz0 62)) := by
  refine mv_start pX0_init none [some (.ref 62)] rfl rfl rfl rfl (fun V C => ?_)
  refine mv_aload_n C rfl rfl ?_
  refine mv_obj C rfl rfl (Nat.le_of_ble_eq_true rfl) ?_
  refine mv_aload_n C rfl rfl ?_
  refine mv_bipush C rfl ?_
  refine mi_new_int C 10 rfl rfl rfl rfl rfl ?_
  refine mi_fix (hv_same ((hv_ne (by decide)).trans (hg 63 (Nat.le_of_ble_eq_true rfl) (Nat.le_of_ble_eq_true rfl)))) ?_
  refine mi_put C rfl rfl rfl rfl ?_
  refine mv_aload_n C rfl rfl ?_
  refine mv_bipush C rfl ?_
  refine mi_new_int C 10 rfl rfl rfl rfl rfl ?_
  refine mi_fix (hv_same ((hv_ne (by decide)).trans (hg 64 (Nat.le_of_ble_eq_true rfl) (Nat.le_of_ble_eq_true rfl)))) ?_
  refine mi_put C rfl rfl rfl rfl ?_
  refine mv_aload_n C rfl rfl ?_
  refine mv_bipush C rfl ?_
  refine mi_new_int C 10 rfl rfl rfl rfl rfl ?_
  refine mi_fix (hv_same ((hv_ne (by decide)).trans (hg 65 (Nat.le_of_ble_eq_true rfl) (Nat.le_of_ble_eq_true rfl)))) ?_
  refine mi_put C rfl rfl rfl rfl ?_
  refine mv_aload_n C rfl rfl ?_
  refine mv_iconst C rfl ?_
  refine mi_put C rfl rfl rfl rfl ?_
  refine mv_aload_n C rfl rfl ?_
  refine mv_iconst C rfl ?_
  refine mi_put C rfl rfl rfl rfl ?_
  refine mv_aload_n C rfl rfl ?_
  refine mv_iconst C rfl ?_
  refine mi_put C rfl rfl rfl rfl ?_
  refine mv_aload_n C rfl rfl ?_
  refine mv_iconst C rfl ?_
  refine mi_put C rfl rfl rfl rfl ?_
  refine mv_return_ C rfl rfl rfl ?_
  rfl
set_option maxRecDepth 20000 in
theorem n_init_2_29 (g : Nat → mv_C) (hg : ∀ k, 30 ≤ k → k < 66 → g k = mv_H hz0 k) : mv_Runs 2 30 [.ref 29] (30, 809, va_up g 29 (.inr (2, mv_df 2))) none (66, 1149, va_up g 29 (mv_H hz0 29)) := by
  refine mv_start pX2_init none [some (.ref 29), none] rfl rfl rfl rfl (fun V C => ?_)
  refine mv_aload_n C rfl rfl ?_
  refine mv_obj C rfl rfl (Nat.le_of_ble_eq_true rfl) ?_
  refine mv_aload_n C rfl rfl ?_
  refine mv_bipush C rfl ?_
  refine mi_anew C 8 rfl rfl rfl rfl rfl ?_
  refine mi_fix (hv_comm (by decide)) ?_
  refine mi_put C rfl rfl rfl rfl ?_
  refine mv_aload_n C rfl rfl ?_
  refine mv_bipush C rfl ?_
  refine mi_new_int C 12 rfl rfl rfl rfl rfl ?_
  refine mi_fix (hv_same ((hv_ne (by decide)).trans ((hv_ne (by decide)).trans (hg 31 (Nat.le_of_ble_eq_true rfl) (Nat.le_of_ble_eq_true rfl))))) ?_
  refine mi_put C rfl rfl rfl rfl ?_
  refine mv_aload_n C rfl rfl ?_
  refine mv_bipush C rfl ?_
  refine mi_new_int C 12 rfl rfl rfl rfl rfl ?_
  refine mi_fix (hv_same ((hv_ne (by decide)).trans ((hv_ne (by decide)).trans (hg 32 (Nat.le_of_ble_eq_true rfl) (Nat.le_of_ble_eq_true rfl))))) ?_
  refine mi_put C rfl rfl rfl rfl ?_
  refine mv_aload_n C rfl rfl ?_
  refine mv_bipush C rfl ?_
  refine mi_new_int C 12 rfl rfl rfl rfl rfl ?_
  refine mi_fix (hv_same ((hv_ne (by decide)).trans ((hv_ne (by decide)).trans (hg 33 (Nat.le_of_ble_eq_true rfl) (Nat.le_of_ble_eq_true rfl))))) ?_
  refine mi_put C rfl rfl rfl rfl ?_
  refine mv_aload_n C rfl rfl ?_
  refine mv_iconst C rfl ?_
  refine mi_put C rfl rfl rfl rfl ?_
  refine mv_aload_n C rfl rfl ?_
  refine mv_iconst C rfl ?_
  refine mi_put C rfl rfl rfl rfl ?_
  refine mv_iconst C rfl ?_
  refine mv_is_n1 C rfl rfl ?_
  refine mv_iload_n C rfl rfl ?_
  refine mv_bipush C rfl ?_
  refine mv_icmp_ge C rfl (fun h => absurd h (by decide)) (fun _ => ?_)
  refine mv_aload_n C rfl rfl ?_
  refine mi_get C _ rfl rfl hv_at rfl ?_
  refine mv_iload_n C rfl rfl ?_
  refine mi_new C 7 rfl rfl rfl rfl ?_
  refine mv_dup C rfl rfl ?_
  refine mi_call C rfl rfl rfl rfl (mv_up (n_init_0_34 _ (fun k h1 h2 => (hv_ne (by omega)).trans ((hv_ne (by omega)).trans (hg k (by omega) (by omega))))) rfl) rfl rfl rfl rfl ?_
  refine mi_fix (hv_same ((hv_ne (by decide)).trans ((hv_ne (by decide)).trans (hg 34 (Nat.le_of_ble_eq_true rfl) (Nat.le_of_ble_eq_true rfl))))) ?_
  refine mi_aast C 0 _ rfl rfl rfl (by decide) rfl rfl rfl ((hv_ne (by decide)).trans ((hv_ne (by decide)).trans (hg 34 (Nat.le_of_ble_eq_true rfl) (Nat.le_of_ble_eq_true rfl)))) ?_
  refine mv_inc1 C rfl rfl ?_
  refine mv_goto C rfl ?_
  refine mv_iload_n C rfl rfl ?_
  refine mv_bipush C rfl ?_
  refine mv_icmp_ge C rfl (fun h => absurd h (by decide)) (fun _ => ?_)
  refine mv_aload_n C rfl rfl ?_
  refine mi_get C _ rfl rfl hv_at rfl ?_
  refine mv_iload_n C rfl rfl ?_
  refine mi_new C 7 rfl rfl rfl rfl ?_
  refine mv_dup C rfl rfl ?_
  refine mi_call C rfl rfl rfl rfl (mv_up (n_init_0_38 _ (fun k h1 h2 => (hv_ne (by omega)).trans ((hv_ne (by omega)).trans (hg k (by omega) (by omega))))) rfl) rfl rfl rfl rfl ?_
  refine mi_fix (hv_same ((hv_ne (by decide)).trans ((hv_ne (by decide)).trans (hg 38 (Nat.le_of_ble_eq_true rfl) (Nat.le_of_ble_eq_true rfl))))) ?_
  refine mi_aast C 1 _ rfl rfl rfl (by decide) rfl rfl rfl ((hv_ne (by decide)).trans ((hv_ne (by decide)).trans (hg 38 (Nat.le_of_ble_eq_true rfl) (Nat.le_of_ble_eq_true rfl)))) ?_
  refine mv_inc1 C rfl rfl ?_
  refine mv_goto C rfl ?_
  refine mv_iload_n C rfl rfl ?_
  refine mv_bipush C rfl ?_
  refine mv_icmp_ge C rfl (fun h => absurd h (by decide)) (fun _ => ?_)
  refine mv_aload_n C rfl rfl ?_
  refine mi_get C _ rfl rfl hv_at rfl ?_
  refine mv_iload_n C rfl rfl ?_
  refine mi_new C 7 rfl rfl rfl rfl ?_
  refine mv_dup C rfl rfl ?_
  refine mi_call C rfl rfl rfl rfl (mv_up (n_init_0_42 _ (fun k h1 h2 => (hv_ne (by omega)).trans ((hv_ne (by omega)).trans (hg k (by omega) (by omega))))) rfl) rfl rfl rfl rfl ?_
  refine mi_fix (hv_same ((hv_ne (by decide)).trans ((hv_ne (by decide)).trans (hg 42 (Nat.le_of_ble_eq_true rfl) (Nat.le_of_ble_eq_true rfl))))) ?_
  refine mi_aast C 2 _ rfl rfl rfl (by decide) rfl rfl rfl ((hv_ne (by decide)).trans ((hv_ne (by decide)).trans (hg 42 (Nat.le_of_ble_eq_true rfl) (Nat.le_of_ble_eq_true rfl)))) ?_
  refine mv_inc1 C rfl rfl ?_
  refine mv_goto C rfl ?_
  refine mv_iload_n C rfl rfl ?_
  refine mv_bipush C rfl ?_
  refine mv_icmp_ge C rfl (fun h => absurd h (by decide)) (fun _ => ?_)
  refine mv_aload_n C rfl rfl ?_
  refine mi_get C _ rfl rfl hv_at rfl ?_
  refine mv_iload_n C rfl rfl ?_
  refine mi_new C 7 rfl rfl rfl rfl ?_
  refine mv_dup C rfl rfl ?_
  refine mi_call C rfl rfl rfl rfl (mv_up (n_init_0_46 _ (fun k h1 h2 => (hv_ne (by omega)).trans ((hv_ne (by omega)).trans (hg k (by omega) (by omega))))) rfl) rfl rfl rfl rfl ?_
  refine mi_fix (hv_same ((hv_ne (by decide)).trans ((hv_ne (by decide)).trans (hg 46 (Nat.le_of_ble_eq_true rfl) (Nat.le_of_ble_eq_true rfl))))) ?_
  refine mi_aast C 3 _ rfl rfl rfl (by decide) rfl rfl rfl ((hv_ne (by decide)).trans ((hv_ne (by decide)).trans (hg 46 (Nat.le_of_ble_eq_true rfl) (Nat.le_of_ble_eq_true rfl)))) ?_
  refine mv_inc1 C rfl rfl ?_
  refine mv_goto C rfl ?_
  refine mv_iload_n C rfl rfl ?_
  refine mv_bipush C rfl ?_
  refine mv_icmp_ge C rfl (fun h => absurd h (by decide)) (fun _ => ?_)
  refine mv_aload_n C rfl rfl ?_
  refine mi_get C _ rfl rfl hv_at rfl ?_
  refine mv_iload_n C rfl rfl ?_
  refine mi_new C 7 rfl rfl rfl rfl ?_
  refine mv_dup C rfl rfl ?_
  refine mi_call C rfl rfl rfl rfl (mv_up (n_init_0_50 _ (fun k h1 h2 => (hv_ne (by omega)).trans ((hv_ne (by omega)).trans (hg k (by omega) (by omega))))) rfl) rfl rfl rfl rfl ?_
  refine mi_fix (hv_same ((hv_ne (by decide)).trans ((hv_ne (by decide)).trans (hg 50 (Nat.le_of_ble_eq_true rfl) (Nat.le_of_ble_eq_true rfl))))) ?_
  refine mi_aast C 4 _ rfl rfl rfl (by decide) rfl rfl rfl ((hv_ne (by decide)).trans ((hv_ne (by decide)).trans (hg 50 (Nat.le_of_ble_eq_true rfl) (Nat.le_of_ble_eq_true rfl)))) ?_
  refine mv_inc1 C rfl rfl ?_
  refine mv_goto C rfl ?_
  refine mv_iload_n C rfl rfl ?_
  refine mv_bipush C rfl ?_
  refine mv_icmp_ge C rfl (fun h => absurd h (by decide)) (fun _ => ?_)
  refine mv_aload_n C rfl rfl ?_
  refine mi_get C _ rfl rfl hv_at rfl ?_
  refine mv_iload_n C rfl rfl ?_
  refine mi_new C 7 rfl rfl rfl rfl ?_
  refine mv_dup C rfl rfl ?_
  refine mi_call C rfl rfl rfl rfl (mv_up (n_init_0_54 _ (fun k h1 h2 => (hv_ne (by omega)).trans ((hv_ne (by omega)).trans (hg k (by omega) (by omega))))) rfl) rfl rfl rfl rfl ?_
  refine mi_fix (hv_same ((hv_ne (by decide)).trans ((hv_ne (by decide)).trans (hg 54 (Nat.le_of_ble_eq_true rfl) (Nat.le_of_ble_eq_true rfl))))) ?_
  refine mi_aast C 5 _ rfl rfl rfl (by decide) rfl rfl rfl ((hv_ne (by decide)).trans ((hv_ne (by decide)).trans (hg 54 (Nat.le_of_ble_eq_true rfl) (Nat.le_of_ble_eq_true rfl)))) ?_
  refine mv_inc1 C rfl rfl ?_
  refine mv_goto C rfl ?_
  refine mv_iload_n C rfl rfl ?_
  refine mv_bipush C rfl ?_
  refine mv_icmp_ge C rfl (fun h => absurd h (by decide)) (fun _ => ?_)
  refine mv_aload_n C rfl rfl ?_
  refine mi_get C _ rfl rfl hv_at rfl ?_
  refine mv_iload_n C rfl rfl ?_
  refine mi_new C 7 rfl rfl rfl rfl ?_
  refine mv_dup C rfl rfl ?_
  refine mi_call C rfl rfl rfl rfl (mv_up (n_init_0_58 _ (fun k h1 h2 => (hv_ne (by omega)).trans ((hv_ne (by omega)).trans (hg k (by omega) (by omega))))) rfl) rfl rfl rfl rfl ?_
  refine mi_fix (hv_same ((hv_ne (by decide)).trans ((hv_ne (by decide)).trans (hg 58 (Nat.le_of_ble_eq_true rfl) (Nat.le_of_ble_eq_true rfl))))) ?_
  refine mi_aast C 6 _ rfl rfl rfl (by decide) rfl rfl rfl ((hv_ne (by decide)).trans ((hv_ne (by decide)).trans (hg 58 (Nat.le_of_ble_eq_true rfl) (Nat.le_of_ble_eq_true rfl)))) ?_
  refine mv_inc1 C rfl rfl ?_
  refine mv_goto C rfl ?_
  refine mv_iload_n C rfl rfl ?_
  refine mv_bipush C rfl ?_
  refine mv_icmp_ge C rfl (fun h => absurd h (by decide)) (fun _ => ?_)
  refine mv_aload_n C rfl rfl ?_
  refine mi_get C _ rfl rfl hv_at rfl ?_
  refine mv_iload_n C rfl rfl ?_
  refine mi_new C 7 rfl rfl rfl rfl ?_
  refine mv_dup C rfl rfl ?_
  refine mi_call C rfl rfl rfl rfl (mv_up (n_init_0_62 _ (fun k h1 h2 => (hv_ne (by omega)).trans ((hv_ne (by omega)).trans (hg k (by omega) (by omega))))) rfl) rfl rfl rfl rfl ?_
  refine mi_fix (hv_same ((hv_ne (by decide)).trans ((hv_ne (by decide)).trans (hg 62 (Nat.le_of_ble_eq_true rfl) (Nat.le_of_ble_eq_true rfl))))) ?_
  refine mi_aast C 7 _ rfl rfl rfl (by decide) rfl rfl rfl ((hv_ne (by decide)).trans ((hv_ne (by decide)).trans (hg 62 (Nat.le_of_ble_eq_true rfl) (Nat.le_of_ble_eq_true rfl)))) ?_
  refine mi_fix (congrArg (fun w => va_up w 29 _) (hv_same ((hg 30 (Nat.le_of_ble_eq_true rfl) (Nat.le_of_ble_eq_true rfl)).trans (congrArg (fun w => (.inl (3, 8, .inr (.inr (.inr (.inr w)))) : mv_C)) h8b.symm)))) ?_
  refine mv_inc1 C rfl rfl ?_
  refine mv_goto C rfl ?_
  refine mv_iload_n C rfl rfl ?_
  refine mv_bipush C rfl ?_
  refine mv_icmp_ge C rfl (fun _ => ?_) (fun h => absurd (by decide) h)
  refine mv_return_ C rfl rfl rfl ?_
  rfl
set_option maxRecDepth 20000 in
theorem n_init_8_66 (g : Nat → mv_C) (hg : ∀ k, 67 ≤ k → k < 68 → g k = mv_H hz0 k) : mv_Runs 1 65 [.ref 66] (67, 1151, va_up g 66 (.inr (8, mv_df 8))) none (68, 1199, va_up g 66 (mv_H hz0 66)) := by
  refine mv_start pX8_init none [some (.ref 66)] rfl rfl rfl rfl (fun V C => ?_)
  refine mv_aload_n C rfl rfl ?_
  refine mv_obj C rfl rfl (Nat.le_of_ble_eq_true rfl) ?_
  refine mv_aload_n C rfl rfl ?_
  refine mv_bipush C rfl ?_
  refine mi_new_int C 48 rfl rfl rfl rfl rfl ?_
  refine mi_fix (hv_same ((hv_ne (by decide)).trans (hg 67 (Nat.le_of_ble_eq_true rfl) (Nat.le_of_ble_eq_true rfl)))) ?_
  refine mi_put C rfl rfl rfl rfl ?_
  refine mv_aload_n C rfl rfl ?_
  refine mv_iconst C rfl ?_
  refine mi_put C rfl rfl rfl rfl ?_
  refine mv_return_ C rfl rfl rfl ?_
  rfl
set_option maxRecDepth 20000 in
theorem n_init_10_0 (g : Nat → mv_C) (hg : ∀ k, 1 ≤ k → k < 68 → g k = mv_H hz0 k) : mv_Runs 4 71 [.ref 0] (1, 8, va_up g 0 (.inr (10, mv_df 10))) none (68, 1199, va_up g 0 (mv_H hz0 0)) := by
  refine mv_start pX10_init none [some (.ref 0)] rfl rfl rfl rfl (fun V C => ?_)
  refine mv_aload_n C rfl rfl ?_
  refine mv_obj C rfl rfl (Nat.le_of_ble_eq_true rfl) ?_
  refine mv_aload_n C rfl rfl ?_
  refine mi_new C 7 rfl rfl rfl rfl ?_
  refine mv_dup C rfl rfl ?_
  refine mi_call C rfl rfl rfl rfl (mv_up (n_init_7_1 _ (fun k h1 h2 => (hv_ne (by omega)).trans (hg k (by omega) (by omega)))) rfl) rfl rfl rfl rfl ?_
  refine mi_fix (hv_same ((hv_ne (by decide)).trans (hg 1 (Nat.le_of_ble_eq_true rfl) (Nat.le_of_ble_eq_true rfl)))) ?_
  refine mi_put C rfl rfl rfl rfl ?_
  refine mv_aload_n C rfl rfl ?_
  refine mv_aload_n C rfl rfl ?_
  refine mi_get C _ rfl rfl hv_at rfl ?_
  refine mi_get C _ rfl rfl ((hv_ne (by decide)).trans (hg 1 (Nat.le_of_ble_eq_true rfl) (Nat.le_of_ble_eq_true rfl))) rfl ?_
  refine mi_put C rfl rfl rfl rfl ?_
  refine mv_aload_n C rfl rfl ?_
  refine mv_aload_n C rfl rfl ?_
  refine mi_get C _ rfl rfl hv_at rfl ?_
  refine mi_get C _ rfl rfl ((hv_ne (by decide)).trans (hg 2 (Nat.le_of_ble_eq_true rfl) (Nat.le_of_ble_eq_true rfl))) rfl ?_
  refine mi_put C rfl rfl rfl rfl ?_
  refine mv_aload_n C rfl rfl ?_
  refine mv_aload_n C rfl rfl ?_
  refine mi_get C _ rfl rfl hv_at rfl ?_
  refine mi_get C _ rfl rfl ((hv_ne (by decide)).trans (hg 2 (Nat.le_of_ble_eq_true rfl) (Nat.le_of_ble_eq_true rfl))) rfl ?_
  refine mi_put C rfl rfl rfl rfl ?_
  refine mv_aload_n C rfl rfl ?_
  refine mi_new C 4 rfl rfl rfl rfl ?_
  refine mv_dup C rfl rfl ?_
  refine mi_call C rfl rfl rfl rfl (mv_up (n_init_3_21 _ (fun k h1 h2 => (hv_ne (by omega)).trans (hg k (by omega) (by omega)))) rfl) rfl rfl rfl rfl ?_
  refine mi_fix (hv_same ((hv_ne (by decide)).trans (hg 21 (Nat.le_of_ble_eq_true rfl) (Nat.le_of_ble_eq_true rfl)))) ?_
  refine mi_put C rfl rfl rfl rfl ?_
  refine mv_aload_n C rfl rfl ?_
  refine mi_new C 2 rfl rfl rfl rfl ?_
  refine mv_dup C rfl rfl ?_
  refine mi_call C rfl rfl rfl rfl (mv_up (n_init_9_27 _ (fun k h1 h2 => (hv_ne (by omega)).trans (hg k (by omega) (by omega)))) rfl) rfl rfl rfl rfl ?_
  refine mi_fix (hv_same ((hv_ne (by decide)).trans (hg 27 (Nat.le_of_ble_eq_true rfl) (Nat.le_of_ble_eq_true rfl)))) ?_
  refine mi_put C rfl rfl rfl rfl ?_
  refine mv_aload_n C rfl rfl ?_
  refine mi_new C 6 rfl rfl rfl rfl ?_
  refine mv_dup C rfl rfl ?_
  refine mi_call C rfl rfl rfl rfl (mv_up (n_init_2_29 _ (fun k h1 h2 => (hv_ne (by omega)).trans (hg k (by omega) (by omega)))) rfl) rfl rfl rfl rfl ?_
  refine mi_fix (hv_same ((hv_ne (by decide)).trans (hg 29 (Nat.le_of_ble_eq_true rfl) (Nat.le_of_ble_eq_true rfl)))) ?_
  refine mi_put C rfl rfl rfl rfl ?_
  refine mv_aload_n C rfl rfl ?_
  refine mi_new C 2 rfl rfl rfl rfl ?_
  refine mv_dup C rfl rfl ?_
  refine mi_call C rfl rfl rfl rfl (mv_up (n_init_8_66 _ (fun k h1 h2 => (hv_ne (by omega)).trans (hg k (by omega) (by omega)))) rfl) rfl rfl rfl rfl ?_
  refine mi_fix (hv_same ((hv_ne (by decide)).trans (hg 66 (Nat.le_of_ble_eq_true rfl) (Nat.le_of_ble_eq_true rfl)))) ?_
  refine mi_put C rfl rfl rfl rfl ?_
  refine mv_return_ C rfl rfl rfl ?_
  rfl
set_option maxRecDepth 20000 in
theorem n_init_11_68 (g : Nat → mv_C) (hg : ∀ k, 69 ≤ k → k < 96 → g k = mv_H hz0 k) : mv_Runs 1 111 [.ref 68] (69, 1238, va_up g 68 (.inr (11, mv_df 11))) none (96, 4666, va_up g 68 (mv_H hz0 68)) := by
  refine mv_start pX11_init none [some (.ref 68)] rfl rfl rfl rfl (fun V C => ?_)
  refine mv_aload_n C rfl rfl ?_
  refine mv_obj C rfl rfl (Nat.le_of_ble_eq_true rfl) ?_
  refine mv_aload_n C rfl rfl ?_
  refine mv_bipush C rfl ?_
  refine mi_new_int C 24 rfl rfl rfl rfl rfl ?_
  refine mi_fix (hv_same ((hv_ne (by decide)).trans (hg 69 (Nat.le_of_ble_eq_true rfl) (Nat.le_of_ble_eq_true rfl)))) ?_
  refine mi_put C rfl rfl rfl rfl ?_
  refine mv_aload_n C rfl rfl ?_
  refine mv_bipush C rfl ?_
  refine mi_new_boolean C 24 rfl rfl rfl rfl rfl ?_
  refine mi_fix (hv_same ((hv_ne (by decide)).trans (hg 70 (Nat.le_of_ble_eq_true rfl) (Nat.le_of_ble_eq_true rfl)))) ?_
  refine mi_put C rfl rfl rfl rfl ?_
  refine mv_aload_n C rfl rfl ?_
  refine mv_bipush C rfl ?_
  refine mi_new_int C 40 rfl rfl rfl rfl rfl ?_
  refine mi_fix (hv_same ((hv_ne (by decide)).trans (hg 71 (Nat.le_of_ble_eq_true rfl) (Nat.le_of_ble_eq_true rfl)))) ?_
  refine mi_put C rfl rfl rfl rfl ?_
  refine mv_aload_n C rfl rfl ?_
  refine mv_bipush C rfl ?_
  refine mi_new_int C 40 rfl rfl rfl rfl rfl ?_
  refine mi_fix (hv_same ((hv_ne (by decide)).trans (hg 72 (Nat.le_of_ble_eq_true rfl) (Nat.le_of_ble_eq_true rfl)))) ?_
  refine mi_put C rfl rfl rfl rfl ?_
  refine mv_aload_n C rfl rfl ?_
  refine mv_bipush C rfl ?_
  refine mi_new_int C 40 rfl rfl rfl rfl rfl ?_
  refine mi_fix (hv_same ((hv_ne (by decide)).trans (hg 73 (Nat.le_of_ble_eq_true rfl) (Nat.le_of_ble_eq_true rfl)))) ?_
  refine mi_put C rfl rfl rfl rfl ?_
  refine mv_aload_n C rfl rfl ?_
  refine mv_bipush C rfl ?_
  refine mi_new_boolean C 40 rfl rfl rfl rfl rfl ?_
  refine mi_fix (hv_same ((hv_ne (by decide)).trans (hg 74 (Nat.le_of_ble_eq_true rfl) (Nat.le_of_ble_eq_true rfl)))) ?_
  refine mi_put C rfl rfl rfl rfl ?_
  refine mv_aload_n C rfl rfl ?_
  refine mv_iconst C rfl ?_
  refine mi_put C rfl rfl rfl rfl ?_
  refine mv_aload_n C rfl rfl ?_
  refine mv_bipush C rfl ?_
  refine mi_new_int C 24 rfl rfl rfl rfl rfl ?_
  refine mi_fix (hv_same ((hv_ne (by decide)).trans (hg 75 (Nat.le_of_ble_eq_true rfl) (Nat.le_of_ble_eq_true rfl)))) ?_
  refine mi_put C rfl rfl rfl rfl ?_
  refine mv_aload_n C rfl rfl ?_
  refine mv_bipush C rfl ?_
  refine mi_new_int C 40 rfl rfl rfl rfl rfl ?_
  refine mi_fix (hv_same ((hv_ne (by decide)).trans (hg 76 (Nat.le_of_ble_eq_true rfl) (Nat.le_of_ble_eq_true rfl)))) ?_
  refine mi_put C rfl rfl rfl rfl ?_
  refine mv_aload_n C rfl rfl ?_
  refine mv_bipush C rfl ?_
  refine mi_new_int C 40 rfl rfl rfl rfl rfl ?_
  refine mi_fix (hv_same ((hv_ne (by decide)).trans (hg 77 (Nat.le_of_ble_eq_true rfl) (Nat.le_of_ble_eq_true rfl)))) ?_
  refine mi_put C rfl rfl rfl rfl ?_
  refine mv_aload_n C rfl rfl ?_
  refine mv_bipush C rfl ?_
  refine mi_new_int C 40 rfl rfl rfl rfl rfl ?_
  refine mi_fix (hv_same ((hv_ne (by decide)).trans (hg 78 (Nat.le_of_ble_eq_true rfl) (Nat.le_of_ble_eq_true rfl)))) ?_
  refine mi_put C rfl rfl rfl rfl ?_
  refine mv_aload_n C rfl rfl ?_
  refine mv_bipush C rfl ?_
  refine mi_new_boolean C 40 rfl rfl rfl rfl rfl ?_
  refine mi_fix (hv_same ((hv_ne (by decide)).trans (hg 79 (Nat.le_of_ble_eq_true rfl) (Nat.le_of_ble_eq_true rfl)))) ?_
  refine mi_put C rfl rfl rfl rfl ?_
  refine mv_aload_n C rfl rfl ?_
  refine mv_sipush C rfl ?_
  refine mi_new_boolean C 1152 rfl rfl rfl rfl rfl ?_
  refine mi_fix (hv_same ((hv_ne (by decide)).trans (hg 80 (Nat.le_of_ble_eq_true rfl) (Nat.le_of_ble_eq_true rfl)))) ?_
  refine mi_put C rfl rfl rfl rfl ?_
  refine mv_aload_n C rfl rfl ?_
  refine mv_sipush C rfl ?_
  refine mi_new_boolean C 1152 rfl rfl rfl rfl rfl ?_
  refine mi_fix (hv_same ((hv_ne (by decide)).trans (hg 81 (Nat.le_of_ble_eq_true rfl) (Nat.le_of_ble_eq_true rfl)))) ?_
  refine mi_put C rfl rfl rfl rfl ?_
  refine mv_aload_n C rfl rfl ?_
  refine mv_bipush C rfl ?_
  refine mi_new_int C 49 rfl rfl rfl rfl rfl ?_
  refine mi_fix (hv_same ((hv_ne (by decide)).trans (hg 82 (Nat.le_of_ble_eq_true rfl) (Nat.le_of_ble_eq_true rfl)))) ?_
  refine mi_put C rfl rfl rfl rfl ?_
  refine mv_aload_n C rfl rfl ?_
  refine mv_bipush C rfl ?_
  refine mi_new_int C 49 rfl rfl rfl rfl rfl ?_
  refine mi_fix (hv_same ((hv_ne (by decide)).trans (hg 83 (Nat.le_of_ble_eq_true rfl) (Nat.le_of_ble_eq_true rfl)))) ?_
  refine mi_put C rfl rfl rfl rfl ?_
  refine mv_aload_n C rfl rfl ?_
  refine mv_bipush C rfl ?_
  refine mi_new_int C 6 rfl rfl rfl rfl rfl ?_
  refine mi_fix (hv_comm (by decide)) ?_
  refine mv_dup C rfl rfl ?_
  refine mv_iconst C rfl ?_
  refine mv_iconst C rfl ?_
  refine mi_iast C 0 rfl rfl rfl (by decide) rfl rfl ?_
  refine mv_dup C rfl rfl ?_
  refine mv_iconst C rfl ?_
  refine mv_iconst C rfl ?_
  refine mi_iast C 1 rfl rfl rfl (by decide) rfl rfl ?_
  refine mv_dup C rfl rfl ?_
  refine mv_iconst C rfl ?_
  refine mv_iconst C rfl ?_
  refine mi_iast C 2 rfl rfl rfl (by decide) rfl rfl ?_
  refine mv_dup C rfl rfl ?_
  refine mv_iconst C rfl ?_
  refine mv_iconst C rfl ?_
  refine mi_iast C 3 rfl rfl rfl (by decide) rfl rfl ?_
  refine mv_dup C rfl rfl ?_
  refine mv_iconst C rfl ?_
  refine mv_iconst C rfl ?_
  refine mi_iast C 4 rfl rfl rfl (by decide) rfl rfl ?_
  refine mv_dup C rfl rfl ?_
  refine mv_iconst C rfl ?_
  refine mv_iconst C rfl ?_
  refine mi_iast C 5 rfl rfl rfl (by decide) rfl rfl ?_
  refine mi_fix (congrArg (fun w => va_up w 68 _) (hv_same ((hg 84 (Nat.le_of_ble_eq_true rfl) (Nat.le_of_ble_eq_true rfl)).trans (congrArg (fun w => (.inl (0, 6, .inl w) : mv_C)) h6v.symm)))) ?_
  refine mi_put C rfl rfl rfl rfl ?_
  refine mv_aload_n C rfl rfl ?_
  refine mv_bipush C rfl ?_
  refine mi_new_int C 6 rfl rfl rfl rfl rfl ?_
  refine mi_fix (hv_same ((hv_ne (by decide)).trans (hg 85 (Nat.le_of_ble_eq_true rfl) (Nat.le_of_ble_eq_true rfl)))) ?_
  refine mi_put C rfl rfl rfl rfl ?_
  refine mv_aload_n C rfl rfl ?_
  refine mv_bipush C rfl ?_
  refine mi_new_int C 30 rfl rfl rfl rfl rfl ?_
  refine mi_fix (hv_same ((hv_ne (by decide)).trans (hg 86 (Nat.le_of_ble_eq_true rfl) (Nat.le_of_ble_eq_true rfl)))) ?_
  refine mi_put C rfl rfl rfl rfl ?_
  refine mv_aload_n C rfl rfl ?_
  refine mv_sipush C rfl ?_
  refine mi_new_int C 180 rfl rfl rfl rfl rfl ?_
  refine mi_fix (hv_same ((hv_ne (by decide)).trans (hg 87 (Nat.le_of_ble_eq_true rfl) (Nat.le_of_ble_eq_true rfl)))) ?_
  refine mi_put C rfl rfl rfl rfl ?_
  refine mv_aload_n C rfl rfl ?_
  refine mv_bipush C rfl ?_
  refine mi_new_int C 100 rfl rfl rfl rfl rfl ?_
  refine mi_fix (hv_same ((hv_ne (by decide)).trans (hg 88 (Nat.le_of_ble_eq_true rfl) (Nat.le_of_ble_eq_true rfl)))) ?_
  refine mi_put C rfl rfl rfl rfl ?_
  refine mv_aload_n C rfl rfl ?_
  refine mv_bipush C rfl ?_
  refine mi_new_int C 9 rfl rfl rfl rfl rfl ?_
  refine mi_fix (hv_same ((hv_ne (by decide)).trans (hg 89 (Nat.le_of_ble_eq_true rfl) (Nat.le_of_ble_eq_true rfl)))) ?_
  refine mi_put C rfl rfl rfl rfl ?_
  refine mv_aload_n C rfl rfl ?_
  refine mv_bipush C rfl ?_
  refine mi_new_int C 90 rfl rfl rfl rfl rfl ?_
  refine mi_fix (hv_same ((hv_ne (by decide)).trans (hg 90 (Nat.le_of_ble_eq_true rfl) (Nat.le_of_ble_eq_true rfl)))) ?_
  refine mi_put C rfl rfl rfl rfl ?_
  refine mv_aload_n C rfl rfl ?_
  refine mv_bipush C rfl ?_
  refine mi_new_int C 90 rfl rfl rfl rfl rfl ?_
  refine mi_fix (hv_same ((hv_ne (by decide)).trans (hg 91 (Nat.le_of_ble_eq_true rfl) (Nat.le_of_ble_eq_true rfl)))) ?_
  refine mi_put C rfl rfl rfl rfl ?_
  refine mv_aload_n C rfl rfl ?_
  refine mv_bipush C rfl ?_
  refine mi_new_int C 90 rfl rfl rfl rfl rfl ?_
  refine mi_fix (hv_same ((hv_ne (by decide)).trans (hg 92 (Nat.le_of_ble_eq_true rfl) (Nat.le_of_ble_eq_true rfl)))) ?_
  refine mi_put C rfl rfl rfl rfl ?_
  refine mv_aload_n C rfl rfl ?_
  refine mv_bipush C rfl ?_
  refine mi_new_int C 9 rfl rfl rfl rfl rfl ?_
  refine mi_fix (hv_same ((hv_ne (by decide)).trans (hg 93 (Nat.le_of_ble_eq_true rfl) (Nat.le_of_ble_eq_true rfl)))) ?_
  refine mi_put C rfl rfl rfl rfl ?_
  refine mv_aload_n C rfl rfl ?_
  refine mv_bipush C rfl ?_
  refine mi_new_int C 12 rfl rfl rfl rfl rfl ?_
  refine mi_fix (hv_same ((hv_ne (by decide)).trans (hg 94 (Nat.le_of_ble_eq_true rfl) (Nat.le_of_ble_eq_true rfl)))) ?_
  refine mi_put C rfl rfl rfl rfl ?_
  refine mv_aload_n C rfl rfl ?_
  refine mv_bipush C rfl ?_
  refine mi_new_int C 12 rfl rfl rfl rfl rfl ?_
  refine mi_fix (hv_same ((hv_ne (by decide)).trans (hg 95 (Nat.le_of_ble_eq_true rfl) (Nat.le_of_ble_eq_true rfl)))) ?_
  refine mi_put C rfl rfl rfl rfl ?_
  refine mv_return_ C rfl rfl rfl ?_
  rfl
end
