abbrev mv_Y : Type := (Nat × Nat) ⊕ (Nat × List (Option Nat))
def mv_lay : List mv_Y := [.inr (10, [some 1, some 2, some 3, some 10, some 21, some 27, some 29, some 66]),
  .inr (7, [some 2, some 3, some 19, some 20, none, none, none]),
  .inr (1, [some 3, some 10, some 15, some 16, some 17, some 18]),
  .inr (6, [some 4, some 5, some 6, some 7, some 8, some 9, none, none, none, none]),
  .inl (0, 24),
  .inl (0, 24),
  .inl (0, 40),
  .inl (0, 40),
  .inl (0, 40),
  .inl (1, 40),
  .inr (5, [some 11, some 12, some 13, some 14, none]),
  .inl (0, 40),
  .inl (0, 40),
  .inl (0, 40),
  .inl (1, 40),
  .inl (0, 48),
  .inl (2, 40),
  .inl (0, 48),
  .inl (0, 48),
  .inl (0, 3),
  .inl (0, 32),
  .inr (3, [some 22, some 25, some 26, none]),
  .inr (4, [some 23, some 24]),
  .inl (0, 6),
  .inl (0, 6),
  .inl (0, 30),
  .inl (0, 30),
  .inr (9, [some 28, none]),
  .inl (0, 100),
  .inr (2, [some 30, some 31, some 32, some 33, none, none]),
  .inl (3, 8),
  .inl (0, 12),
  .inl (0, 12),
  .inl (0, 12),
  .inr (0, [some 35, some 36, some 37, none, none, none, none]),
  .inl (0, 10),
  .inl (0, 10),
  .inl (0, 10),
  .inr (0, [some 39, some 40, some 41, none, none, none, none]),
  .inl (0, 10),
  .inl (0, 10),
  .inl (0, 10),
  .inr (0, [some 43, some 44, some 45, none, none, none, none]),
  .inl (0, 10),
  .inl (0, 10),
  .inl (0, 10),
  .inr (0, [some 47, some 48, some 49, none, none, none, none]),
  .inl (0, 10),
  .inl (0, 10),
  .inl (0, 10),
  .inr (0, [some 51, some 52, some 53, none, none, none, none]),
  .inl (0, 10),
  .inl (0, 10),
  .inl (0, 10),
  .inr (0, [some 55, some 56, some 57, none, none, none, none]),
  .inl (0, 10),
  .inl (0, 10),
  .inl (0, 10),
  .inr (0, [some 59, some 60, some 61, none, none, none, none]),
  .inl (0, 10),
  .inl (0, 10),
  .inl (0, 10),
  .inr (0, [some 63, some 64, some 65, none, none, none, none]),
  .inl (0, 10),
  .inl (0, 10),
  .inl (0, 10),
  .inr (8, [some 67, none]),
  .inl (0, 48),
  .inr (11, [none, none, some 69, some 70, none, some 71, some 72, some 73, some 74, none, some 75, none, some 76, some 77, some 78, some 79, some 80, some 81, none, some 82, some 83, some 84, some 85, none, some 86, some 87, some 88, none, none, some 89, some 90, some 91, some 92, some 93, none, none, none, some 94, some 95]),
  .inl (0, 24),
  .inl (1, 24),
  .inl (0, 40),
  .inl (0, 40),
  .inl (0, 40),
  .inl (1, 40),
  .inl (0, 24),
  .inl (0, 40),
  .inl (0, 40),
  .inl (0, 40),
  .inl (1, 40),
  .inl (1, 1152),
  .inl (1, 1152),
  .inl (0, 49),
  .inl (0, 49),
  .inl (0, 6),
  .inl (0, 6),
  .inl (0, 30),
  .inl (0, 180),
  .inl (0, 100),
  .inl (0, 9),
  .inl (0, 90),
  .inl (0, 90),
  .inl (0, 90),
  .inl (0, 9),
  .inl (0, 12),
  .inl (0, 12),
  .inl (2, 1)]
/-- the numbers of the state: of each cell its ints (an object's by slot, an array's by place), and the longs -/
abbrev mv_Z : Type := (Nat → Nat → Int32) × (Nat → Nat → Int64)
def mv_fld (z : mv_Z) (k : Nat) : Nat → List (Option Nat) → List Value
  | _, [] => []
  | j, some t :: r => .ref t :: mv_fld z k (j + 1) r
  | j, none :: r => .int (z.1 k j) :: mv_fld z k (j + 1) r
def mv_bk : Nat → Option Nat := fun i => if i < 8 then some (34 + 4 * i) else none
def mv_cel (z : mv_Z) (k : Nat) : mv_Y → mv_C
  | .inl (kd, n) => .inl (kd, n, bif Nat.beq kd 2 then .inr (.inl (z.2 k)) else bif Nat.beq kd 3 then .inr (.inr (.inr (.inr mv_bk))) else .inl (z.1 k))
  | .inr (ci, fs) => .inr (ci, mv_fld z k 0 fs)
def mv_H (z : mv_Z) (k : Nat) : mv_C := mv_cel z k (mv_lay.getD k (.inl (0, 0)))
/-- the whole state -/
def mv_E (z : mv_Z) : mv_S := (97, 4667, mv_H z)
def mv_u (z : mv_Z) (k j : Nat) (x : Int32) : mv_Z := (va_up z.1 k (upd (z.1 k) j x), z.2)
def mv_uL (z : mv_Z) (k j : Nat) (x : Int64) : mv_Z := (z.1, va_up z.2 k (vp_updL (z.2 k) j x))

theorem mv_lay_n : mv_lay.length = 97 := rfl
theorem mv_lay_lt {q : Nat} {y : mv_Y} (h : mv_lay[q]? = some y) : q < 97 := by
  have := (List.getElem?_eq_some_iff.mp h).1
  rw [mv_lay_n] at this; exact this
theorem mv_H_at {z : mv_Z} {q : Nat} {y : mv_Y} (h : mv_lay[q]? = some y) : mv_H z q = mv_cel z q y := by
  unfold mv_H; rw [List.getD_eq_getElem?_getD, h]; rfl
theorem mv_lay_len : ∀ (q kd n : Nat), mv_lay[q]? = some (Sum.inl (kd, n)) → n < 2 ^ 31 := by
  have h : mv_lay.all (fun y => match y with | .inl (_, n) => decide (n < 2 ^ 31) | .inr _ => true) = true := by decide +kernel
  intro q kd n hq
  have := List.all_eq_true.mp h _ (List.mem_of_getElem? hq)
  simpa using this
theorem mv_fld_len (z : mv_Z) (k : Nat) : ∀ (fs : List (Option Nat)) (j : Nat), (mv_fld z k j fs).length = fs.length
  | [], _ => rfl
  | some t :: r, j => by simp [mv_fld, mv_fld_len z k r (j + 1)]
  | none :: r, j => by simp [mv_fld, mv_fld_len z k r (j + 1)]
theorem mv_fld_at (z : mv_Z) (k : Nat) : ∀ (fs : List (Option Nat)) (j i : Nat) (o : Option Nat), fs[i]? = some o → (mv_fld z k j fs)[i]? = some (match o with | some t => .ref t | none => .int (z.1 k (j + i)))
  | [], _, i, o, h => by simp at h
  | some t :: r, j, 0, o, h => by simp at h; subst h; simp [mv_fld]
  | none :: r, j, 0, o, h => by simp at h; subst h; simp [mv_fld]
  | some t :: r, j, i + 1, o, h => by
      have := mv_fld_at z k r (j + 1) i o (by simpa using h)
      simp only [mv_fld, List.getElem?_cons_succ, this]
      cases o <;> simp [Nat.add_assoc, Nat.add_comm 1 i]
  | none :: r, j, i + 1, o, h => by
      have := mv_fld_at z k r (j + 1) i o (by simpa using h)
      simp only [mv_fld, List.getElem?_cons_succ, this]
      cases o <;> simp [Nat.add_assoc, Nat.add_comm 1 i]
theorem mv_fld_set (z : mv_Z) (k b : Nat) (x : Int32) : ∀ (fs : List (Option Nat)) (j i : Nat), fs[i]? = some none → j + i = b → (mv_fld z k j fs).set i (.int x) = mv_fld (mv_u z k b x) k j fs
  | [], _, i, h, _ => by simp at h
  | some t :: r, j, 0, h, _ => by simp at h
  | none :: r, j, 0, _, hb => by
      simp only [Nat.add_zero] at hb; subst hb
      simp only [mv_fld, List.set_cons_zero]
      congr 1
      · simp [mv_u, va_up, upd]
      · exact mv_fld_out z k x r (j + 1) j (by omega)
  | some t :: r, j, i + 1, h, hb => by
      simp only [mv_fld, List.set_cons_succ]
      rw [mv_fld_set z k b x r (j + 1) i (by simpa using h) (by omega)]
  | none :: r, j, i + 1, h, hb => by
      simp only [mv_fld, List.set_cons_succ]
      rw [mv_fld_set z k b x r (j + 1) i (by simpa using h) (by omega)]
      congr 2
      have : j ≠ b := by omega
      simp [mv_u, va_up, upd, this]
where
  mv_fld_out (z : mv_Z) (k : Nat) (x : Int32) : ∀ (fs : List (Option Nat)) (j b : Nat), b < j → mv_fld z k j fs = mv_fld (mv_u z k b x) k j fs
    | [], _, _, _ => rfl
    | some t :: r, j, b, h => by simp only [mv_fld]; rw [mv_fld_out z k x r (j + 1) b (by omega)]
    | none :: r, j, b, h => by
        simp only [mv_fld]; rw [← mv_fld_out z k x r (j + 1) b (by omega)]
        congr 2
        have : j ≠ b := by omega
        simp [mv_u, va_up, upd, this]
theorem mv_fld_other (z z1 : mv_Z) (k : Nat) (h : ∀ j, z.1 k j = z1.1 k j) : ∀ (fs : List (Option Nat)) (j : Nat), mv_fld z k j fs = mv_fld z1 k j fs
  | [], _ => rfl
  | some t :: r, j => by simp only [mv_fld]; rw [mv_fld_other z z1 k h r (j + 1)]
  | none :: r, j => by simp only [mv_fld]; rw [mv_fld_other z z1 k h r (j + 1), h j]
theorem mv_cel_other {z z1 : mv_Z} {k : Nat} (h : z.1 k = z1.1 k) (h2 : z.2 k = z1.2 k) (y : mv_Y) : mv_cel z k y = mv_cel z1 k y := by
  match y with
  | .inl (kd, n) => simp only [mv_cel]; rw [h, h2]
  | .inr (ci, fs) => simp only [mv_cel]; rw [mv_fld_other z z1 k (fun j => by rw [h]) fs 0]
theorem mv_H_set {z z1 : mv_Z} {q : Nat} {c : mv_C} (hq : mv_H z1 q = c) (ho : ∀ k, k ≠ q → z.1 k = z1.1 k ∧ z.2 k = z1.2 k) : va_up (mv_H z) q c = mv_H z1 := by
  funext k
  by_cases hk : k = q
  · subst hk; simp [va_up, hq]
  · simp only [va_up, hk, if_false]
    unfold mv_H
    exact mv_cel_other (ho k hk).1 (ho k hk).2 _
theorem mv_u_put {z : mv_Z} {q a b : Nat} {fs : List (Option Nat)} {x : Int32} (hk : mv_lay[q]? = some (.inr (a, fs))) (hf : fs[b]? = some none) : va_up (mv_H z) q (.inr (a, (mv_fld z q 0 fs).set b (.int x))) = mv_H (mv_u z q b x) := by
  refine mv_H_set ?_ (fun k hk => by simp [mv_u, va_up, hk])
  rw [mv_H_at hk]
  simp only [mv_cel]
  rw [mv_fld_set z q b x fs 0 b hf (by omega)]
theorem mv_u_ast {z : mv_Z} {q kd n j : Nat} {x : Int32} (hk : mv_lay[q]? = some (.inl (kd, n))) (h2 : Nat.beq kd 2 = false) (h3 : Nat.beq kd 3 = false) : va_up (mv_H z) q (.inl (kd, n, .inl (upd (z.1 q) j x))) = mv_H (mv_u z q j x) := by
  refine mv_H_set ?_ (fun k hk => by simp [mv_u, va_up, hk])
  rw [mv_H_at hk]
  simp only [mv_cel, h2, h3, cond_false]
  simp [mv_u, va_up]
theorem mv_u_last {z : mv_Z} {q n j : Nat} {x : Int64} (hk : mv_lay[q]? = some (.inl (2, n))) : va_up (mv_H z) q (.inl (2, n, .inr (.inl (vp_updL (z.2 q) j x)))) = mv_H (mv_uL z q j x) := by
  refine mv_H_set ?_ (fun k hk => by simp [mv_uL, va_up, hk])
  rw [mv_H_at hk]
  simp [mv_cel, mv_uL, va_up]
section
variable {P : List (Nat × mv_I)} {rt : Option FieldType} {Rn : Nat → List Value → mv_S → Option Value → mv_S → Prop} {nM sM : Nat} {r0 : Option Value} {S0 : mv_S} {V : Nat → mv_L → List Value → mv_S → Prop}
theorem mv_getI (C : mv_Clo P rt Rn nM sM r0 S0 V) {pc nx a b n q : Nat} {v : Value} {ls : mv_L} {st : List Value} {z : mv_Z} {fs : List (Option Nat)} (h : mv_at P pc = some (.getfield n, nx, a, b, v)) (hk : mv_lay[q]? = some (.inr (a, fs))) (hf : fs[b]? = some none) (kk : V nx ls (.int (z.1 q b) :: st) (mv_E z)) : V pc ls (.ref q :: st) (mv_E z) := by
  refine mv_getfield C h (mv_lay_lt hk) (mv_H_at hk) (x := .int (z.1 q b)) ?_ kk
  have := mv_fld_at z q fs 0 b none hf
  simpa using this
theorem mv_getR (C : mv_Clo P rt Rn nM sM r0 S0 V) {pc nx a b n q t : Nat} {v : Value} {ls : mv_L} {st : List Value} {z : mv_Z} {fs : List (Option Nat)} (h : mv_at P pc = some (.getfield n, nx, a, b, v)) (hk : mv_lay[q]? = some (.inr (a, fs))) (hf : fs[b]? = some (some t)) (kk : V nx ls (.ref t :: st) (mv_E z)) : V pc ls (.ref q :: st) (mv_E z) := by
  refine mv_getfield C h (mv_lay_lt hk) (mv_H_at hk) (x := .ref t) ?_ kk
  have := mv_fld_at z q fs 0 b (some t) hf
  simpa using this
theorem mv_putI (C : mv_Clo P rt Rn nM sM r0 S0 V) {pc nx a b n q : Nat} {v : Value} {ls : mv_L} {st : List Value} {z : mv_Z} {fs : List (Option Nat)} {x : Int32} (h : mv_at P pc = some (.putfield n, nx, a, b, v)) (hk : mv_lay[q]? = some (.inr (a, fs))) (hf : fs[b]? = some none) (hv : (mv_ft.getD a []).getD b false = true) (kk : V nx ls st (mv_E (mv_u z q b x))) : V pc ls (.int x :: .ref q :: st) (mv_E z) := by
  refine mv_putfield C h (mv_lay_lt hk) (mv_H_at hk) (by rw [mv_fld_len]; exact (List.getElem?_eq_some_iff.mp hf).1) hv ?_
  have e : va_up (mv_E z).2.2 q (.inr (a, (mv_fld z q 0 fs).set b (.int x))) = mv_H (mv_u z q b x) := mv_u_put hk hf
  rw [e]
  exact kk
theorem mv_ald (C : mv_Clo P rt Rn nM sM r0 S0 V) {pc nx a b q len j : Nat} {v : Value} {ls : mv_L} {st : List Value} {z : mv_Z} {x : Int32} (h : mv_at P pc = some (.iaload, nx, a, b, v)) (hk : mv_lay[q]? = some (.inl (0, len))) (hx : x = nI j) (hj : j < len) (kk : V nx ls (.int (z.1 q j) :: st) (mv_E z)) : V pc ls (.int x :: .ref q :: st) (mv_E z) := by
  subst hx
  have hl := mv_lay_len _ _ _ hk
  refine mv_iaload C h (mv_lay_lt hk) (mv_H_at hk) (vp_in_nI hj hl) ?_
  rw [nI_clamp (by omega)]; exact kk
theorem mv_zld (C : mv_Clo P rt Rn nM sM r0 S0 V) {pc nx a b q len j : Nat} {v : Value} {ls : mv_L} {st : List Value} {z : mv_Z} {x : Int32} (h : mv_at P pc = some (.baload, nx, a, b, v)) (hk : mv_lay[q]? = some (.inl (1, len))) (hx : x = nI j) (hj : j < len) (kk : V nx ls (.int (z.1 q j) :: st) (mv_E z)) : V pc ls (.int x :: .ref q :: st) (mv_E z) := by
  subst hx
  have hl := mv_lay_len _ _ _ hk
  refine mv_baload C h (mv_lay_lt hk) (mv_H_at hk) (vp_in_nI hj hl) ?_
  rw [nI_clamp (by omega)]; exact kk
theorem mv_lld (C : mv_Clo P rt Rn nM sM r0 S0 V) {pc nx a b q len j : Nat} {v : Value} {ls : mv_L} {st : List Value} {z : mv_Z} {x : Int32} (h : mv_at P pc = some (.laload, nx, a, b, v)) (hk : mv_lay[q]? = some (.inl (2, len))) (hx : x = nI j) (hj : j < len) (kk : V nx ls (.long (z.2 q j) :: st) (mv_E z)) : V pc ls (.int x :: .ref q :: st) (mv_E z) := by
  subst hx
  have hl := mv_lay_len _ _ _ hk
  refine mv_laload C h (mv_lay_lt hk) (mv_H_at hk) (vp_in_nI hj hl) ?_
  rw [nI_clamp (by omega)]; exact kk
theorem mv_rld (C : mv_Clo P rt Rn nM sM r0 S0 V) {pc nx a b j : Nat} {v : Value} {ls : mv_L} {st : List Value} {z : mv_Z} {x : Int32} (h : mv_at P pc = some (.aaload, nx, a, b, v)) (hx : x = nI j) (hj : j < 8) (kk : V nx ls (.ref (34 + 4 * j) :: st) (mv_E z)) : V pc ls (.int x :: .ref 30 :: st) (mv_E z) := by
  subst hx
  have hk : mv_lay[30]? = some (.inl (3, 8)) := rfl
  refine mv_aaload C h (mv_lay_lt hk) (mv_H_at hk) (vp_in_nI hj (by omega)) ?_ kk
  rw [nI_clamp (by omega)]; simp [mv_bk, hj]
theorem mv_ast (C : mv_Clo P rt Rn nM sM r0 S0 V) {pc nx a b q len j : Nat} {v : Value} {ls : mv_L} {st : List Value} {z : mv_Z} {x y : Int32} (h : mv_at P pc = some (.iastore, nx, a, b, v)) (hk : mv_lay[q]? = some (.inl (0, len))) (hx : x = nI j) (hj : j < len) (kk : V nx ls st (mv_E (mv_u z q j y))) : V pc ls (.int y :: .int x :: .ref q :: st) (mv_E z) := by
  subst hx
  have hl := mv_lay_len _ _ _ hk
  refine mv_iastore C h (mv_lay_lt hk) (mv_H_at hk) (vp_in_nI hj hl) ?_
  rw [nI_clamp (by omega)]
  have e : va_up (mv_E z).2.2 q (.inl (0, len, .inl (upd (z.1 q) j y))) = mv_H (mv_u z q j y) := mv_u_ast hk rfl rfl
  rw [e]; exact kk
theorem mv_zst (C : mv_Clo P rt Rn nM sM r0 S0 V) {pc nx a b q len j : Nat} {v : Value} {ls : mv_L} {st : List Value} {z : mv_Z} {x y : Int32} (h : mv_at P pc = some (.bastore, nx, a, b, v)) (hk : mv_lay[q]? = some (.inl (1, len))) (hx : x = nI j) (hj : j < len) (hy : y = 0 ∨ y = 1) (kk : V nx ls st (mv_E (mv_u z q j y))) : V pc ls (.int y :: .int x :: .ref q :: st) (mv_E z) := by
  subst hx
  have hl := mv_lay_len _ _ _ hk
  refine mv_bastore C h (mv_lay_lt hk) (mv_H_at hk) (vp_in_nI hj hl) hy ?_
  rw [nI_clamp (by omega)]
  have e : va_up (mv_E z).2.2 q (.inl (1, len, .inl (upd (z.1 q) j y))) = mv_H (mv_u z q j y) := mv_u_ast hk rfl rfl
  rw [e]; exact kk
theorem mv_lst (C : mv_Clo P rt Rn nM sM r0 S0 V) {pc nx a b q len j : Nat} {v : Value} {ls : mv_L} {st : List Value} {z : mv_Z} {x : Int32} {y : Int64} (h : mv_at P pc = some (.lastore, nx, a, b, v)) (hk : mv_lay[q]? = some (.inl (2, len))) (hx : x = nI j) (hj : j < len) (kk : V nx ls st (mv_E (mv_uL z q j y))) : V pc ls (.long y :: .int x :: .ref q :: st) (mv_E z) := by
  subst hx
  have hl := mv_lay_len _ _ _ hk
  refine mv_lastore C h (mv_lay_lt hk) (mv_H_at hk) (vp_in_nI hj hl) ?_
  rw [nI_clamp (by omega)]
  have e : va_up (mv_E z).2.2 q (.inl (2, len, .inr (.inl (vp_updL (z.2 q) j y)))) = mv_H (mv_uL z q j y) := mv_u_last hk
  rw [e]; exact kk
/-- a call within the state -/
theorem mv_cV (C : mv_Clo P rt Rn nM sM r0 S0 V) {pc nx a b n q ci : Nat} {v : Value} {ls : mv_L} {z z1 : mv_Z} {fs : List (Option Nat)} {as rest : List Value} {st : List Value} {r1 : Option Value} (h : mv_at P pc = some (.invokevirtual n, nx, a, b, v)) (hr : Rn b (.ref q :: as) (mv_E z) r1 (mv_E z1)) (hb : b < 900) (hn : (mv_m b).2.2.2.2.1 = as.length) (hc : (mv_m b).2.2.2.2.2.1 = ci) (hk : mv_lay[q]? = some (.inr (ci, fs))) (hw : mv_wd rest ≤ 8) (hM : 97 ≤ nM) (hM2 : (mv_E z1).2.1 ≤ sM) (hs : as.reverse ++ .ref q :: rest = st) (kk : V nx ls (r1.toList ++ rest) (mv_E z1)) : V pc ls st (mv_E z) := by
  subst hs
  exact mv_callV C h hb hn hc (mv_lay_lt hk) (mv_H_at hk) hw hr hM hM2 (Nat.le_refl _) (Nat.le_refl _) kk
theorem mv_cS (C : mv_Clo P rt Rn nM sM r0 S0 V) {pc nx a b n : Nat} {v : Value} {ls : mv_L} {z z1 : mv_Z} {as rest : List Value} {st : List Value} {r1 : Option Value} (h : mv_at P pc = some (.invokestatic n, nx, a, b, v)) (hr : Rn b as (mv_E z) r1 (mv_E z1)) (hb : b < 900) (hn : (mv_m b).2.2.2.2.1 = as.length) (hw : mv_wd rest ≤ 8) (hM : 97 ≤ nM) (hM2 : (mv_E z1).2.1 ≤ sM) (hs : as.reverse ++ rest = st) (kk : V nx ls (r1.toList ++ rest) (mv_E z1)) : V pc ls st (mv_E z) := by
  subst hs
  exact mv_callS C h hb hn hw hr hM hM2 (Nat.le_refl _) (Nat.le_refl _) kk
end

