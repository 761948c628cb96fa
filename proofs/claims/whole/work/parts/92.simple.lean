def mv_tys (cK : Nat → Nat) : List (ClassId × FieldType) := [(cK 0, .int), (cK 1, .boolean), (cK 2, .long), (cK 3, .object "HueAndCry$Act")]
/-- the nest mates' words -/
def mv_isN : Cond → Bool
  | .fieldLinkNest _ _ _ _ _ _ => true
  | .methodLinkNest _ _ _ _ => true
  | _ => false
def mv_NB : List Cond := lw_tbl.filter mv_isN
def mv_len : List Nat := (mv_strs.drop 1).map List.length
/-- the texts: the cells 1001 .. of five constants -/
def mv_T (ad adV : Nat → Nat) (A : Nat → Prop) (U : State) (H : Heap) : Prop := vk_S 5 mv_len (mv_strs.drop 1) (fun j => ad (1001 + j)) adV A U H ∧ (∀ j, j < 5 → vk_R "HueAndCryModel" (mv_tk (j + 1)) (mv_tx (j + 1)) (ad (1001 + j)) U) ∧ va_Z "java/lang/String" "COMPACT_STRINGS" "Z" (.int 1) A U H
/-- what holds throughout a method's body -/
def mv_Cx (p : Program) (R : Room) (s : State) (m : MethodId) (args : Array Value) (meth : Method) (c : Code) (D : va_G) (ad adV cK : Nat → Nat) (A : Nat → Prop) (own : Nat) (ini : Bool) (cc : ByteArray) (P : List (Nat × mv_I)) (nL n0 n1 s0 kx ks nM sM d : Nat) : Prop :=
  p.tables.exec = Jvm.exec ∧ c.code = cc ∧ c.maxLocals = nL ∧ s.vm.findClass (mv_own own) = some m.cls ∧ (∀ w ∈ mv_TB, w.before args s = true) ∧ (∀ w ∈ mv_NB, va_Nw w s) ∧ va_K D vwCl (mv_tys cK) s ∧ (∀ q, s.heap.size ≤ q → A q) ∧ mv_ok own ini cc P = true ∧ (∀ k, n1 ≤ k → k < nM → kx = 0 ∧ ad k + n0 = s.heap.size + k) ∧ (ini = true → meth.name = "<init>") ∧ mv_T ad adV A s s.heap ∧ nM - n0 + kx ≤ R.cells ∧ sM - s0 + ks ≤ R.slots ∧ d + 5 ≤ R.frames ∧ 60 * d + 300 ≤ R.locals ∧ n0 ≤ n1 ∧ va_AO "HueAndCry$Act" s
/-- the machine stands at a place of the abstract one and comes to Q -/
def mv_V (p : Program) (l : Launch) (e : Env) (R : Room) (s : State) (m : MethodId) (args : Array Value) (below : List Frame) (meth : Method) (c : Code) (Q : State → Prop) (D : va_G) (ad cK : Nat → Nat) (A : Nat → Prop) (nL n0 n1 s0 kx ks nM sM : Nat) (pc : Nat) (ls : mv_L) (st : List Value) (S : mv_S) : Prop :=
  ∀ (H : Heap) (locs : List Loc) (la : Array Slot), va_P D vwCl (mv_ws ad cK S) H → va_D A (mv_ws ad cK S) → va_S A s.heap H locs → (kx = 0 → H.size + n0 = s.heap.size + S.1) → n1 ≤ S.1 → s0 ≤ S.2.1 → S.1 ≤ nM → S.2.1 ≤ sM → mv_has ad la nL ls → W p l e R s m args below meth c H locs (S.1 - n0 + kx) (S.2.1 - s0 + ks) Q (F0 m pc la (st.map (mv_cv ad)))
theorem mv_TB_of {i : Nat} {w : Cond} (h : lw_tbl[i]? = some w) (hg : goodWord w = true) : w ∈ mv_TB := List.mem_filter.mpr ⟨List.mem_of_getElem? h, hg⟩
theorem mv_NB_of {i : Nat} {w : Cond} (h : lw_tbl[i]? = some w) (hg : mv_isN w = true) : w ∈ mv_NB := List.mem_filter.mpr ⟨List.mem_of_getElem? h, hg⟩
section MVS
variable {p : Program} {l : Launch} {e : Env} {R : Room} {s : State} {m : MethodId} {args : Array Value} {below : List Frame} {meth : Method} {c : Code} {Q : State → Prop} {D : va_G} {ad adV cK : Nat → Nat} {A : Nat → Prop} {own : Nat} {ini : Bool} {cc : ByteArray} {P : List (Nat × mv_I)} {nL n0 n1 s0 kx ks nM sM d : Nat} {rt : Option FieldType} {Rn : Nat → List Value → mv_S → Option Value → mv_S → Prop} {r0 : Option Value} {S0 : mv_S}
theorem mv_s_iload_n (X : mv_Cx p R s m args meth c D ad adV cK A own ini cc P nL n0 n1 s0 kx ks nM sM d) : mv_R_iload_n P rt Rn nM sM r0 S0 (mv_V p l e R s m args below meth c Q D ad cK A nL n0 n1 s0 kx ks nM sM) := by
  obtain ⟨hx, hb, hml, hown, hts, hN, hK, hA, hok, had, hin, hT, hRc, hRs, hRf, hRl, hnn, hAO⟩ := X
  intro pc nx a b v ls st S k x h g0 kk H locs la hP hD hS hz hn hs hM hM2 hl
  obtain ⟨hd, rfl⟩ := mv_dec hok h 1 rfl rfl
  exact lv_iload_n hx hb hd rfl (hl.2.2.2 _ _ g0) (kk H locs la hP hD hS hz hn hs hM hM2 hl)
theorem mv_s_iload (X : mv_Cx p R s m args meth c D ad adV cK A own ini cc P nL n0 n1 s0 kx ks nM sM d) : mv_R_iload P rt Rn nM sM r0 S0 (mv_V p l e R s m args below meth c Q D ad cK A nL n0 n1 s0 kx ks nM sM) := by
  obtain ⟨hx, hb, hml, hown, hts, hN, hK, hA, hok, had, hin, hT, hRc, hRs, hRf, hRl, hnn, hAO⟩ := X
  intro pc nx a b v ls st S k x h g0 kk H locs la hP hD hS hz hn hs hM hM2 hl
  obtain ⟨hd, rfl⟩ := mv_dec hok h 2 rfl rfl
  exact lv_iload hx hb hd (hl.2.2.2 _ _ g0) (kk H locs la hP hD hS hz hn hs hM hM2 hl)
theorem mv_s_aload_n (X : mv_Cx p R s m args meth c D ad adV cK A own ini cc P nL n0 n1 s0 kx ks nM sM d) : mv_R_aload_n P rt Rn nM sM r0 S0 (mv_V p l e R s m args below meth c Q D ad cK A nL n0 n1 s0 kx ks nM sM) := by
  obtain ⟨hx, hb, hml, hown, hts, hN, hK, hA, hok, had, hin, hT, hRc, hRs, hRf, hRl, hnn, hAO⟩ := X
  intro pc nx a b v ls st S k x h g0 kk H locs la hP hD hS hz hn hs hM hM2 hl
  obtain ⟨hd, rfl⟩ := mv_dec hok h 1 rfl rfl
  exact lv_aload_n hx hb hd rfl (hl.2.2.2 _ _ g0) (kk H locs la hP hD hS hz hn hs hM hM2 hl)
theorem mv_s_aload (X : mv_Cx p R s m args meth c D ad adV cK A own ini cc P nL n0 n1 s0 kx ks nM sM d) : mv_R_aload P rt Rn nM sM r0 S0 (mv_V p l e R s m args below meth c Q D ad cK A nL n0 n1 s0 kx ks nM sM) := by
  obtain ⟨hx, hb, hml, hown, hts, hN, hK, hA, hok, had, hin, hT, hRc, hRs, hRf, hRl, hnn, hAO⟩ := X
  intro pc nx a b v ls st S k x h g0 kk H locs la hP hD hS hz hn hs hM hM2 hl
  obtain ⟨hd, rfl⟩ := mv_dec hok h 2 rfl rfl
  exact lv_aload hx hb hd (hl.2.2.2 _ _ g0) (kk H locs la hP hD hS hz hn hs hM hM2 hl)
theorem mv_s_lload_n (X : mv_Cx p R s m args meth c D ad adV cK A own ini cc P nL n0 n1 s0 kx ks nM sM d) : mv_R_lload_n P rt Rn nM sM r0 S0 (mv_V p l e R s m args below meth c Q D ad cK A nL n0 n1 s0 kx ks nM sM) := by
  obtain ⟨hx, hb, hml, hown, hts, hN, hK, hA, hok, had, hin, hT, hRc, hRs, hRf, hRl, hnn, hAO⟩ := X
  intro pc nx a b v ls st S k x h g0 kk H locs la hP hD hS hz hn hs hM hM2 hl
  obtain ⟨hd, rfl⟩ := mv_dec hok h 1 rfl rfl
  exact lv_lload_n hx hb hd rfl (hl.2.2.2 _ _ g0) (kk H locs la hP hD hS hz hn hs hM hM2 hl)
theorem mv_s_lload (X : mv_Cx p R s m args meth c D ad adV cK A own ini cc P nL n0 n1 s0 kx ks nM sM d) : mv_R_lload P rt Rn nM sM r0 S0 (mv_V p l e R s m args below meth c Q D ad cK A nL n0 n1 s0 kx ks nM sM) := by
  obtain ⟨hx, hb, hml, hown, hts, hN, hK, hA, hok, had, hin, hT, hRc, hRs, hRf, hRl, hnn, hAO⟩ := X
  intro pc nx a b v ls st S k x h g0 kk H locs la hP hD hS hz hn hs hM hM2 hl
  obtain ⟨hd, rfl⟩ := mv_dec hok h 2 rfl rfl
  exact lv_lload hx hb hd (hl.2.2.2 _ _ g0) (kk H locs la hP hD hS hz hn hs hM hM2 hl)
theorem mv_s_istore_n (X : mv_Cx p R s m args meth c D ad adV cK A own ini cc P nL n0 n1 s0 kx ks nM sM d) : mv_R_istore_n P rt Rn nM sM r0 S0 (mv_V p l e R s m args below meth c Q D ad cK A nL n0 n1 s0 kx ks nM sM) := by
  obtain ⟨hx, hb, hml, hown, hts, hN, hK, hA, hok, had, hin, hT, hRc, hRs, hRf, hRl, hnn, hAO⟩ := X
  intro pc nx a b v ls st S k x h g0 kk H locs la hP hD hS hz hn hs hM hM2 hl
  obtain ⟨hd, rfl⟩ := mv_dec hok h 1 rfl rfl
  exact lv_istore_n hx hb hd rfl hl.lv (by rw [← hl.2.2.1]; exact mv_pre_lt g0) rfl (fun la1 hl1 => kk H locs la1 hP hD hS hz hn hs hM hM2 (mv_has_st1 (x := .int x) hl g0 hl1))
theorem mv_s_istore (X : mv_Cx p R s m args meth c D ad adV cK A own ini cc P nL n0 n1 s0 kx ks nM sM d) : mv_R_istore P rt Rn nM sM r0 S0 (mv_V p l e R s m args below meth c Q D ad cK A nL n0 n1 s0 kx ks nM sM) := by
  obtain ⟨hx, hb, hml, hown, hts, hN, hK, hA, hok, had, hin, hT, hRc, hRs, hRf, hRl, hnn, hAO⟩ := X
  intro pc nx a b v ls st S k x h g0 kk H locs la hP hD hS hz hn hs hM hM2 hl
  obtain ⟨hd, rfl⟩ := mv_dec hok h 2 rfl rfl
  exact lv_istore hx hb hd hl.lv (by rw [← hl.2.2.1]; exact mv_pre_lt g0) rfl (fun la1 hl1 => kk H locs la1 hP hD hS hz hn hs hM hM2 (mv_has_st1 (x := .int x) hl g0 hl1))
theorem mv_s_astore_n (X : mv_Cx p R s m args meth c D ad adV cK A own ini cc P nL n0 n1 s0 kx ks nM sM d) : mv_R_astore_n P rt Rn nM sM r0 S0 (mv_V p l e R s m args below meth c Q D ad cK A nL n0 n1 s0 kx ks nM sM) := by
  obtain ⟨hx, hb, hml, hown, hts, hN, hK, hA, hok, had, hin, hT, hRc, hRs, hRf, hRl, hnn, hAO⟩ := X
  intro pc nx a b v ls st S k x h g0 kk H locs la hP hD hS hz hn hs hM hM2 hl
  obtain ⟨hd, rfl⟩ := mv_dec hok h 1 rfl rfl
  exact lv_astore_n hx hb hd rfl hl.lv (by rw [← hl.2.2.1]; exact mv_pre_lt g0) rfl (fun la1 hl1 => kk H locs la1 hP hD hS hz hn hs hM hM2 (mv_has_st1 (x := .ref x) hl g0 hl1))
theorem mv_s_astore (X : mv_Cx p R s m args meth c D ad adV cK A own ini cc P nL n0 n1 s0 kx ks nM sM d) : mv_R_astore P rt Rn nM sM r0 S0 (mv_V p l e R s m args below meth c Q D ad cK A nL n0 n1 s0 kx ks nM sM) := by
  obtain ⟨hx, hb, hml, hown, hts, hN, hK, hA, hok, had, hin, hT, hRc, hRs, hRf, hRl, hnn, hAO⟩ := X
  intro pc nx a b v ls st S k x h g0 kk H locs la hP hD hS hz hn hs hM hM2 hl
  obtain ⟨hd, rfl⟩ := mv_dec hok h 2 rfl rfl
  exact lv_astore hx hb hd hl.lv (by rw [← hl.2.2.1]; exact mv_pre_lt g0) rfl (fun la1 hl1 => kk H locs la1 hP hD hS hz hn hs hM hM2 (mv_has_st1 (x := .ref x) hl g0 hl1))
theorem mv_s_lstore_n (X : mv_Cx p R s m args meth c D ad adV cK A own ini cc P nL n0 n1 s0 kx ks nM sM d) : mv_R_lstore_n P rt Rn nM sM r0 S0 (mv_V p l e R s m args below meth c Q D ad cK A nL n0 n1 s0 kx ks nM sM) := by
  obtain ⟨hx, hb, hml, hown, hts, hN, hK, hA, hok, had, hin, hT, hRc, hRs, hRf, hRl, hnn, hAO⟩ := X
  intro pc nx a b v ls st S k x h g0 g1 kk H locs la hP hD hS hz hn hs hM hM2 hl
  obtain ⟨hd, rfl⟩ := mv_dec hok h 1 rfl rfl
  exact lv_lstore_n hx hb hd rfl hl.lv (by rw [← hl.2.2.1]; exact g1) rfl (fun la1 hl1 => kk H locs la1 hP hD hS hz hn hs hM hM2 (mv_has_st2 (x := .long x) hl g0 hl1))
theorem mv_s_lstore (X : mv_Cx p R s m args meth c D ad adV cK A own ini cc P nL n0 n1 s0 kx ks nM sM d) : mv_R_lstore P rt Rn nM sM r0 S0 (mv_V p l e R s m args below meth c Q D ad cK A nL n0 n1 s0 kx ks nM sM) := by
  obtain ⟨hx, hb, hml, hown, hts, hN, hK, hA, hok, had, hin, hT, hRc, hRs, hRf, hRl, hnn, hAO⟩ := X
  intro pc nx a b v ls st S k x h g0 g1 kk H locs la hP hD hS hz hn hs hM hM2 hl
  obtain ⟨hd, rfl⟩ := mv_dec hok h 2 rfl rfl
  exact lv_lstore hx hb hd hl.lv (by rw [← hl.2.2.1]; exact g1) rfl (fun la1 hl1 => kk H locs la1 hP hD hS hz hn hs hM hM2 (mv_has_st2 (x := .long x) hl g0 hl1))
theorem mv_s_iinc (X : mv_Cx p R s m args meth c D ad adV cK A own ini cc P nL n0 n1 s0 kx ks nM sM d) : mv_R_iinc P rt Rn nM sM r0 S0 (mv_V p l e R s m args below meth c Q D ad cK A nL n0 n1 s0 kx ks nM sM) := by
  obtain ⟨hx, hb, hml, hown, hts, hN, hK, hA, hok, had, hin, hT, hRc, hRs, hRf, hRl, hnn, hAO⟩ := X
  intro pc nx a b ls st S k n x y h g0 g1 kk H locs la hP hD hS hz hn hs hM hM2 hl
  obtain ⟨hd, rfl⟩ := mv_dec hok h 3 rfl rfl
  have hc := mv_ckd hok h
  simp only [mv_ck2, decide_eq_true_eq, Value.int.injEq] at hc
  obtain ⟨i1, hi1⟩ := List.getElem?_of_mem (mv_lv_mem (ad := ad) g0)
  exact lv_iinc hx hb hd hl.lv hi1 (by rw [hc]) (by rw [← hl.2.2.1]; exact mv_pre_lt g1) rfl (fun la1 hl1 => kk H locs la1 hP hD hS hz hn hs hM hM2 (mv_has_st1 (x := .int (x + y)) hl g1 hl1))
theorem mv_s_iconst (X : mv_Cx p R s m args meth c D ad adV cK A own ini cc P nL n0 n1 s0 kx ks nM sM d) : mv_R_iconst P rt Rn nM sM r0 S0 (mv_V p l e R s m args below meth c Q D ad cK A nL n0 n1 s0 kx ks nM sM) := by
  obtain ⟨hx, hb, hml, hown, hts, hN, hK, hA, hok, had, hin, hT, hRc, hRs, hRf, hRl, hnn, hAO⟩ := X
  intro pc nx a b v ls st S n h kk H locs la hP hD hS hz hn hs hM hM2 hl
  obtain ⟨hd, rfl⟩ := mv_dec hok h 1 rfl rfl
  have hc := mv_ckd hok h
  simp only [mv_ck2, decide_eq_true_eq] at hc
  subst hc
  exact lv_iconst hx hb hd rfl (kk H locs la hP hD hS hz hn hs hM hM2 hl)
theorem mv_s_bipush (X : mv_Cx p R s m args meth c D ad adV cK A own ini cc P nL n0 n1 s0 kx ks nM sM d) : mv_R_bipush P rt Rn nM sM r0 S0 (mv_V p l e R s m args below meth c Q D ad cK A nL n0 n1 s0 kx ks nM sM) := by
  obtain ⟨hx, hb, hml, hown, hts, hN, hK, hA, hok, had, hin, hT, hRc, hRs, hRf, hRl, hnn, hAO⟩ := X
  intro pc nx a b v ls st S n h kk H locs la hP hD hS hz hn hs hM hM2 hl
  obtain ⟨hd, rfl⟩ := mv_dec hok h 2 rfl rfl
  have hc := mv_ckd hok h
  simp only [mv_ck2, decide_eq_true_eq] at hc
  subst hc
  exact lv_bipush hx hb hd rfl (kk H locs la hP hD hS hz hn hs hM hM2 hl)
theorem mv_s_sipush (X : mv_Cx p R s m args meth c D ad adV cK A own ini cc P nL n0 n1 s0 kx ks nM sM d) : mv_R_sipush P rt Rn nM sM r0 S0 (mv_V p l e R s m args below meth c Q D ad cK A nL n0 n1 s0 kx ks nM sM) := by
  obtain ⟨hx, hb, hml, hown, hts, hN, hK, hA, hok, had, hin, hT, hRc, hRs, hRf, hRl, hnn, hAO⟩ := X
  intro pc nx a b v ls st S n h kk H locs la hP hD hS hz hn hs hM hM2 hl
  obtain ⟨hd, rfl⟩ := mv_dec hok h 3 rfl rfl
  have hc := mv_ckd hok h
  simp only [mv_ck2, decide_eq_true_eq] at hc
  subst hc
  exact lv_sipush hx hb hd rfl (kk H locs la hP hD hS hz hn hs hM hM2 hl)
theorem mv_s_lconst (X : mv_Cx p R s m args meth c D ad adV cK A own ini cc P nL n0 n1 s0 kx ks nM sM d) : mv_R_lconst P rt Rn nM sM r0 S0 (mv_V p l e R s m args below meth c Q D ad cK A nL n0 n1 s0 kx ks nM sM) := by
  obtain ⟨hx, hb, hml, hown, hts, hN, hK, hA, hok, had, hin, hT, hRc, hRs, hRf, hRl, hnn, hAO⟩ := X
  intro pc nx a b v ls st S n h kk H locs la hP hD hS hz hn hs hM hM2 hl
  obtain ⟨hd, rfl⟩ := mv_dec hok h 1 rfl rfl
  have hc := mv_ckd hok h
  simp only [mv_ck2, decide_eq_true_eq] at hc
  subst hc
  exact lv_lconst hx hb hd rfl (kk H locs la hP hD hS hz hn hs hM hM2 hl)
theorem mv_s_iadd (X : mv_Cx p R s m args meth c D ad adV cK A own ini cc P nL n0 n1 s0 kx ks nM sM d) : mv_R_iadd P rt Rn nM sM r0 S0 (mv_V p l e R s m args below meth c Q D ad cK A nL n0 n1 s0 kx ks nM sM) := by
  obtain ⟨hx, hb, hml, hown, hts, hN, hK, hA, hok, had, hin, hT, hRc, hRs, hRf, hRl, hnn, hAO⟩ := X
  intro pc nx a b v ls st S x y h kk H locs la hP hD hS hz hn hs hM hM2 hl
  obtain ⟨hd, rfl⟩ := mv_dec hok h 1 rfl rfl
  exact lv_iadd hx hb hd (kk H locs la hP hD hS hz hn hs hM hM2 hl)
theorem mv_s_isub (X : mv_Cx p R s m args meth c D ad adV cK A own ini cc P nL n0 n1 s0 kx ks nM sM d) : mv_R_isub P rt Rn nM sM r0 S0 (mv_V p l e R s m args below meth c Q D ad cK A nL n0 n1 s0 kx ks nM sM) := by
  obtain ⟨hx, hb, hml, hown, hts, hN, hK, hA, hok, had, hin, hT, hRc, hRs, hRf, hRl, hnn, hAO⟩ := X
  intro pc nx a b v ls st S x y h kk H locs la hP hD hS hz hn hs hM hM2 hl
  obtain ⟨hd, rfl⟩ := mv_dec hok h 1 rfl rfl
  exact lv_isub hx hb hd (kk H locs la hP hD hS hz hn hs hM hM2 hl)
theorem mv_s_imul (X : mv_Cx p R s m args meth c D ad adV cK A own ini cc P nL n0 n1 s0 kx ks nM sM d) : mv_R_imul P rt Rn nM sM r0 S0 (mv_V p l e R s m args below meth c Q D ad cK A nL n0 n1 s0 kx ks nM sM) := by
  obtain ⟨hx, hb, hml, hown, hts, hN, hK, hA, hok, had, hin, hT, hRc, hRs, hRf, hRl, hnn, hAO⟩ := X
  intro pc nx a b v ls st S x y h kk H locs la hP hD hS hz hn hs hM hM2 hl
  obtain ⟨hd, rfl⟩ := mv_dec hok h 1 rfl rfl
  exact lv_imul hx hb hd (kk H locs la hP hD hS hz hn hs hM hM2 hl)
theorem mv_s_iand (X : mv_Cx p R s m args meth c D ad adV cK A own ini cc P nL n0 n1 s0 kx ks nM sM d) : mv_R_iand P rt Rn nM sM r0 S0 (mv_V p l e R s m args below meth c Q D ad cK A nL n0 n1 s0 kx ks nM sM) := by
  obtain ⟨hx, hb, hml, hown, hts, hN, hK, hA, hok, had, hin, hT, hRc, hRs, hRf, hRl, hnn, hAO⟩ := X
  intro pc nx a b v ls st S x y h kk H locs la hP hD hS hz hn hs hM hM2 hl
  obtain ⟨hd, rfl⟩ := mv_dec hok h 1 rfl rfl
  exact lv_iand hx hb hd (kk H locs la hP hD hS hz hn hs hM hM2 hl)
theorem mv_s_ior (X : mv_Cx p R s m args meth c D ad adV cK A own ini cc P nL n0 n1 s0 kx ks nM sM d) : mv_R_ior P rt Rn nM sM r0 S0 (mv_V p l e R s m args below meth c Q D ad cK A nL n0 n1 s0 kx ks nM sM) := by
  obtain ⟨hx, hb, hml, hown, hts, hN, hK, hA, hok, had, hin, hT, hRc, hRs, hRf, hRl, hnn, hAO⟩ := X
  intro pc nx a b v ls st S x y h kk H locs la hP hD hS hz hn hs hM hM2 hl
  obtain ⟨hd, rfl⟩ := mv_dec hok h 1 rfl rfl
  exact lv_ior hx hb hd (kk H locs la hP hD hS hz hn hs hM hM2 hl)
theorem mv_s_ixor (X : mv_Cx p R s m args meth c D ad adV cK A own ini cc P nL n0 n1 s0 kx ks nM sM d) : mv_R_ixor P rt Rn nM sM r0 S0 (mv_V p l e R s m args below meth c Q D ad cK A nL n0 n1 s0 kx ks nM sM) := by
  obtain ⟨hx, hb, hml, hown, hts, hN, hK, hA, hok, had, hin, hT, hRc, hRs, hRf, hRl, hnn, hAO⟩ := X
  intro pc nx a b v ls st S x y h kk H locs la hP hD hS hz hn hs hM hM2 hl
  obtain ⟨hd, rfl⟩ := mv_dec hok h 1 rfl rfl
  exact lv_ixor hx hb hd (kk H locs la hP hD hS hz hn hs hM hM2 hl)
theorem mv_s_ishl (X : mv_Cx p R s m args meth c D ad adV cK A own ini cc P nL n0 n1 s0 kx ks nM sM d) : mv_R_ishl P rt Rn nM sM r0 S0 (mv_V p l e R s m args below meth c Q D ad cK A nL n0 n1 s0 kx ks nM sM) := by
  obtain ⟨hx, hb, hml, hown, hts, hN, hK, hA, hok, had, hin, hT, hRc, hRs, hRf, hRl, hnn, hAO⟩ := X
  intro pc nx a b v ls st S x y h kk H locs la hP hD hS hz hn hs hM hM2 hl
  obtain ⟨hd, rfl⟩ := mv_dec hok h 1 rfl rfl
  exact lv_ishl hx hb hd (kk H locs la hP hD hS hz hn hs hM hM2 hl)
theorem mv_s_ishr (X : mv_Cx p R s m args meth c D ad adV cK A own ini cc P nL n0 n1 s0 kx ks nM sM d) : mv_R_ishr P rt Rn nM sM r0 S0 (mv_V p l e R s m args below meth c Q D ad cK A nL n0 n1 s0 kx ks nM sM) := by
  obtain ⟨hx, hb, hml, hown, hts, hN, hK, hA, hok, had, hin, hT, hRc, hRs, hRf, hRl, hnn, hAO⟩ := X
  intro pc nx a b v ls st S x y h kk H locs la hP hD hS hz hn hs hM hM2 hl
  obtain ⟨hd, rfl⟩ := mv_dec hok h 1 rfl rfl
  exact lv_ishr hx hb hd (kk H locs la hP hD hS hz hn hs hM hM2 hl)
theorem mv_s_ladd (X : mv_Cx p R s m args meth c D ad adV cK A own ini cc P nL n0 n1 s0 kx ks nM sM d) : mv_R_ladd P rt Rn nM sM r0 S0 (mv_V p l e R s m args below meth c Q D ad cK A nL n0 n1 s0 kx ks nM sM) := by
  obtain ⟨hx, hb, hml, hown, hts, hN, hK, hA, hok, had, hin, hT, hRc, hRs, hRf, hRl, hnn, hAO⟩ := X
  intro pc nx a b v ls st S x y h kk H locs la hP hD hS hz hn hs hM hM2 hl
  obtain ⟨hd, rfl⟩ := mv_dec hok h 1 rfl rfl
  exact lv_ladd hx hb hd (kk H locs la hP hD hS hz hn hs hM hM2 hl)
theorem mv_s_lsub (X : mv_Cx p R s m args meth c D ad adV cK A own ini cc P nL n0 n1 s0 kx ks nM sM d) : mv_R_lsub P rt Rn nM sM r0 S0 (mv_V p l e R s m args below meth c Q D ad cK A nL n0 n1 s0 kx ks nM sM) := by
  obtain ⟨hx, hb, hml, hown, hts, hN, hK, hA, hok, had, hin, hT, hRc, hRs, hRf, hRl, hnn, hAO⟩ := X
  intro pc nx a b v ls st S x y h kk H locs la hP hD hS hz hn hs hM hM2 hl
  obtain ⟨hd, rfl⟩ := mv_dec hok h 1 rfl rfl
  exact lv_lsub hx hb hd (kk H locs la hP hD hS hz hn hs hM hM2 hl)
theorem mv_s_lmul (X : mv_Cx p R s m args meth c D ad adV cK A own ini cc P nL n0 n1 s0 kx ks nM sM d) : mv_R_lmul P rt Rn nM sM r0 S0 (mv_V p l e R s m args below meth c Q D ad cK A nL n0 n1 s0 kx ks nM sM) := by
  obtain ⟨hx, hb, hml, hown, hts, hN, hK, hA, hok, had, hin, hT, hRc, hRs, hRf, hRl, hnn, hAO⟩ := X
  intro pc nx a b v ls st S x y h kk H locs la hP hD hS hz hn hs hM hM2 hl
  obtain ⟨hd, rfl⟩ := mv_dec hok h 1 rfl rfl
  exact lv_lmul hx hb hd (kk H locs la hP hD hS hz hn hs hM hM2 hl)
theorem mv_s_land (X : mv_Cx p R s m args meth c D ad adV cK A own ini cc P nL n0 n1 s0 kx ks nM sM d) : mv_R_land P rt Rn nM sM r0 S0 (mv_V p l e R s m args below meth c Q D ad cK A nL n0 n1 s0 kx ks nM sM) := by
  obtain ⟨hx, hb, hml, hown, hts, hN, hK, hA, hok, had, hin, hT, hRc, hRs, hRf, hRl, hnn, hAO⟩ := X
  intro pc nx a b v ls st S x y h kk H locs la hP hD hS hz hn hs hM hM2 hl
  obtain ⟨hd, rfl⟩ := mv_dec hok h 1 rfl rfl
  exact lv_land hx hb hd (kk H locs la hP hD hS hz hn hs hM hM2 hl)
theorem mv_s_lor (X : mv_Cx p R s m args meth c D ad adV cK A own ini cc P nL n0 n1 s0 kx ks nM sM d) : mv_R_lor P rt Rn nM sM r0 S0 (mv_V p l e R s m args below meth c Q D ad cK A nL n0 n1 s0 kx ks nM sM) := by
  obtain ⟨hx, hb, hml, hown, hts, hN, hK, hA, hok, had, hin, hT, hRc, hRs, hRf, hRl, hnn, hAO⟩ := X
  intro pc nx a b v ls st S x y h kk H locs la hP hD hS hz hn hs hM hM2 hl
  obtain ⟨hd, rfl⟩ := mv_dec hok h 1 rfl rfl
  exact lv_lor hx hb hd (kk H locs la hP hD hS hz hn hs hM hM2 hl)
theorem mv_s_ineg (X : mv_Cx p R s m args meth c D ad adV cK A own ini cc P nL n0 n1 s0 kx ks nM sM d) : mv_R_ineg P rt Rn nM sM r0 S0 (mv_V p l e R s m args below meth c Q D ad cK A nL n0 n1 s0 kx ks nM sM) := by
  obtain ⟨hx, hb, hml, hown, hts, hN, hK, hA, hok, had, hin, hT, hRc, hRs, hRf, hRl, hnn, hAO⟩ := X
  intro pc nx a b v ls st S x h kk H locs la hP hD hS hz hn hs hM hM2 hl
  obtain ⟨hd, rfl⟩ := mv_dec hok h 1 rfl rfl
  exact lv_ineg hx hb hd (kk H locs la hP hD hS hz hn hs hM hM2 hl)
theorem mv_s_iushr (X : mv_Cx p R s m args meth c D ad adV cK A own ini cc P nL n0 n1 s0 kx ks nM sM d) : mv_R_iushr P rt Rn nM sM r0 S0 (mv_V p l e R s m args below meth c Q D ad cK A nL n0 n1 s0 kx ks nM sM) := by
  obtain ⟨hx, hb, hml, hown, hts, hN, hK, hA, hok, had, hin, hT, hRc, hRs, hRf, hRl, hnn, hAO⟩ := X
  intro pc nx a b v ls st S x y h kk H locs la hP hD hS hz hn hs hM hM2 hl
  obtain ⟨hd, rfl⟩ := mv_dec hok h 1 rfl rfl
  exact lv_iushr hx hb hd rfl (kk H locs la hP hD hS hz hn hs hM hM2 hl)
theorem mv_s_lshl (X : mv_Cx p R s m args meth c D ad adV cK A own ini cc P nL n0 n1 s0 kx ks nM sM d) : mv_R_lshl P rt Rn nM sM r0 S0 (mv_V p l e R s m args below meth c Q D ad cK A nL n0 n1 s0 kx ks nM sM) := by
  obtain ⟨hx, hb, hml, hown, hts, hN, hK, hA, hok, had, hin, hT, hRc, hRs, hRf, hRl, hnn, hAO⟩ := X
  intro pc nx a b v ls st S x y h kk H locs la hP hD hS hz hn hs hM hM2 hl
  obtain ⟨hd, rfl⟩ := mv_dec hok h 1 rfl rfl
  exact lv_lshl hx hb hd rfl (kk H locs la hP hD hS hz hn hs hM hM2 hl)
theorem mv_s_i2l (X : mv_Cx p R s m args meth c D ad adV cK A own ini cc P nL n0 n1 s0 kx ks nM sM d) : mv_R_i2l P rt Rn nM sM r0 S0 (mv_V p l e R s m args below meth c Q D ad cK A nL n0 n1 s0 kx ks nM sM) := by
  obtain ⟨hx, hb, hml, hown, hts, hN, hK, hA, hok, had, hin, hT, hRc, hRs, hRf, hRl, hnn, hAO⟩ := X
  intro pc nx a b v ls st S x h kk H locs la hP hD hS hz hn hs hM hM2 hl
  obtain ⟨hd, rfl⟩ := mv_dec hok h 1 rfl rfl
  exact lv_i2l hx hb hd rfl (kk H locs la hP hD hS hz hn hs hM hM2 hl)
theorem mv_s_l2i (X : mv_Cx p R s m args meth c D ad adV cK A own ini cc P nL n0 n1 s0 kx ks nM sM d) : mv_R_l2i P rt Rn nM sM r0 S0 (mv_V p l e R s m args below meth c Q D ad cK A nL n0 n1 s0 kx ks nM sM) := by
  obtain ⟨hx, hb, hml, hown, hts, hN, hK, hA, hok, had, hin, hT, hRc, hRs, hRf, hRl, hnn, hAO⟩ := X
  intro pc nx a b v ls st S x h kk H locs la hP hD hS hz hn hs hM hM2 hl
  obtain ⟨hd, rfl⟩ := mv_dec hok h 1 rfl rfl
  exact lv_l2i hx hb hd rfl (kk H locs la hP hD hS hz hn hs hM hM2 hl)
theorem mv_s_lcmp (X : mv_Cx p R s m args meth c D ad adV cK A own ini cc P nL n0 n1 s0 kx ks nM sM d) : mv_R_lcmp P rt Rn nM sM r0 S0 (mv_V p l e R s m args below meth c Q D ad cK A nL n0 n1 s0 kx ks nM sM) := by
  obtain ⟨hx, hb, hml, hown, hts, hN, hK, hA, hok, had, hin, hT, hRc, hRs, hRf, hRl, hnn, hAO⟩ := X
  intro pc nx a b v ls st S x y h kk H locs la hP hD hS hz hn hs hM hM2 hl
  obtain ⟨hd, rfl⟩ := mv_dec hok h 1 rfl rfl
  exact W.lcmp hx hb hd (kk H locs la hP hD hS hz hn hs hM hM2 hl)
theorem mv_s_idiv (X : mv_Cx p R s m args meth c D ad adV cK A own ini cc P nL n0 n1 s0 kx ks nM sM d) : mv_R_idiv P rt Rn nM sM r0 S0 (mv_V p l e R s m args below meth c Q D ad cK A nL n0 n1 s0 kx ks nM sM) := by
  obtain ⟨hx, hb, hml, hown, hts, hN, hK, hA, hok, had, hin, hT, hRc, hRs, hRf, hRl, hnn, hAO⟩ := X
  intro pc nx a b v ls st S x y h g0 kk H locs la hP hD hS hz hn hs hM hM2 hl
  obtain ⟨hd, rfl⟩ := mv_dec hok h 1 rfl rfl
  exact lv_idiv hx hb hd g0 (kk H locs la hP hD hS hz hn hs hM hM2 hl)
theorem mv_s_irem (X : mv_Cx p R s m args meth c D ad adV cK A own ini cc P nL n0 n1 s0 kx ks nM sM d) : mv_R_irem P rt Rn nM sM r0 S0 (mv_V p l e R s m args below meth c Q D ad cK A nL n0 n1 s0 kx ks nM sM) := by
  obtain ⟨hx, hb, hml, hown, hts, hN, hK, hA, hok, had, hin, hT, hRc, hRs, hRf, hRl, hnn, hAO⟩ := X
  intro pc nx a b v ls st S x y h g0 kk H locs la hP hD hS hz hn hs hM hM2 hl
  obtain ⟨hd, rfl⟩ := mv_dec hok h 1 rfl rfl
  exact lv_irem hx hb hd g0 (kk H locs la hP hD hS hz hn hs hM hM2 hl)
theorem mv_s_ldiv (X : mv_Cx p R s m args meth c D ad adV cK A own ini cc P nL n0 n1 s0 kx ks nM sM d) : mv_R_ldiv P rt Rn nM sM r0 S0 (mv_V p l e R s m args below meth c Q D ad cK A nL n0 n1 s0 kx ks nM sM) := by
  obtain ⟨hx, hb, hml, hown, hts, hN, hK, hA, hok, had, hin, hT, hRc, hRs, hRf, hRl, hnn, hAO⟩ := X
  intro pc nx a b v ls st S x y h g0 kk H locs la hP hD hS hz hn hs hM hM2 hl
  obtain ⟨hd, rfl⟩ := mv_dec hok h 1 rfl rfl
  exact lv_ldiv hx hb hd g0 (kk H locs la hP hD hS hz hn hs hM hM2 hl)
theorem mv_s_dup (X : mv_Cx p R s m args meth c D ad adV cK A own ini cc P nL n0 n1 s0 kx ks nM sM d) : mv_R_dup P rt Rn nM sM r0 S0 (mv_V p l e R s m args below meth c Q D ad cK A nL n0 n1 s0 kx ks nM sM) := by
  obtain ⟨hx, hb, hml, hown, hts, hN, hK, hA, hok, had, hin, hT, hRc, hRs, hRf, hRl, hnn, hAO⟩ := X
  intro pc nx a b v ls st S x h g0 kk H locs la hP hD hS hz hn hs hM hM2 hl
  obtain ⟨hd, rfl⟩ := mv_dec hok h 1 rfl rfl
  exact lv_dup hx hb hd (by rw [mv_cv_cat]; exact g0) (kk H locs la hP hD hS hz hn hs hM hM2 hl)
theorem mv_s_pop (X : mv_Cx p R s m args meth c D ad adV cK A own ini cc P nL n0 n1 s0 kx ks nM sM d) : mv_R_pop P rt Rn nM sM r0 S0 (mv_V p l e R s m args below meth c Q D ad cK A nL n0 n1 s0 kx ks nM sM) := by
  obtain ⟨hx, hb, hml, hown, hts, hN, hK, hA, hok, had, hin, hT, hRc, hRs, hRf, hRl, hnn, hAO⟩ := X
  intro pc nx a b v ls st S x h g0 kk H locs la hP hD hS hz hn hs hM hM2 hl
  obtain ⟨hd, rfl⟩ := mv_dec hok h 1 rfl rfl
  exact lv_pop hx hb hd (by rw [mv_cv_cat]; exact g0) (kk H locs la hP hD hS hz hn hs hM hM2 hl)
theorem mv_s_dup2 (X : mv_Cx p R s m args meth c D ad adV cK A own ini cc P nL n0 n1 s0 kx ks nM sM d) : mv_R_dup2 P rt Rn nM sM r0 S0 (mv_V p l e R s m args below meth c Q D ad cK A nL n0 n1 s0 kx ks nM sM) := by
  obtain ⟨hx, hb, hml, hown, hts, hN, hK, hA, hok, had, hin, hT, hRc, hRs, hRf, hRl, hnn, hAO⟩ := X
  intro pc nx a b v ls st S x y h g0 g1 kk H locs la hP hD hS hz hn hs hM hM2 hl
  obtain ⟨hd, rfl⟩ := mv_dec hok h 1 rfl rfl
  exact lv_dup2_11 hx hb hd (by rw [mv_cv_cat]; exact g0) (by rw [mv_cv_cat]; exact g1) (kk H locs la hP hD hS hz hn hs hM hM2 hl)
theorem mv_s_goto (X : mv_Cx p R s m args meth c D ad adV cK A own ini cc P nL n0 n1 s0 kx ks nM sM d) : mv_R_goto P rt Rn nM sM r0 S0 (mv_V p l e R s m args below meth c Q D ad cK A nL n0 n1 s0 kx ks nM sM) := by
  obtain ⟨hx, hb, hml, hown, hts, hN, hK, hA, hok, had, hin, hT, hRc, hRs, hRf, hRl, hnn, hAO⟩ := X
  intro pc nx a b v ls st S o h kk H locs la hP hD hS hz hn hs hM hM2 hl
  obtain ⟨hd, rfl⟩ := mv_dec hok h 3 rfl rfl
  have hc := mv_ckd hok h
  simp only [mv_ck2, decide_eq_true_eq] at hc
  exact lv_goto hx hb hd hc (kk H locs la hP hD hS hz hn hs hM hM2 hl)
theorem mv_s_if_eq (X : mv_Cx p R s m args meth c D ad adV cK A own ini cc P nL n0 n1 s0 kx ks nM sM d) : mv_R_if_eq P rt Rn nM sM r0 S0 (mv_V p l e R s m args below meth c Q D ad cK A nL n0 n1 s0 kx ks nM sM) := by
  obtain ⟨hx, hb, hml, hown, hts, hN, hK, hA, hok, had, hin, hT, hRc, hRs, hRf, hRl, hnn, hAO⟩ := X
  intro pc nx a b v ls st S o x h g0 g1 H locs la hP hD hS hz hn hs hM hM2 hl
  obtain ⟨hd, rfl⟩ := mv_dec hok h 3 rfl rfl
  have hc := mv_ckd hok h
  simp only [mv_ck2, decide_eq_true_eq] at hc
  exact lv_if_eq hx hb hd hc (fun q => g0 q H locs la hP hD hS hz hn hs hM hM2 hl) (fun q => g1 q H locs la hP hD hS hz hn hs hM hM2 hl)
theorem mv_s_icmp_eq (X : mv_Cx p R s m args meth c D ad adV cK A own ini cc P nL n0 n1 s0 kx ks nM sM d) : mv_R_icmp_eq P rt Rn nM sM r0 S0 (mv_V p l e R s m args below meth c Q D ad cK A nL n0 n1 s0 kx ks nM sM) := by
  obtain ⟨hx, hb, hml, hown, hts, hN, hK, hA, hok, had, hin, hT, hRc, hRs, hRf, hRl, hnn, hAO⟩ := X
  intro pc nx a b v ls st S o x y h g0 g1 H locs la hP hD hS hz hn hs hM hM2 hl
  obtain ⟨hd, rfl⟩ := mv_dec hok h 3 rfl rfl
  have hc := mv_ckd hok h
  simp only [mv_ck2, decide_eq_true_eq] at hc
  exact lv_icmp_eq hx hb hd hc (fun q => g0 q H locs la hP hD hS hz hn hs hM hM2 hl) (fun q => g1 q H locs la hP hD hS hz hn hs hM hM2 hl)
theorem mv_s_if_ne (X : mv_Cx p R s m args meth c D ad adV cK A own ini cc P nL n0 n1 s0 kx ks nM sM d) : mv_R_if_ne P rt Rn nM sM r0 S0 (mv_V p l e R s m args below meth c Q D ad cK A nL n0 n1 s0 kx ks nM sM) := by
  obtain ⟨hx, hb, hml, hown, hts, hN, hK, hA, hok, had, hin, hT, hRc, hRs, hRf, hRl, hnn, hAO⟩ := X
  intro pc nx a b v ls st S o x h g0 g1 H locs la hP hD hS hz hn hs hM hM2 hl
  obtain ⟨hd, rfl⟩ := mv_dec hok h 3 rfl rfl
  have hc := mv_ckd hok h
  simp only [mv_ck2, decide_eq_true_eq] at hc
  exact lv_if_ne hx hb hd hc (fun q => g0 q H locs la hP hD hS hz hn hs hM hM2 hl) (fun q => g1 q H locs la hP hD hS hz hn hs hM hM2 hl)
theorem mv_s_icmp_ne (X : mv_Cx p R s m args meth c D ad adV cK A own ini cc P nL n0 n1 s0 kx ks nM sM d) : mv_R_icmp_ne P rt Rn nM sM r0 S0 (mv_V p l e R s m args below meth c Q D ad cK A nL n0 n1 s0 kx ks nM sM) := by
  obtain ⟨hx, hb, hml, hown, hts, hN, hK, hA, hok, had, hin, hT, hRc, hRs, hRf, hRl, hnn, hAO⟩ := X
  intro pc nx a b v ls st S o x y h g0 g1 H locs la hP hD hS hz hn hs hM hM2 hl
  obtain ⟨hd, rfl⟩ := mv_dec hok h 3 rfl rfl
  have hc := mv_ckd hok h
  simp only [mv_ck2, decide_eq_true_eq] at hc
  exact lv_icmp_ne hx hb hd hc (fun q => g0 q H locs la hP hD hS hz hn hs hM hM2 hl) (fun q => g1 q H locs la hP hD hS hz hn hs hM hM2 hl)
theorem mv_s_if_lt (X : mv_Cx p R s m args meth c D ad adV cK A own ini cc P nL n0 n1 s0 kx ks nM sM d) : mv_R_if_lt P rt Rn nM sM r0 S0 (mv_V p l e R s m args below meth c Q D ad cK A nL n0 n1 s0 kx ks nM sM) := by
  obtain ⟨hx, hb, hml, hown, hts, hN, hK, hA, hok, had, hin, hT, hRc, hRs, hRf, hRl, hnn, hAO⟩ := X
  intro pc nx a b v ls st S o x h g0 g1 H locs la hP hD hS hz hn hs hM hM2 hl
  obtain ⟨hd, rfl⟩ := mv_dec hok h 3 rfl rfl
  have hc := mv_ckd hok h
  simp only [mv_ck2, decide_eq_true_eq] at hc
  exact lv_if_lt hx hb hd hc (fun q => g0 q H locs la hP hD hS hz hn hs hM hM2 hl) (fun q => g1 q H locs la hP hD hS hz hn hs hM hM2 hl)
theorem mv_s_icmp_lt (X : mv_Cx p R s m args meth c D ad adV cK A own ini cc P nL n0 n1 s0 kx ks nM sM d) : mv_R_icmp_lt P rt Rn nM sM r0 S0 (mv_V p l e R s m args below meth c Q D ad cK A nL n0 n1 s0 kx ks nM sM) := by
  obtain ⟨hx, hb, hml, hown, hts, hN, hK, hA, hok, had, hin, hT, hRc, hRs, hRf, hRl, hnn, hAO⟩ := X
  intro pc nx a b v ls st S o x y h g0 g1 H locs la hP hD hS hz hn hs hM hM2 hl
  obtain ⟨hd, rfl⟩ := mv_dec hok h 3 rfl rfl
  have hc := mv_ckd hok h
  simp only [mv_ck2, decide_eq_true_eq] at hc
  exact lv_icmp_lt hx hb hd hc (fun q => g0 q H locs la hP hD hS hz hn hs hM hM2 hl) (fun q => g1 q H locs la hP hD hS hz hn hs hM hM2 hl)
theorem mv_s_if_ge (X : mv_Cx p R s m args meth c D ad adV cK A own ini cc P nL n0 n1 s0 kx ks nM sM d) : mv_R_if_ge P rt Rn nM sM r0 S0 (mv_V p l e R s m args below meth c Q D ad cK A nL n0 n1 s0 kx ks nM sM) := by
  obtain ⟨hx, hb, hml, hown, hts, hN, hK, hA, hok, had, hin, hT, hRc, hRs, hRf, hRl, hnn, hAO⟩ := X
  intro pc nx a b v ls st S o x h g0 g1 H locs la hP hD hS hz hn hs hM hM2 hl
  obtain ⟨hd, rfl⟩ := mv_dec hok h 3 rfl rfl
  have hc := mv_ckd hok h
  simp only [mv_ck2, decide_eq_true_eq] at hc
  exact lv_if_ge hx hb hd hc (fun q => g0 q H locs la hP hD hS hz hn hs hM hM2 hl) (fun q => g1 q H locs la hP hD hS hz hn hs hM hM2 hl)
theorem mv_s_icmp_ge (X : mv_Cx p R s m args meth c D ad adV cK A own ini cc P nL n0 n1 s0 kx ks nM sM d) : mv_R_icmp_ge P rt Rn nM sM r0 S0 (mv_V p l e R s m args below meth c Q D ad cK A nL n0 n1 s0 kx ks nM sM) := by
  obtain ⟨hx, hb, hml, hown, hts, hN, hK, hA, hok, had, hin, hT, hRc, hRs, hRf, hRl, hnn, hAO⟩ := X
  intro pc nx a b v ls st S o x y h g0 g1 H locs la hP hD hS hz hn hs hM hM2 hl
  obtain ⟨hd, rfl⟩ := mv_dec hok h 3 rfl rfl
  have hc := mv_ckd hok h
  simp only [mv_ck2, decide_eq_true_eq] at hc
  exact lv_icmp_ge hx hb hd hc (fun q => g0 q H locs la hP hD hS hz hn hs hM hM2 hl) (fun q => g1 q H locs la hP hD hS hz hn hs hM hM2 hl)
theorem mv_s_if_gt (X : mv_Cx p R s m args meth c D ad adV cK A own ini cc P nL n0 n1 s0 kx ks nM sM d) : mv_R_if_gt P rt Rn nM sM r0 S0 (mv_V p l e R s m args below meth c Q D ad cK A nL n0 n1 s0 kx ks nM sM) := by
  obtain ⟨hx, hb, hml, hown, hts, hN, hK, hA, hok, had, hin, hT, hRc, hRs, hRf, hRl, hnn, hAO⟩ := X
  intro pc nx a b v ls st S o x h g0 g1 H locs la hP hD hS hz hn hs hM hM2 hl
  obtain ⟨hd, rfl⟩ := mv_dec hok h 3 rfl rfl
  have hc := mv_ckd hok h
  simp only [mv_ck2, decide_eq_true_eq] at hc
  exact lv_if_gt hx hb hd hc (fun q => g0 q H locs la hP hD hS hz hn hs hM hM2 hl) (fun q => g1 q H locs la hP hD hS hz hn hs hM hM2 hl)
theorem mv_s_icmp_gt (X : mv_Cx p R s m args meth c D ad adV cK A own ini cc P nL n0 n1 s0 kx ks nM sM d) : mv_R_icmp_gt P rt Rn nM sM r0 S0 (mv_V p l e R s m args below meth c Q D ad cK A nL n0 n1 s0 kx ks nM sM) := by
  obtain ⟨hx, hb, hml, hown, hts, hN, hK, hA, hok, had, hin, hT, hRc, hRs, hRf, hRl, hnn, hAO⟩ := X
  intro pc nx a b v ls st S o x y h g0 g1 H locs la hP hD hS hz hn hs hM hM2 hl
  obtain ⟨hd, rfl⟩ := mv_dec hok h 3 rfl rfl
  have hc := mv_ckd hok h
  simp only [mv_ck2, decide_eq_true_eq] at hc
  exact lv_icmp_gt hx hb hd hc (fun q => g0 q H locs la hP hD hS hz hn hs hM hM2 hl) (fun q => g1 q H locs la hP hD hS hz hn hs hM hM2 hl)
theorem mv_s_if_le (X : mv_Cx p R s m args meth c D ad adV cK A own ini cc P nL n0 n1 s0 kx ks nM sM d) : mv_R_if_le P rt Rn nM sM r0 S0 (mv_V p l e R s m args below meth c Q D ad cK A nL n0 n1 s0 kx ks nM sM) := by
  obtain ⟨hx, hb, hml, hown, hts, hN, hK, hA, hok, had, hin, hT, hRc, hRs, hRf, hRl, hnn, hAO⟩ := X
  intro pc nx a b v ls st S o x h g0 g1 H locs la hP hD hS hz hn hs hM hM2 hl
  obtain ⟨hd, rfl⟩ := mv_dec hok h 3 rfl rfl
  have hc := mv_ckd hok h
  simp only [mv_ck2, decide_eq_true_eq] at hc
  exact lv_if_le hx hb hd hc (fun q => g0 q H locs la hP hD hS hz hn hs hM hM2 hl) (fun q => g1 q H locs la hP hD hS hz hn hs hM hM2 hl)
theorem mv_s_icmp_le (X : mv_Cx p R s m args meth c D ad adV cK A own ini cc P nL n0 n1 s0 kx ks nM sM d) : mv_R_icmp_le P rt Rn nM sM r0 S0 (mv_V p l e R s m args below meth c Q D ad cK A nL n0 n1 s0 kx ks nM sM) := by
  obtain ⟨hx, hb, hml, hown, hts, hN, hK, hA, hok, had, hin, hT, hRc, hRs, hRf, hRl, hnn, hAO⟩ := X
  intro pc nx a b v ls st S o x y h g0 g1 H locs la hP hD hS hz hn hs hM hM2 hl
  obtain ⟨hd, rfl⟩ := mv_dec hok h 3 rfl rfl
  have hc := mv_ckd hok h
  simp only [mv_ck2, decide_eq_true_eq] at hc
  exact lv_icmp_le hx hb hd hc (fun q => g0 q H locs la hP hD hS hz hn hs hM hM2 hl) (fun q => g1 q H locs la hP hD hS hz hn hs hM hM2 hl)
theorem mv_s_tsw_out (X : mv_Cx p R s m args meth c D ad adV cK A own ini cc P nL n0 n1 s0 kx ks nM sM d) : mv_R_tsw_out P rt Rn nM sM r0 S0 (mv_V p l e R s m args below meth c Q D ad cK A nL n0 n1 s0 kx ks nM sM) := by
  obtain ⟨hx, hb, hml, hown, hts, hN, hK, hA, hok, had, hin, hT, hRc, hRs, hRf, hRl, hnn, hAO⟩ := X
  intro pc nx a b v ls st S d lo hi os x t h g0 g1 kk H locs la hP hD hS hz hn hs hM hM2 hl
  have hc := mv_ckd hok h
  simp only [mv_ck2, decide_eq_true_eq] at hc
  subst hc
  exact lv_tableOut hx hb (mv_dec0 hok h) g0 g1 (kk H locs la hP hD hS hz hn hs hM hM2 hl)
theorem mv_s_tsw_in (X : mv_Cx p R s m args meth c D ad adV cK A own ini cc P nL n0 n1 s0 kx ks nM sM d) : mv_R_tsw_in P rt Rn nM sM r0 S0 (mv_V p l e R s m args below meth c Q D ad cK A nL n0 n1 s0 kx ks nM sM) := by
  obtain ⟨hx, hb, hml, hown, hts, hN, hK, hA, hok, had, hin, hT, hRc, hRs, hRf, hRl, hnn, hAO⟩ := X
  intro pc nx a b v ls st S d lo hi os x o t h g0 g1 g2 g3 kk H locs la hP hD hS hz hn hs hM hM2 hl
  have hc := mv_ckd hok h
  simp only [mv_ck2, decide_eq_true_eq] at hc
  subst hc
  exact lv_tableIn hx hb (mv_dec0 hok h) g0 g1 g2 g3 (kk H locs la hP hD hS hz hn hs hM hM2 hl)
theorem mv_s_lsw (X : mv_Cx p R s m args meth c D ad adV cK A own ini cc P nL n0 n1 s0 kx ks nM sM d) : mv_R_lsw P rt Rn nM sM r0 S0 (mv_V p l e R s m args below meth c Q D ad cK A nL n0 n1 s0 kx ks nM sM) := by
  obtain ⟨hx, hb, hml, hown, hts, hN, hK, hA, hok, had, hin, hT, hRc, hRs, hRf, hRl, hnn, hAO⟩ := X
  intro pc nx a b v ls st S d ps x o t h g0 g1 kk H locs la hP hD hS hz hn hs hM hM2 hl
  have hc := mv_ckd hok h
  simp only [mv_ck2, Bool.and_eq_true, decide_eq_true_eq] at hc
  obtain ⟨hc, hc2⟩ := hc
  subst hc
  exact lv_lookup hx hb (mv_dec0 hok h) hc2 g0 g1 (kk H locs la hP hD hS hz hn hs hM hM2 hl)
end MVS
