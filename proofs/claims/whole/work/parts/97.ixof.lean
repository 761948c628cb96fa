section
variable {p : Program} {l : Launch} {e : Env} {R : Room} {s : State} {m : MethodId} {args : Array Value} {below : List Frame} {meth : Method} {c : Code} {Q : State → Prop} {D : va_G} {ad adV cK : Nat → Nat} {A : Nat → Prop} {own : Nat} {ini : Bool} {cc : ByteArray} {P : List (Nat × mv_I)} {nL n0 n1 s0 kx ks nM sM d : Nat} {rt : Option FieldType} {Rn : Nat → List Value → mv_S → Option Value → mv_S → Prop} {r0 : Option Value} {S0 : mv_S}
theorem mv_s_ixof (X : mv_Cx p R s m args meth c D ad adV cK A own ini cc P nL n0 n1 s0 kx ks nM sM d) : mv_R_ixof P rt Rn nM sM r0 S0 (mv_V p l e R s m args below meth c Q D ad cK A nL n0 n1 s0 kx ks nM sM) := by
  obtain ⟨hx, hb, hml, hown, hts, hN, hK, hA, hok, had, hin, hT, hRc, hRs, hRf, hRl, hnn, hAO⟩ := X
  intro pc nx a b v ls st S n j x h g0 g1 g2 g3 kk H locs la hP hD hS hz hn hs hM hM2 hl
  obtain ⟨hd, rfl⟩ := mv_dec hok h 3 rfl rfl
  have hc := mv_ckd hok h
  subst g0
  simp only [mv_ck2, show Nat.blt 904 900 = false from rfl, cond_false, show Nat.beq 904 904 = true from rfl, cond_true, Bool.and_eq_true, decide_eq_true_eq] at hc
  obtain ⟨hc1, hc2⟩ := hc
  obtain ⟨i, rfl⟩ : ∃ i, j = i + 1 := ⟨j - 1, by omega⟩
  have hj : i < 5 := by omega
  have hF : ∀ q, va_A [] H.size q → A q := by
    rintro q (⟨k, e, hk⟩ | hk)
    · simp at hk
    · exact hA q (Nat.le_trans hS.1 hk)
  have hroom : 2 * (F0 m pc la []).monitorRoom + ((st.map (mv_cv ad)).map fun v => v.category).sum ≤ 8 := by rw [mv_wd_cv]; show 2 * 0 + _ ≤ 8; omega
  have hrm : (jrm 3).frames + 1 ≤ R.frames ∧ 8 + (2 + 11) + (jrm 3).locals ≤ R.locals := by
    have e1 : (jrm 3).frames = 3 := rfl
    have e2 : (jrm 3).locals = 120 := rfl
    rw [e1, e2]; omega
  have hcs : S.1 - n0 + kx + 0 ≤ R.cells ∧ S.2.1 - s0 + ks + 0 ≤ R.slots := by constructor <;> omega
  have e9 : 1000 + (i + 1) = 1001 + i := by omega
  have run := va_runV (e := e) (below := below) (meth := meth) (locs := locs) (g := F0 m pc la (.int x :: .ref (ad (1001 + i)) :: st.map (mv_cv ad))) (C := "java/lang/String") (As := [.int x]) (rest := st.map (mv_cv ad)) ⟨hx, hb, hml, hown, hts⟩ (j_ix1 l ad adV H.size i x hj) ⟨callB_of 1 hts (jW_good jc_ix1) rfl rfl rfl (hts _ (mv_TB_of (i := 59) (by decide +kernel) rfl)) (hts _ (mv_TB_of hc2 rfl)) ⟨by decide, by decide, by decide +kernel⟩ hrm, (hts _ (mv_TB_of (i := 1183) (by decide +kernel) rfl)), (hts _ (mv_TB_of (i := 1184) (by decide +kernel) rfl))⟩ ⟨jP_blind, vk_recv hT.1 hj hS, fun U hU hW => ⟨rfl, by rw [hU], mv_T_call hW hU hS hF hT⟩⟩ rfl rfl hl.1 rfl hroom hd hcs
  show W p l e R s m args below meth c H locs (S.1 - n0 + kx) (S.2.1 - s0 + ks) Q (F0 m pc la (.int x :: .ref (ad (1000 + (i + 1))) :: st.map (mv_cv ad)))
  rw [e9]
  intro T hT2 X
  obtain ⟨v2, st₀, t, T', L, h0, X', hL, e1, e2, ⟨hv, hh⟩, stp⟩ := run T hT2 X
  have hv : v2 = some (.int (mv_ix (i + 1) x)) := by
    have := hv; simp only [Outcome.returned.injEq] at this; exact this
  subst hv
  have hS1 : va_S A s.heap H (locs ++ L) := ⟨hS.1, hS.2.1, fun q hq => (List.mem_append.mp hq).elim (hS.2.2 q) (fun z => hF _ (hL q z))⟩
  obtain ⟨t2, a1, b1⟩ := kk H (locs ++ L) la hP hD hS1 hz hn hs hM hM2 hl T' (by rw [e1, hh, h0]) X'
  exact ⟨t2, stp t2 a1, b1⟩
end
theorem mv_sound1 (l : Launch) (d y : Nat) (as : List Value) (S : mv_S) (r : Option Value) (S1 : mv_S) (h1 : S.1 ≤ S1.1) (h2 : S.2.1 ≤ S1.2.1) (h : mv_Runs d y as S r S1) : mv_Met l d y as S r S1 :=
  mv_sound l (fun p e R s m args below meth c Q D ad adV cK A own ini cc P nL n0 n1 s0 kx ks nM sM d rt Rn r0 S0 X => mv_s_ixof X) d y as S r S1 h1 h2 h
