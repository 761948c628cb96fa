theorem mv_uws_all : vwCl.all (fun q => (u_ws q.1 q.2.1 q.2.2).all (fun w => decide (w ∈ lw_tbl) && goodWord w)) = true := by decide +kernel
theorem mv_uws {ci : Nat} {C : String} {T : u_T} {N : Nat} (h : vwCl[ci]? = some (C, T, N)) : ∀ w ∈ u_ws C T N, w ∈ mv_TB := by
  intro w hw
  have h1 := List.all_eq_true.mp mv_uws_all _ (List.mem_of_getElem? h)
  have h2 := List.all_eq_true.mp h1 w hw
  simp only [Bool.and_eq_true, decide_eq_true_eq] at h2
  exact List.mem_filter.mpr h2
/-- a field's link, by the table of links -/
theorem mv_fl_at {own ci k pos nest idx j : Nat} (h : mv_fl[j]? = some (own, idx, ci, k, pos, nest)) : ∃ (C : String) (T : u_T) (N : Nat), vwCl[ci]? = some (C, T, N) ∧ k < N ∧ ((nest = 0 ∧ lw_tbl[pos]? = some (Cond.fieldLink (mv_own own) idx (T k).1 (T k).2.1 (T k).2.2.1)) ∨ lw_tbl[pos]? = some (Cond.fieldLinkNest (mv_own own) idx (T k).1 (T k).2.1 (T k).2.2.1 "HueAndCry")) := by
  have h1 := List.all_eq_true.mp mv_fl_ok _ (List.mem_of_getElem? h)
  simp only [mv_flok] at h1
  cases hv : vwCl[ci]? with
  | none => rw [hv] at h1; simp at h1
  | some q =>
    obtain ⟨C, T, N⟩ := q
    rw [hv] at h1
    simp only [Bool.and_eq_true, decide_eq_true_eq] at h1
    refine ⟨C, T, N, rfl, h1.1, ?_⟩
    cases hn : Nat.beq nest 0 with
    | true => rw [hn] at h1; simp only [cond_true, decide_eq_true_eq] at h1; exact Or.inl ⟨Nat.eq_of_beq_eq_true hn, h1.2⟩
    | false => rw [hn] at h1; simp only [cond_false, decide_eq_true_eq] at h1; exact Or.inr h1.2
def mv_isR : FieldType → Bool
  | .object _ => true
  | .array _ => true
  | _ => false
/-- a class' field types -/
def mv_clP (ci : Nat) (T : u_T) (N : Nat) : Prop := ∃ ty0 : Nat → FieldType, (∀ k, k < N → parseFieldDescriptor (T k).2.2.1 = some (ty0 k)) ∧ (∀ a, a < N → ∀ b, b < N → a ≠ b → (T a).2.1 ≠ (T b).2.1) ∧ (∀ k, k < N → ((mv_ft.getD ci []).getD k false = true → ty0 k = .int) ∧ ((mv_ft.getD ci []).getD k true = false → mv_isR (ty0 k) = true)) ∧ (mv_df ci).length = N ∧ ∀ j, j < N → defaultValue (ty0 j) = vp_V (mv_df ci) j
theorem mv_cls_0 : mv_clP 0 TX0 7 := ⟨tyX0, tyX0_ok, nmX0, by decide +kernel, rfl, by decide +kernel⟩
theorem mv_cls_1 : mv_clP 1 TX1 6 := ⟨tyX1, tyX1_ok, nmX1, by decide +kernel, rfl, by decide +kernel⟩
theorem mv_cls_2 : mv_clP 2 TX2 6 := ⟨tyX2, tyX2_ok, nmX2, by decide +kernel, rfl, by decide +kernel⟩
theorem mv_cls_3 : mv_clP 3 TX3 4 := ⟨tyX3, tyX3_ok, nmX3, by decide +kernel, rfl, by decide +kernel⟩
theorem mv_cls_4 : mv_clP 4 TX4 2 := ⟨tyX4, tyX4_ok, nmX4, by decide +kernel, rfl, by decide +kernel⟩
theorem mv_cls_5 : mv_clP 5 TX5 5 := ⟨tyX5, tyX5_ok, nmX5, by decide +kernel, rfl, by decide +kernel⟩
theorem mv_cls_6 : mv_clP 6 TX6 10 := ⟨tyX6, tyX6_ok, nmX6, by decide +kernel, rfl, by decide +kernel⟩
theorem mv_cls_7 : mv_clP 7 TX7 7 := ⟨tyX7, tyX7_ok, nmX7, by decide +kernel, rfl, by decide +kernel⟩
theorem mv_cls_8 : mv_clP 8 TX8 2 := ⟨tyX8, tyX8_ok, nmX8, by decide +kernel, rfl, by decide +kernel⟩
theorem mv_cls_9 : mv_clP 9 TX9 2 := ⟨tyX9, tyX9_ok, nmX9, by decide +kernel, rfl, by decide +kernel⟩
theorem mv_cls_10 : mv_clP 10 TX10 8 := ⟨tyX10, tyX10_ok, nmX10, by decide +kernel, rfl, by decide +kernel⟩
theorem mv_cls_11 : mv_clP 11 TX11 39 := ⟨tyX11, tyX11_ok, nmX11, by decide +kernel, rfl, by decide +kernel⟩
theorem mv_clA {ci : Nat} {C : String} {T : u_T} {N : Nat} (h : vwCl[ci]? = some (C, T, N)) : mv_clP ci T N := by
  match ci, h with
  | 0, h => cases h; exact mv_cls_0
  | 1, h => cases h; exact mv_cls_1
  | 2, h => cases h; exact mv_cls_2
  | 3, h => cases h; exact mv_cls_3
  | 4, h => cases h; exact mv_cls_4
  | 5, h => cases h; exact mv_cls_5
  | 6, h => cases h; exact mv_cls_6
  | 7, h => cases h; exact mv_cls_7
  | 8, h => cases h; exact mv_cls_8
  | 9, h => cases h; exact mv_cls_9
  | 10, h => cases h; exact mv_cls_10
  | 11, h => cases h; exact mv_cls_11
  | k + 12, h => simp [vwCl] at h
theorem mv_vok_sp {ci k N : Nat} {T : u_T} {ad : Nat → Nat} {x : Value} {ty0 : Nat → FieldType} (h3 : ∀ k, k < N → ((mv_ft.getD ci []).getD k false = true → ty0 k = .int) ∧ ((mv_ft.getD ci []).getD k true = false → mv_isR (ty0 k) = true)) (hk : k < N) (hx : mv_vok ci k x = true) : narrow (ty0 k) (mv_cv ad x) = mv_cv ad x ∧ fits (ty0 k) (mv_cv ad x) = true := by
  cases x with
  | int v =>
    have e := (h3 k hk).1 hx
    rw [e]; exact ⟨rfl, rfl⟩
  | ref a =>
    have e := (h3 k hk).2 (by simpa [mv_vok] using hx)
    cases ht : ty0 k <;> rw [ht] at e <;> first | exact ⟨rfl, rfl⟩ | (simp [mv_isR] at e)
  | _ => simp [mv_vok] at hx
theorem mv_he {ad cK : Nat → Nat} {S : mv_S} {q : Nat} {c1 : mv_C} (h : q < S.1) (h1 : S.2.2 q = c1) : (mv_ws ad cK S)[q]? = some (ad q, mv_ce ad cK c1) := by rw [mv_ws_at h, h1]
theorem mv_fl_0 {own ci k pos idx j : Nat} {C : String} {T : u_T} {N : Nat} (h : mv_fl[j]? = some (own, idx, ci, k, pos, 0)) (hv : vwCl[ci]? = some (C, T, N)) : ¬ lw_tbl[pos]? = some (Cond.fieldLinkNest (mv_own own) idx (T k).1 (T k).2.1 (T k).2.2.1 "HueAndCry") := by
  have h1 := List.all_eq_true.mp mv_fl_ok _ (List.mem_of_getElem? h)
  simp only [mv_flok, hv, Bool.and_eq_true, decide_eq_true_eq] at h1
  have h2 := h1.2
  simp only [show Nat.beq 0 0 = true from rfl, cond_true, decide_eq_true_eq] at h2
  rw [h2]
  exact fun h => by cases h
theorem mv_nb {y : Int32} (h : y = 0 ∨ y = 1) : narrow .boolean (.int y) = .int y := by rcases h with rfl | rfl <;> rfl
theorem mv_cnA : ∀ {a : Nat}, a < 12 → ∃ (T : u_T) (N : Nat), vwCl[a]? = some (mv_own a, T, N)
  | 0, _ => ⟨TX0, 7, rfl⟩
  | 1, _ => ⟨TX1, 6, rfl⟩
  | 2, _ => ⟨TX2, 6, rfl⟩
  | 3, _ => ⟨TX3, 4, rfl⟩
  | 4, _ => ⟨TX4, 2, rfl⟩
  | 5, _ => ⟨TX5, 5, rfl⟩
  | 6, _ => ⟨TX6, 10, rfl⟩
  | 7, _ => ⟨TX7, 7, rfl⟩
  | 8, _ => ⟨TX8, 2, rfl⟩
  | 9, _ => ⟨TX9, 2, rfl⟩
  | 10, _ => ⟨TX10, 8, rfl⟩
  | 11, _ => ⟨TX11, 39, rfl⟩
  | k + 12, h => absurd h (by omega)
theorem mv_inst1 : ∀ (a : Nat) (T : u_T) (N : Nat), a < 12 → vwCl[a]? = some (mv_own a, T, N) → Cond.instantiable (mv_own a) N ∈ mv_TB
  | 0, _, _, _, h => by cases h; exact mv_TB_of (i := 271) (by decide +kernel) rfl
  | 1, _, _, _, h => by cases h; exact mv_TB_of (i := 83) (by decide +kernel) rfl
  | 2, _, _, _, h => by cases h; exact mv_TB_of (i := 264) (by decide +kernel) rfl
  | 3, _, _, _, h => by cases h; exact mv_TB_of (i := 214) (by decide +kernel) rfl
  | 4, _, _, _, h => by cases h; exact mv_TB_of (i := 220) (by decide +kernel) rfl
  | 5, _, _, _, h => by cases h; exact mv_TB_of (i := 138) (by decide +kernel) rfl
  | 6, _, _, _, h => by cases h; exact mv_TB_of (i := 89) (by decide +kernel) rfl
  | 7, _, _, _, h => by cases h; exact mv_TB_of (i := 77) (by decide +kernel) rfl
  | 8, _, _, _, h => by cases h; exact mv_TB_of (i := 321) (by decide +kernel) rfl
  | 9, _, _, _, h => by cases h; exact mv_TB_of (i := 248) (by decide +kernel) rfl
  | 10, _, _, _, h => by cases h; exact mv_TB_of (i := 69) (by decide +kernel) rfl
  | 11, _, _, _, h => by cases h; exact mv_TB_of (i := 860) (by decide +kernel) rfl
  | k + 12, _, _, h, _ => absurd h (by omega)
theorem mv_inst {a : Nat} {T : u_T} {N : Nat} (h0 : a < 12) (hv : vwCl[a]? = some (mv_own a, T, N)) : Cond.instantiable (mv_own a) N ∈ mv_TB := mv_inst1 a T N h0 hv
theorem mv_ini {C : String} (h : Cond.initialized C ∈ (lw_tbl.drop 44).take 24) : Cond.initialized C ∈ mv_TB := List.mem_filter.mpr ⟨List.mem_of_mem_drop (List.mem_of_mem_take h), rfl⟩
theorem mv_ac_int : Cond.arrayClass (newarray.typeOf .int) ∈ mv_TB := mv_TB_of (i := 135) (by decide +kernel) rfl
theorem mv_ac_boolean : Cond.arrayClass (newarray.typeOf .boolean) ∈ mv_TB := mv_TB_of (i := 136) (by decide +kernel) rfl
theorem mv_ac_long : Cond.arrayClass (newarray.typeOf .long) ∈ mv_TB := mv_TB_of (i := 189) (by decide +kernel) rfl
theorem mv_df_cv {ad : Nat → Nat} {a j : Nat} : vp_V (mv_df a) j = vp_V ((mv_df a).map (mv_cv ad)) j := by
  unfold mv_df vp_V
  congr 1
  rw [List.map_map]
  apply List.map_congr_left
  intro b _
  cases b <;> rfl
theorem mv_cnt {p : Program} {l : Launch} {e : Env} {R : Room} {s : State} {m : MethodId} {args : Array Value} {below : List Frame} {meth : Method} {c : Code} {H : Heap} {locs : List Loc} {k k1 n n1 : Nat} {Q : State → Prop} {g : JFrame} (h1 : k = k1) (h2 : n = n1) (w : W p l e R s m args below meth c H locs k1 n1 Q g) : W p l e R s m args below meth c H locs k n Q g := by rw [h1, h2]; exact w
section MVH
variable {p : Program} {l : Launch} {e : Env} {R : Room} {s : State} {m : MethodId} {args : Array Value} {below : List Frame} {meth : Method} {c : Code} {Q : State → Prop} {D : va_G} {ad adV cK : Nat → Nat} {A : Nat → Prop} {own : Nat} {ini : Bool} {cc : ByteArray} {P : List (Nat × mv_I)} {nL n0 n1 s0 kx ks nM sM d : Nat} {rt : Option FieldType} {Rn : Nat → List Value → mv_S → Option Value → mv_S → Prop} {r0 : Option Value} {S0 : mv_S}
theorem mv_s_getfield (X : mv_Cx p R s m args meth c D ad adV cK A own ini cc P nL n0 n1 s0 kx ks nM sM d) : mv_R_getfield P rt Rn nM sM r0 S0 (mv_V p l e R s m args below meth c Q D ad cK A nL n0 n1 s0 kx ks nM sM) := by
  obtain ⟨hx, hb, hml, hown, hts, hN, hK, hA, hok, had, hin, hT, hRc, hRs, hRf, hRl, hnn, hAO⟩ := X
  intro pc nx a b v ls st S n q fs x h g0 g1 g2 kk H locs la hP hD hS hz hn hs hM hM2 hl
  obtain ⟨hd, rfl⟩ := mv_dec hok h 3 rfl rfl
  have hc := mv_ckd hok h
  cases v with
  | ref j =>
    simp only [mv_ck2] at hc
    cases hj : mv_fl[j]? with
    | none => rw [hj] at hc; simp at hc
    | some t =>
      obtain ⟨ow, idx, ci, k, pos, nest⟩ := t
      rw [hj] at hc
      simp only [decide_eq_true_eq] at hc
      obtain ⟨rfl, rfl, rfl, rfl⟩ := hc
      obtain ⟨C, T, N, hv, hk, hlk⟩ := mv_fl_at hj
      have he : (mv_ws ad cK S)[q]? = some (ad q, .inr (ci, fs.map (mv_cv ad))) := mv_he g0 g1
      have hx1 : (fs.map (mv_cv ad))[k]? = some (mv_cv ad x) := by rw [List.getElem?_map, g2]; rfl
      rcases hlk with ⟨-, hlk⟩ | hlk
      · exact va_get hx hb hts (mv_uws hv) hown hK hP q he hv k hk (hts _ (mv_TB_of hlk rfl)) (fun _ h9 => h9) hx1 hd (kk H locs la hP hD hS hz hn hs hM hM2 hl)
      · exact va_getN hx hb hts (mv_uws hv) hown hK hP q he hv k hk (va_Nw.use rfl (hN _ (mv_NB_of hlk rfl))) (fun _ h9 => h9) hx1 hd (kk H locs la hP hD hS hz hn hs hM hM2 hl)
  | _ => simp [mv_ck2] at hc
theorem mv_put_end {S : mv_S} {H H' : Heap} {locs : List Loc} {q ci k N : Nat} {C : String} {T : u_T} {fs : List Value} {x : Value} {cell : Cell} {f : Field} (hts : ∀ w ∈ mv_TB, w.before args s = true) (hK : va_K D vwCl (mv_tys cK) s) (hP : va_P D vwCl (mv_ws ad cK S) H) (hD : va_D A (mv_ws ad cK S)) (hS : va_S A s.heap H locs) (hv : vwCl[ci]? = some (C, T, N)) (hk : k < N) (g0 : q < S.1) (g1 : S.2.2 q = .inr (ci, fs)) (g2 : k < fs.length)
    (q2 : cell.cls = D.1 ci) (q3 : cell.vm = .none) (q4 : ∀ j, j < N → cell.slots[D.2 ci j]? = some (vp_V (fs.map (mv_cv ad)) j)) (hsl : f.slot = D.2 ci k) (e1 : H'[ad q]? = some (cell.setSlot f.slot (mv_cv ad x))) (e2 : H'.size = H.size) (e3 : ∀ a, a ≠ ad q → H'[a]? = H[a]?) :
    va_P D vwCl (mv_ws ad cK (S.1, S.2.1, va_up S.2.2 q (.inr (ci, fs.set k x)))) H' ∧ va_D A (mv_ws ad cK (S.1, S.2.1, va_up S.2.2 q (.inr (ci, fs.set k x)))) ∧ va_S A s.heap H' (locs ++ [⟨ad q, f.slot⟩]) := by
  have he : (mv_ws ad cK S)[q]? = some (ad q, .inr (ci, fs.map (mv_cv ad))) := mv_he g0 g1
  obtain ⟨ty0, t1, t2, -, -⟩ := mv_clA hv
  have hap := va_apart (own := C) hts (mv_uws hv) ty0 t1 t2 hK hv
  have hw : mv_ws ad cK (S.1, S.2.1, va_up S.2.2 q (.inr (ci, fs.set k x))) = (mv_ws ad cK S).set q (ad q, .inr (ci, (fs.map (mv_cv ad)).set k (mv_cv ad x))) := by
    rw [← mv_ws_set g0]
    simp only [mv_ce, List.map_set]
  rw [hsl] at e1
  refine ⟨?_, ?_, hS.put e2 e3 (hD.2 q _ he)⟩
  · rw [hw]
    exact hP.set hD he ⟨_, hv, t_OB.to (V := updV (vp_V (fs.map (mv_cv ad))) k (mv_cv ad x)) ⟨_, e1, q2, q3, t_set q4 hap hk (mv_cv ad x)⟩ (fun j _ => vp_updV_set (by rw [List.length_map]; exact g2) (mv_cv ad x) j)⟩ e3
  · rw [hw]
    exact hD.set he
theorem mv_s_putfield (X : mv_Cx p R s m args meth c D ad adV cK A own ini cc P nL n0 n1 s0 kx ks nM sM d) : mv_R_putfield P rt Rn nM sM r0 S0 (mv_V p l e R s m args below meth c Q D ad cK A nL n0 n1 s0 kx ks nM sM) := by
  obtain ⟨hx, hb, hml, hown, hts, hN, hK, hA, hok, had, hin, hT, hRc, hRs, hRf, hRl, hnn, hAO⟩ := X
  intro pc nx a b v ls st S n q fs x h g0 g1 g2 g3 kk H locs la hP hD hS hz hn hs hM hM2 hl
  obtain ⟨hd, rfl⟩ := mv_dec hok h 3 rfl rfl
  have hc := mv_ckd hok h
  cases v with
  | ref j =>
    simp only [mv_ck2] at hc
    split at hc
    · rename_i ow idx ci k pos nest C T N hj hv0
      simp only [Bool.and_eq_true, decide_eq_true_eq, Bool.or_eq_true] at hc
      obtain ⟨⟨rfl, rfl, rfl, rfl⟩, hfin⟩ := hc
      obtain ⟨C2, T2, N2, hv, hk, hlk⟩ := mv_fl_at hj
      have e0 := Option.some.inj (hv0.symm.trans hv)
      cases e0
      obtain ⟨ty0, t1, t2, t3, -⟩ := mv_clA hv
      have hnf := mv_vok_sp (T := T) (ad := ad) t3 hk g3
      have he : (mv_ws ad cK S)[q]? = some (ad q, .inr (ci, fs.map (mv_cv ad))) := mv_he g0 g1
      obtain ⟨r, h1, cell, q1, q2, q3, q4⟩ := hP q _ he
      have hr : r = (C, T, N) := Option.some.inj (h1.symm.trans hv)
      subst hr
      obtain ⟨hSl, hfc, kC, hkC, hkind⟩ := hK.1 ci _ hv
      obtain ⟨cf, kf, fi, f, hi, hsl⟩ := hSl k hk
      have hin := mv_uws hv
      have hlay := hts _ (hin _ (u_in_lay hk))
      have hst := (u_facts hfc hkC (u_lays hts hin hk) hi).1
      have hlt : f.slot < cell.slots.size := by rw [hsl]; exact k2_hasslot (q4 k hk)
      have go : ∀ H' : Heap, H'[ad q]? = some (cell.setSlot f.slot (mv_cv ad x)) → H'.size = H.size → (∀ a, a ≠ ad q → H'[a]? = H[a]?) → W p l e R s m args below meth c H' (locs ++ [⟨ad q, f.slot⟩]) (S.1 - n0 + kx) (S.2.1 - s0 + ks) Q (F0 m (pc + 3) la (st.map (mv_cv ad))) := by
        intro H' e1 e2 e3
        obtain ⟨a1, a2, a3⟩ := mv_put_end hts hK hP hD hS hv hk g0 g1 g2 q2 q3 q4 hsl e1 e2 e3
        exact kk H' _ la a1 a2 a3 (by rw [e2]; exact hz) hn hs hM hM2 hl
      cases hf : (T k).2.2.2 with
      | false =>
        unfold u_lay at hlay
        rw [if_neg (by rw [hf]; decide)] at hlay
        have h6 := u_store hfc hkC hkind hlay hi (t1 k hk) hnf.1 hnf.2
        rcases hlk with ⟨-, hlk⟩ | hlk
        · exact W.putK hx hb (f := f) ⟨hown, hts _ (mv_TB_of hlk rfl), ⟨_, _, _, hi⟩, hst⟩ (by rw [q2]; exact h6) q1 q3 hlt rfl rfl hd go
        · exact va_WputK hx hb (f := f) hown (va_Nw.use rfl (hN _ (mv_NB_of hlk rfl))) hi hst (by rw [q2]; exact h6) q1 q3 hlt rfl rfl hd go
      | true =>
        rw [hf] at hfin
        simp only [Bool.true_eq_false, false_or] at hfin
        obtain ⟨⟨hini, hne⟩, hdecl⟩ := hfin
        rcases hlk with ⟨-, hlk⟩ | hlk
        · unfold u_lay at hlay
          rw [if_pos hf] at hlay
          have hcf : m.cls = cf := by
            obtain ⟨_, _, c', _, _, _, -, -, hf', -, -, -, hown2, -⟩ := Cond.laysFinal_spec hlay
            have e1 : c' = cf := by have := hi.symm.trans hf'; simp at this; exact this.1.symm
            rw [hdecl] at hown2
            rw [← e1]; exact Option.some.inj (hown.symm.trans hown2)
          have h6 := u_fits hfc hkC hkind (Or.inr hlay) hi (t1 k hk) hnf.1 hnf.2
          exact W.putFinK hx hb hown (hts _ (mv_TB_of hlk rfl)) hi hst hcf (‹ini = true → meth.name = "<init>"› hini) (by rw [q2]; exact h6) q1 q3 hlt rfl rfl hd go
        · obtain ⟨C1, T1, N1, hv1, hk1, hlk1⟩ := mv_fl_at hj
          exact absurd hlk (by
            have e1 := Option.some.inj (hv1.symm.trans hv)
            cases e1
            subst hne
            rcases hlk1 with ⟨-, q⟩ | q
            · rw [q]; exact fun h => by cases h
            · exact absurd q (mv_fl_0 hj hv))
    · simp at hc
  | _ => simp [mv_ck2] at hc
theorem mv_s_iaload (X : mv_Cx p R s m args meth c D ad adV cK A own ini cc P nL n0 n1 s0 kx ks nM sM d) : mv_R_iaload P rt Rn nM sM r0 S0 (mv_V p l e R s m args below meth c Q D ad cK A nL n0 n1 s0 kx ks nM sM) := by
  obtain ⟨hx, hb, hml, hown, hts, hN, hK, hA, hok, had, hin, hT, hRc, hRs, hRf, hRl, hnn, hAO⟩ := X
  intro pc nx a b v ls st S q len f x h g0 g1 g2 kk H locs la hP hD hS hz hn hs hM hM2 hl
  obtain ⟨hd, rfl⟩ := mv_dec hok h 1 rfl rfl
  have he : (mv_ws ad cK S)[q]? = some (ad q, .inl (cK 0, len, .inl f)) := mv_he g0 g1
  exact va_iald hx hb hK hP q 0 he rfl g2 hd (kk H locs la hP hD hS hz hn hs hM hM2 hl)
theorem mv_s_baload (X : mv_Cx p R s m args meth c D ad adV cK A own ini cc P nL n0 n1 s0 kx ks nM sM d) : mv_R_baload P rt Rn nM sM r0 S0 (mv_V p l e R s m args below meth c Q D ad cK A nL n0 n1 s0 kx ks nM sM) := by
  obtain ⟨hx, hb, hml, hown, hts, hN, hK, hA, hok, had, hin, hT, hRc, hRs, hRf, hRl, hnn, hAO⟩ := X
  intro pc nx a b v ls st S q len f x h g0 g1 g2 kk H locs la hP hD hS hz hn hs hM hM2 hl
  obtain ⟨hd, rfl⟩ := mv_dec hok h 1 rfl rfl
  have he : (mv_ws ad cK S)[q]? = some (ad q, .inl (cK 1, len, .inl f)) := mv_he g0 g1
  exact va_zald hx hb hK hP q 1 he rfl g2 hd (kk H locs la hP hD hS hz hn hs hM hM2 hl)
theorem mv_s_laload (X : mv_Cx p R s m args meth c D ad adV cK A own ini cc P nL n0 n1 s0 kx ks nM sM d) : mv_R_laload P rt Rn nM sM r0 S0 (mv_V p l e R s m args below meth c Q D ad cK A nL n0 n1 s0 kx ks nM sM) := by
  obtain ⟨hx, hb, hml, hown, hts, hN, hK, hA, hok, had, hin, hT, hRc, hRs, hRf, hRl, hnn, hAO⟩ := X
  intro pc nx a b v ls st S q len f x h g0 g1 g2 kk H locs la hP hD hS hz hn hs hM hM2 hl
  obtain ⟨hd, rfl⟩ := mv_dec hok h 1 rfl rfl
  have he : (mv_ws ad cK S)[q]? = some (ad q, .inl (cK 2, len, .inr (.inl f))) := mv_he g0 g1
  exact va_lald hx hb hK hP q 2 he rfl g2 hd (kk H locs la hP hD hS hz hn hs hM hM2 hl)
theorem mv_s_aaload (X : mv_Cx p R s m args meth c D ad adV cK A own ini cc P nL n0 n1 s0 kx ks nM sM d) : mv_R_aaload P rt Rn nM sM r0 S0 (mv_V p l e R s m args below meth c Q D ad cK A nL n0 n1 s0 kx ks nM sM) := by
  obtain ⟨hx, hb, hml, hown, hts, hN, hK, hA, hok, had, hin, hT, hRc, hRs, hRf, hRl, hnn, hAO⟩ := X
  intro pc nx a b v ls st S q len y f x h g0 g1 g2 g3 kk H locs la hP hD hS hz hn hs hM hM2 hl
  obtain ⟨hd, rfl⟩ := mv_dec hok h 1 rfl rfl
  have he : (mv_ws ad cK S)[q]? = some (ad q, .inl (cK 3, len, .inr (.inr (.inr (.inr (fun i => (f i).map ad)))))) := mv_he g0 g1
  refine va_aldq hx hb hK hP q 3 he rfl g2 hd ?_
  rw [g3]
  exact kk H locs la hP hD hS hz hn hs hM hM2 hl
theorem mv_s_iastore (X : mv_Cx p R s m args meth c D ad adV cK A own ini cc P nL n0 n1 s0 kx ks nM sM d) : mv_R_iastore P rt Rn nM sM r0 S0 (mv_V p l e R s m args below meth c Q D ad cK A nL n0 n1 s0 kx ks nM sM) := by
  obtain ⟨hx, hb, hml, hown, hts, hN, hK, hA, hok, had, hin, hT, hRc, hRs, hRf, hRl, hnn, hAO⟩ := X
  intro pc nx a b v ls st S q len f x y h g0 g1 g2 kk H locs la hP hD hS hz hn hs hM hM2 hl
  obtain ⟨hd, rfl⟩ := mv_dec hok h 1 rfl rfl
  have he : (mv_ws ad cK S)[q]? = some (ad q, .inl (cK 0, len, .inl f)) := mv_he g0 g1
  refine W.iast hx hb (hP q _ he) ((hK.2 0 _ rfl).1 len (fun j => .int (f j))) (fun q => by cases q) (by show ¬ (x < 0 ∨ (arrV _ _ _).slots.size ≤ _); rw [arrV_size]; exact g2) rfl rfl hd fun H1 e1 z1 oq => ?_
  have hw : mv_ws ad cK (S.1, S.2.1, va_up S.2.2 q (.inl (0, len, .inl (upd f x.toNatClampNeg y)))) = (mv_ws ad cK S).set q (ad q, .inl (cK 0, len, .inl (upd f x.toNatClampNeg y))) := by
    rw [← mv_ws_set g0]; rfl
  refine kk H1 _ la ?_ ?_ (hS.put z1 oq (hD.2 q _ he)) (by rw [z1]; exact hz) hn hs hM hM2 hl
  · rw [hw]
    refine hP.set hD he ?_ oq
    show H1[ad q]? = some (vp_cell _ _)
    rw [e1]
    rw [vp_cell_i, vp_cell_i, arrV_store]
    congr 2
    funext k
    by_cases hq : k = x.toNatClampNeg
    · subst hq
      simp [updV, upd]
    · simp [updV, upd, hq]
  · rw [hw]
    exact hD.set he
theorem mv_s_bastore (X : mv_Cx p R s m args meth c D ad adV cK A own ini cc P nL n0 n1 s0 kx ks nM sM d) : mv_R_bastore P rt Rn nM sM r0 S0 (mv_V p l e R s m args below meth c Q D ad cK A nL n0 n1 s0 kx ks nM sM) := by
  obtain ⟨hx, hb, hml, hown, hts, hN, hK, hA, hok, had, hin, hT, hRc, hRs, hRf, hRl, hnn, hAO⟩ := X
  intro pc nx a b v ls st S q len f x y h g0 g1 g2 g3 kk H locs la hP hD hS hz hn hs hM hM2 hl
  obtain ⟨hd, rfl⟩ := mv_dec hok h 1 rfl rfl
  have he : (mv_ws ad cK S)[q]? = some (ad q, .inl (cK 1, len, .inl f)) := mv_he g0 g1
  refine W.zast hx hb (hP q _ he) ((hK.2 1 _ rfl).1 len (fun j => .int (f j))) (fun q => by cases q) (by show ¬ (x < 0 ∨ (arrV _ _ _).slots.size ≤ _); rw [arrV_size]; exact g2) rfl rfl hd fun H1 e1 z1 oq => ?_
  have hw : mv_ws ad cK (S.1, S.2.1, va_up S.2.2 q (.inl (1, len, .inl (upd f x.toNatClampNeg y)))) = (mv_ws ad cK S).set q (ad q, .inl (cK 1, len, .inl (upd f x.toNatClampNeg y))) := by
    rw [← mv_ws_set g0]; rfl
  refine kk H1 _ la ?_ ?_ (hS.put z1 oq (hD.2 q _ he)) (by rw [z1]; exact hz) hn hs hM hM2 hl
  · rw [hw]
    refine hP.set hD he ?_ oq
    show H1[ad q]? = some (vp_cell _ _)
    rw [e1, mv_nb g3]
    rw [vp_cell_i, vp_cell_i, arrV_store]
    congr 2
    funext k
    by_cases hq : k = x.toNatClampNeg
    · subst hq
      simp [updV, upd]
    · simp [updV, upd, hq]
  · rw [hw]
    exact hD.set he
theorem mv_s_lastore (X : mv_Cx p R s m args meth c D ad adV cK A own ini cc P nL n0 n1 s0 kx ks nM sM d) : mv_R_lastore P rt Rn nM sM r0 S0 (mv_V p l e R s m args below meth c Q D ad cK A nL n0 n1 s0 kx ks nM sM) := by
  obtain ⟨hx, hb, hml, hown, hts, hN, hK, hA, hok, had, hin, hT, hRc, hRs, hRf, hRl, hnn, hAO⟩ := X
  intro pc nx a b v ls st S q len f x y h g0 g1 g2 kk H locs la hP hD hS hz hn hs hM hM2 hl
  obtain ⟨hd, rfl⟩ := mv_dec hok h 1 rfl rfl
  have he : (mv_ws ad cK S)[q]? = some (ad q, .inl (cK 2, len, .inr (.inl f))) := mv_he g0 g1
  refine W.last hx hb (hP q _ he) ((hK.2 2 _ rfl).1 len (fun j => .long (f j))) (fun q => by cases q) (by show ¬ (x < 0 ∨ (arrV _ _ _).slots.size ≤ _); rw [arrV_size]; exact g2) rfl rfl hd fun H1 e1 z1 oq => ?_
  have hw : mv_ws ad cK (S.1, S.2.1, va_up S.2.2 q (.inl (2, len, .inr (.inl (vp_updL f x.toNatClampNeg y))))) = (mv_ws ad cK S).set q (ad q, .inl (cK 2, len, .inr (.inl (vp_updL f x.toNatClampNeg y)))) := by
    rw [← mv_ws_set g0]; rfl
  refine kk H1 _ la ?_ ?_ (hS.put z1 oq (hD.2 q _ he)) (by rw [z1]; exact hz) hn hs hM hM2 hl
  · rw [hw]
    refine hP.set hD he ?_ oq
    show H1[ad q]? = some (vp_cell _ _)
    rw [e1]
    rw [vp_cell_l, vp_cell_l, arrV_store]
    congr 2
    funext k
    by_cases hq : k = x.toNatClampNeg
    · subst hq
      simp [updV, vp_updL]
    · simp [updV, vp_updL, hq]
  · rw [hw]
    exact hD.set he
theorem mv_s_aastore (X : mv_Cx p R s m args meth c D ad adV cK A own ini cc P nL n0 n1 s0 kx ks nM sM d) : mv_R_aastore P rt Rn nM sM r0 S0 (mv_V p l e R s m args below meth c Q D ad cK A nL n0 n1 s0 kx ks nM sM) := by
  obtain ⟨hx, hb, hml, hown, hts, hN, hK, hA, hok, had, hin, hT, hRc, hRs, hRf, hRl, hnn, hAO⟩ := X
  intro pc nx a b v ls st S q len y f x fs h g0 g1 g2 g3 g4 kk H locs la hP hD hS hz hn hs hM hM2 hl
  obtain ⟨hd, rfl⟩ := mv_dec hok h 1 rfl rfl
  have he : (mv_ws ad cK S)[q]? = some (ad q, .inl (cK 3, len, .inr (.inr (.inr (.inr (fun i => (f i).map ad)))))) := mv_he g0 g1
  have hv : (mv_ws ad cK S)[y]? = some (ad y, .inr (0, fs.map (mv_cv ad))) := mv_he g3 g4
  have hc : vwCl[0]? = some (RX0, TX0, 7) := rfl
  have hlt : x.toNatClampNeg < len := Nat.not_le.mp fun w => g2 (Or.inr w)
  have h0 : ¬ x < 0 := fun w => g2 (Or.inl w)
  obtain ⟨r1, hr1, cellV, q1, q2, q3, -⟩ := hP y _ hv
  have hcls := (hK.1 0 _ hc).2
  obtain ⟨kA, comp, k1, k2, k3, -⟩ := (hK.2 3 _ rfl).2
  have hcomp : comp = D.1 0 := Option.some.inj (k3.symm.trans hcls.1)
  subst hcomp
  obtain ⟨kC, hkC, -⟩ := hcls.2
  refine W.aast hx hb (hP q _ he) (fun q h => by cases h) (fun h => by cases h) k1 k2 rfl hkC ⟨h0, by show _ < (arrV _ _ _).slots.size; rw [arrV_size]; exact hlt⟩ q1 (fun q h => by rw [q3] at h; cases h) (by rw [q2]; exact hkC) (by rw [q2]; exact va_assign hcls) rfl rfl hd fun H1 e1 z1 oq => ?_
  have hw : mv_ws ad cK (S.1, S.2.1, va_up S.2.2 q (.inl (3, len, .inr (.inr (.inr (.inr (va_up f x.toNatClampNeg (some y)))))))) = (mv_ws ad cK S).set q (ad q, .inl (cK 3, len, .inr (.inr (.inr (.inr (fun i => (va_up f x.toNatClampNeg (some y) i).map ad)))))) := by
    rw [← mv_ws_set g0]; rfl
  refine kk H1 _ la ?_ ?_ (hS.put z1 oq (hD.2 q _ he)) (by rw [z1]; exact hz) hn hs hM hM2 hl
  · rw [hw]
    refine hP.set hD he ?_ oq
    show H1[ad q]? = some (vp_cell _ _)
    rw [e1]
    rw [vp_cell_q, vp_cell_q, arrV_store]
    congr 2
    funext k
    by_cases hq : k = x.toNatClampNeg
    · subst hq
      simp [updV, va_up, va_rf]
    · simp [updV, va_up, hq]
  · rw [hw]
    exact hD.set he
theorem mv_s_new (X : mv_Cx p R s m args meth c D ad adV cK A own ini cc P nL n0 n1 s0 kx ks nM sM d) : mv_R_new P rt Rn nM sM r0 S0 (mv_V p l e R s m args below meth c Q D ad cK A nL n0 n1 s0 kx ks nM sM) := by
  obtain ⟨hx, hb, hml, hown, hts, hN, hK, hA, hok, had, hin, hT, hRc, hRs, hRf, hRl, hnn, hAO⟩ := X
  intro pc nx a b v ls st S n h g0 g1 kk H locs la hP hD hS hz hn hs hM hM2 hl
  obtain ⟨hd, rfl⟩ := mv_dec hok h 3 rfl rfl
  have hc := mv_ckd hok h
  simp only [mv_ck2, Bool.and_eq_true, decide_eq_true_eq] at hc
  obtain ⟨⟨ha, hcl⟩, hini⟩ := hc
  obtain ⟨T, N, hv⟩ : ∃ (T : u_T) (N : Nat), vwCl[a]? = some (mv_own a, T, N) := mv_cnA ha
  obtain ⟨ty0, t1, t2, t3, t4, t5⟩ := mv_clA hv
  have h9 := had S.1 hn (by omega)
  obtain ⟨hk0, had9⟩ := h9
  subst hk0
  have hz := hz rfl
  have hadS : ad S.1 = H.size := by omega
  have hKn := hK.1 a _ hv
  rw [t4] at g1 kk
  refine W.newcK hx hb hown (hts _ (mv_TB_of hcl rfl)) (hts _ (mv_inst ha hv)) (hts _ (mv_ini hini)) rfl hd (by omega) (by omega) hKn.2.1 rfl fun H1 kC hkC e1 z1 o1 => ?_
  have hkp : ∀ (k : Nat) (x : Nat × va_E), (mv_ws ad cK S)[k]? = some x → H1[x.1]? = H[x.1]? := fun k x hx => o1 x.1 ((hP k x hx).lt)
  have hws := mv_ws_push (ad := ad) (cK := cK) (S := S) (.inr (a, mv_df a)) (S.2.1 + N)
  have hP1 : va_P D vwCl (mv_ws ad cK (S.1 + 1, S.2.1 + N, va_up S.2.2 S.1 (.inr (a, mv_df a)))) H1 := by
    rw [hws, hadS]
    refine (hP.kept hkp).app (fun k x hx => ?_)
    have hz1 : k < 1 := (List.getElem?_eq_some_iff.mp hx).1
    rw [show k = 0 by omega] at hx
    cases hx
    refine ⟨_, hv, (u_born ty0 hts (mv_uws hv) hKn hkC e1 t1).to (fun j hj => ?_)⟩
    rw [t5 j hj, mv_df_cv]
  have hD1 : va_D A (mv_ws ad cK (S.1 + 1, S.2.1 + N, va_up S.2.2 S.1 (.inr (a, mv_df a)))) := by
    rw [hws]
    exact hD.push hP hadS (by rw [hadS]; exact hA _ hS.1)
  have hS1 : va_S A s.heap H1 locs := ⟨Nat.le_trans hS.1 (by omega), fun x h1 h2 => (o1 x (Nat.lt_of_lt_of_le h1 hS.1)).trans (hS.2.1 x h1 h2), hS.2.2⟩
  have := kk H1 locs la hP1 hD1 hS1 (fun _ => by show H1.size + n0 = s.heap.size + (S.1 + 1); omega) (by show n1 ≤ S.1 + 1; omega) (by show s0 ≤ S.2.1 + N; omega) (by show S.1 + 1 ≤ nM; omega) (by show S.2.1 + N ≤ sM; omega) hl
  rw [← hadS]
  refine mv_cnt ?_ ?_ this
  · show S.1 - n0 + 0 + 1 = S.1 + 1 - n0 + 0; omega
  · show S.2.1 - s0 + ks + N = S.2.1 + N - s0 + ks; omega
theorem mv_s_new_int (X : mv_Cx p R s m args meth c D ad adV cK A own ini cc P nL n0 n1 s0 kx ks nM sM d) : mv_R_new_int P rt Rn nM sM r0 S0 (mv_V p l e R s m args below meth c Q D ad cK A nL n0 n1 s0 kx ks nM sM) := by
  obtain ⟨hx, hb, hml, hown, hts, hN, hK, hA, hok, had, hin, hT, hRc, hRs, hRf, hRl, hnn, hAO⟩ := X
  intro pc nx a b v ls st S x h g0 g1 g2 kk H locs la hP hD hS hz hn hs hM hM2 hl
  obtain ⟨hd, rfl⟩ := mv_dec hok h 2 rfl rfl
  have h9 := had S.1 hn (by omega)
  obtain ⟨hk0, had9⟩ := h9
  subst hk0
  have hz := hz rfl
  have hadS : ad S.1 = H.size := by omega
  refine va_newaK hx hb (hts _ mv_ac_int) rfl hd rfl (nI_pos (by omega)) (nI_clamp (by omega)) (by simp [newarray.typeOf, componentBytes]; omega) (by omega) (by omega) rfl fun H1 cA e1 z1 o1 hAr hNm => ?_
  have hcA : cA = cK 0 := Option.some.inj (hNm.symm.trans (hK.2 0 _ rfl).2)
  subst hcA
  have hkp : ∀ (k : Nat) (x : Nat × va_E), (mv_ws ad cK S)[k]? = some x → H1[x.1]? = H[x.1]? := fun k x hx => o1 x.1 ((hP k x hx).lt)
  have hws := mv_ws_push (ad := ad) (cK := cK) (S := S) (.inl (0, x, .inl (fun _ => 0))) (S.2.1 + x)
  have hP1 : va_P D vwCl (mv_ws ad cK (S.1 + 1, S.2.1 + x, va_up S.2.2 S.1 (.inl (0, x, .inl (fun _ => 0))))) H1 := by
    rw [hws, hadS]
    refine (hP.kept hkp).app (fun k x hx => ?_)
    have hz1 : k < 1 := (List.getElem?_eq_some_iff.mp hx).1
    rw [show k = 0 by omega] at hx
    cases hx
    show H1[H.size]? = some (vp_cell _ _)
    exact e1
  have hD1 : va_D A (mv_ws ad cK (S.1 + 1, S.2.1 + x, va_up S.2.2 S.1 (.inl (0, x, .inl (fun _ => 0))))) := by
    rw [hws]
    exact hD.push hP hadS (by rw [hadS]; exact hA _ hS.1)
  have hS1 : va_S A s.heap H1 locs := ⟨Nat.le_trans hS.1 (by omega), fun x h1 h2 => (o1 x (Nat.lt_of_lt_of_le h1 hS.1)).trans (hS.2.1 x h1 h2), hS.2.2⟩
  have := kk H1 locs la hP1 hD1 hS1 (fun _ => by show H1.size + n0 = s.heap.size + (S.1 + 1); omega) (by show n1 ≤ S.1 + 1; omega) (by show s0 ≤ S.2.1 + x; omega) (by show S.1 + 1 ≤ nM; omega) (by show S.2.1 + x ≤ sM; omega) hl
  rw [← hadS]
  refine mv_cnt ?_ ?_ this
  · show S.1 - n0 + 0 + 1 = S.1 + 1 - n0 + 0; omega
  · show S.2.1 - s0 + ks + x = S.2.1 + x - s0 + ks; omega
theorem mv_s_new_boolean (X : mv_Cx p R s m args meth c D ad adV cK A own ini cc P nL n0 n1 s0 kx ks nM sM d) : mv_R_new_boolean P rt Rn nM sM r0 S0 (mv_V p l e R s m args below meth c Q D ad cK A nL n0 n1 s0 kx ks nM sM) := by
  obtain ⟨hx, hb, hml, hown, hts, hN, hK, hA, hok, had, hin, hT, hRc, hRs, hRf, hRl, hnn, hAO⟩ := X
  intro pc nx a b v ls st S x h g0 g1 g2 kk H locs la hP hD hS hz hn hs hM hM2 hl
  obtain ⟨hd, rfl⟩ := mv_dec hok h 2 rfl rfl
  have h9 := had S.1 hn (by omega)
  obtain ⟨hk0, had9⟩ := h9
  subst hk0
  have hz := hz rfl
  have hadS : ad S.1 = H.size := by omega
  refine va_newaK hx hb (hts _ mv_ac_boolean) rfl hd rfl (nI_pos (by omega)) (nI_clamp (by omega)) (by simp [newarray.typeOf, componentBytes]; omega) (by omega) (by omega) rfl fun H1 cA e1 z1 o1 hAr hNm => ?_
  have hcA : cA = cK 1 := Option.some.inj (hNm.symm.trans (hK.2 1 _ rfl).2)
  subst hcA
  have hkp : ∀ (k : Nat) (x : Nat × va_E), (mv_ws ad cK S)[k]? = some x → H1[x.1]? = H[x.1]? := fun k x hx => o1 x.1 ((hP k x hx).lt)
  have hws := mv_ws_push (ad := ad) (cK := cK) (S := S) (.inl (1, x, .inl (fun _ => 0))) (S.2.1 + x)
  have hP1 : va_P D vwCl (mv_ws ad cK (S.1 + 1, S.2.1 + x, va_up S.2.2 S.1 (.inl (1, x, .inl (fun _ => 0))))) H1 := by
    rw [hws, hadS]
    refine (hP.kept hkp).app (fun k x hx => ?_)
    have hz1 : k < 1 := (List.getElem?_eq_some_iff.mp hx).1
    rw [show k = 0 by omega] at hx
    cases hx
    show H1[H.size]? = some (vp_cell _ _)
    exact e1
  have hD1 : va_D A (mv_ws ad cK (S.1 + 1, S.2.1 + x, va_up S.2.2 S.1 (.inl (1, x, .inl (fun _ => 0))))) := by
    rw [hws]
    exact hD.push hP hadS (by rw [hadS]; exact hA _ hS.1)
  have hS1 : va_S A s.heap H1 locs := ⟨Nat.le_trans hS.1 (by omega), fun x h1 h2 => (o1 x (Nat.lt_of_lt_of_le h1 hS.1)).trans (hS.2.1 x h1 h2), hS.2.2⟩
  have := kk H1 locs la hP1 hD1 hS1 (fun _ => by show H1.size + n0 = s.heap.size + (S.1 + 1); omega) (by show n1 ≤ S.1 + 1; omega) (by show s0 ≤ S.2.1 + x; omega) (by show S.1 + 1 ≤ nM; omega) (by show S.2.1 + x ≤ sM; omega) hl
  rw [← hadS]
  refine mv_cnt ?_ ?_ this
  · show S.1 - n0 + 0 + 1 = S.1 + 1 - n0 + 0; omega
  · show S.2.1 - s0 + ks + x = S.2.1 + x - s0 + ks; omega
theorem mv_s_new_long (X : mv_Cx p R s m args meth c D ad adV cK A own ini cc P nL n0 n1 s0 kx ks nM sM d) : mv_R_new_long P rt Rn nM sM r0 S0 (mv_V p l e R s m args below meth c Q D ad cK A nL n0 n1 s0 kx ks nM sM) := by
  obtain ⟨hx, hb, hml, hown, hts, hN, hK, hA, hok, had, hin, hT, hRc, hRs, hRf, hRl, hnn, hAO⟩ := X
  intro pc nx a b v ls st S x h g0 g1 g2 kk H locs la hP hD hS hz hn hs hM hM2 hl
  obtain ⟨hd, rfl⟩ := mv_dec hok h 2 rfl rfl
  have h9 := had S.1 hn (by omega)
  obtain ⟨hk0, had9⟩ := h9
  subst hk0
  have hz := hz rfl
  have hadS : ad S.1 = H.size := by omega
  refine va_newaK hx hb (hts _ mv_ac_long) rfl hd rfl (nI_pos (by omega)) (nI_clamp (by omega)) (by simp [newarray.typeOf, componentBytes]; omega) (by omega) (by omega) rfl fun H1 cA e1 z1 o1 hAr hNm => ?_
  have hcA : cA = cK 2 := Option.some.inj (hNm.symm.trans (hK.2 2 _ rfl).2)
  subst hcA
  have hkp : ∀ (k : Nat) (x : Nat × va_E), (mv_ws ad cK S)[k]? = some x → H1[x.1]? = H[x.1]? := fun k x hx => o1 x.1 ((hP k x hx).lt)
  have hws := mv_ws_push (ad := ad) (cK := cK) (S := S) (.inl (2, x, .inr (.inl (fun _ => 0)))) (S.2.1 + x)
  have hP1 : va_P D vwCl (mv_ws ad cK (S.1 + 1, S.2.1 + x, va_up S.2.2 S.1 (.inl (2, x, .inr (.inl (fun _ => 0)))))) H1 := by
    rw [hws, hadS]
    refine (hP.kept hkp).app (fun k x hx => ?_)
    have hz1 : k < 1 := (List.getElem?_eq_some_iff.mp hx).1
    rw [show k = 0 by omega] at hx
    cases hx
    show H1[H.size]? = some (vp_cell _ _)
    exact e1
  have hD1 : va_D A (mv_ws ad cK (S.1 + 1, S.2.1 + x, va_up S.2.2 S.1 (.inl (2, x, .inr (.inl (fun _ => 0)))))) := by
    rw [hws]
    exact hD.push hP hadS (by rw [hadS]; exact hA _ hS.1)
  have hS1 : va_S A s.heap H1 locs := ⟨Nat.le_trans hS.1 (by omega), fun x h1 h2 => (o1 x (Nat.lt_of_lt_of_le h1 hS.1)).trans (hS.2.1 x h1 h2), hS.2.2⟩
  have := kk H1 locs la hP1 hD1 hS1 (fun _ => by show H1.size + n0 = s.heap.size + (S.1 + 1); omega) (by show n1 ≤ S.1 + 1; omega) (by show s0 ≤ S.2.1 + x; omega) (by show S.1 + 1 ≤ nM; omega) (by show S.2.1 + x ≤ sM; omega) hl
  rw [← hadS]
  refine mv_cnt ?_ ?_ this
  · show S.1 - n0 + 0 + 1 = S.1 + 1 - n0 + 0; omega
  · show S.2.1 - s0 + ks + x = S.2.1 + x - s0 + ks; omega
theorem mv_s_anew (X : mv_Cx p R s m args meth c D ad adV cK A own ini cc P nL n0 n1 s0 kx ks nM sM d) : mv_R_anew P rt Rn nM sM r0 S0 (mv_V p l e R s m args below meth c Q D ad cK A nL n0 n1 s0 kx ks nM sM) := by
  obtain ⟨hx, hb, hml, hown, hts, hN, hK, hA, hok, had, hin, hT, hRc, hRs, hRf, hRl, hnn, hAO⟩ := X
  intro pc nx a b v ls st S n x h g0 g1 g2 kk H locs la hP hD hS hz hn hs hM hM2 hl
  obtain ⟨hd, rfl⟩ := mv_dec hok h 3 rfl rfl
  have hc := mv_ckd hok h
  simp only [mv_ck2, decide_eq_true_eq] at hc
  have h9 := had S.1 hn (by omega)
  obtain ⟨hk0, had9⟩ := h9
  subst hk0
  have hz := hz rfl
  have hadS : ad S.1 = H.size := by omega
  have hcl : (nI x).toNatClampNeg = x := nI_clamp (by omega)
  refine W.anew hx hb hown (hts _ (mv_TB_of hc rfl)) (va_AO.use hAO) rfl hd rfl (nI_pos (by omega)) (by rw [hcl]; omega) (by omega) (by rw [hcl]; omega) fun cA kA comp f1 f2 f3 f4 => ?_
  rw [hcl]
  generalize hH1 : H.push ({ cls := cA, slots := Array.replicate x .null, vm := .none } : Cell) = H1
  have z1 : H1.size = H.size + 1 := by rw [← hH1, Array.size_push]
  have e1 : H1[H.size]? = some (arrV cA x (fun _ => .null)) := by rw [← hH1, Array.getElem?_push_size, ← arrV_new]
  have o1 : ∀ q, q < H.size → H1[q]? = H[q]? := fun q hq => by rw [← hH1, Array.getElem?_push, if_neg (Nat.ne_of_lt hq)]
  have hcA : cA = cK 3 := by
    obtain ⟨_, _, _, _, _, k4⟩ := (hK.2 3 _ rfl).2
    exact Option.some.inj (f1.symm.trans k4)
  subst hcA
  have hkp : ∀ (k : Nat) (x : Nat × va_E), (mv_ws ad cK S)[k]? = some x → H1[x.1]? = H[x.1]? := fun k x hx => o1 x.1 ((hP k x hx).lt)
  have hws := mv_ws_push (ad := ad) (cK := cK) (S := S) (.inl (3, x, .inr (.inr (.inr (.inr (fun _ => none)))))) (S.2.1 + x)
  have hP1 : va_P D vwCl (mv_ws ad cK (S.1 + 1, S.2.1 + x, va_up S.2.2 S.1 (.inl (3, x, .inr (.inr (.inr (.inr (fun _ => none)))))))) H1 := by
    rw [hws, hadS]
    refine (hP.kept hkp).app (fun k x hx => ?_)
    have hz1 : k < 1 := (List.getElem?_eq_some_iff.mp hx).1
    rw [show k = 0 by omega] at hx
    cases hx
    show H1[H.size]? = some (vp_cell _ _)
    exact e1
  have hD1 : va_D A (mv_ws ad cK (S.1 + 1, S.2.1 + x, va_up S.2.2 S.1 (.inl (3, x, .inr (.inr (.inr (.inr (fun _ => none)))))))) := by
    rw [hws]
    exact hD.push hP hadS (by rw [hadS]; exact hA _ hS.1)
  have hS1 : va_S A s.heap H1 locs := ⟨Nat.le_trans hS.1 (by omega), fun x h1 h2 => (o1 x (Nat.lt_of_lt_of_le h1 hS.1)).trans (hS.2.1 x h1 h2), hS.2.2⟩
  have := kk H1 locs la hP1 hD1 hS1 (fun _ => by show H1.size + n0 = s.heap.size + (S.1 + 1); omega) (by show n1 ≤ S.1 + 1; omega) (by show s0 ≤ S.2.1 + x; omega) (by show S.1 + 1 ≤ nM; omega) (by show S.2.1 + x ≤ sM; omega) hl
  rw [← hadS]
  refine mv_cnt ?_ ?_ this
  · show S.1 - n0 + 0 + 1 = S.1 + 1 - n0 + 0; omega
  · show S.2.1 - s0 + ks + x = S.2.1 + x - s0 + ks; omega
end MVH
