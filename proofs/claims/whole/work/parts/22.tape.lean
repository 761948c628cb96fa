section
theorem mv_uu {z : mv_Z} {c i : Nat} {x y : Int32} : mv_u (mv_u z c i x) c i y = mv_u z c i y := by
  unfold mv_u
  congr 1
  funext k
  by_cases h : k = c
  · subst h; simp only [va_up, if_true]; funext j; by_cases e : j = i <;> simp [upd, e]
  · simp [va_up, h]
theorem mv_uc {z : mv_Z} {a b i j : Nat} {x y : Int32} (h : ¬ a = b) : mv_u (mv_u z a i x) b j y = mv_u (mv_u z b j y) a i x := by
  unfold mv_u
  have h2 : ¬ b = a := fun e => h e.symm
  congr 1
  funext k
  by_cases e : k = a
  · subst e; simp [va_up, h]
  · by_cases e2 : k = b
    · subst e2; simp [va_up, e]
    · simp [va_up, e, e2]
/-- the four signs of an int -/
def byt (v : Int32) (i : Nat) : Nat := v.toBitVec.toNat / 2 ^ (24 - 8 * i) % 256
theorem byt_lt (v : Int32) (i : Nat) : byt v i < 256 := Nat.mod_lt _ (by decide)
theorem byt_u (v : Int32) (i : Nat) (hi : i < 4) : (v.toUInt32 >>> ((nI (24 - 8 * i)).toUInt32 &&& Int32.toUInt32 31)).toInt32 &&& 255 = nI (byt v i) := by
  rw [pk_and _ 8 (by decide), pk_ushr v _ (24 - 8 * i) (s_u _ (by omega))]
  rfl
theorem byt_s (v : Int32) (i : Nat) (hi : i < 4) : (v >>> (nI (24 - 8 * i) &&& 31)) &&& 255 = nI (byt v i) := by
  rw [← byt_u v i hi]
  apply hb_ext
  intro j hj
  rw [hb_and, hb_and, hb_sshr _ (by omega) v hj, hb_ushr _ (by omega) v j, hb_255]
  by_cases h : j < 8
  · rw [if_pos (by omega)]
  · simp [h]
def f20 (u : hM) (v : Int32) (i : Nat) : Nat → Int32 := fun q => nI (if u 19 0 ≤ q ∧ q < u 19 0 + i then byt v (q - u 19 0) else u 20 q)
theorem f20_step (u : hM) (v : Int32) (i : Nat) : upd (f20 u v i) (u 19 0 + i) (nI (byt v i)) = f20 u v (i + 1) := by
  funext q
  by_cases e : q = u 19 0 + i
  · subst e
    simp only [upd, if_true, f20]
    rw [if_pos (by omega), show u 19 0 + i - u 19 0 = i by omega]
  · simp only [upd, e, if_false, f20]
    by_cases h : u 19 0 ≤ q ∧ q < u 19 0 + i
    · rw [if_pos h, if_pos (by omega)]
    · rw [if_neg h, if_neg (by omega)]
def h20 (u : hM) (v : Int32) : hM := fun k i => if k = 20 then (if u 19 0 ≤ i ∧ i < u 19 0 + 4 then byt v (i - u 19 0) else u 20 i) else u k i
def a_sign (u : hM) (v : Int32) : Int32 := if u 19 0 ≤ 96 then nI (u 19 0 + 4) else -1
def o_sign (u : hM) (v : Int32) : hM := if u 19 0 ≤ 96 then hu (h20 u v) 19 0 (u 19 0 + 4) else u
def shf (i : Nat) : Int32 := ([24, 16, 8, 0, -8] : List Int32).getD i 0
theorem shf_n : ∀ i, i < 4 → shf i = nI (24 - 8 * i) ∧ ¬ shf i < 0 ∧ shf i + (-8) = shf (i + 1) := by decide
theorem r_addFour (z : mv_Z) (u : hM) (v : Int32) (h96 : u 19 0 ≤ 96) (hn : z.1 27 1 = nI (u 19 0)) (hs : z.1 28 = fun i => nI (u 20 i)) : mv_Runs 1 69 [.ref 27, .int v] (mv_E z) (some (.int (nI (u 19 0 + 4)))) (mv_E (mv_u (mv_w z 28 (f20 u v 4)) 27 1 (nI (u 19 0 + 4)))) := by
  refine mv_start pX9_addFour (some .int) [some (.ref 27), some (.int v), none] rfl rfl rfl rfl (fun V C => ?_)
  have loop : ∀ (k i : Nat), i + k = 4 → V 16 [some (.ref 27), some (.int v), some (.int (shf i))] [] (mv_E (mv_u (mv_w z 28 (f20 u v i)) 27 1 (nI (u 19 0 + i)))) := by
    intro k
    induction k with
    | zero =>
      intro i hi
      obtain rfl : i = 4 := by omega
      refine mv_iload_n C rfl rfl ?_
      refine mv_if_lt C rfl (fun c17 => ?_) (fun c17 => ?_)
      · refine mv_aload_n C rfl rfl ?_
        refine mv_getJ C rfl rfl rfl mv_u_eq ?_
        refine mv_ireturn C rfl mv_okI ?_ ?_
        all_goals rfl
      · exact absurd (show shf 4 < 0 by decide) c17
    | succ k ih =>
      intro i hi
      obtain ⟨s1, s2, s3⟩ := shf_n i (by omega)
      have e := ih (i + 1) (by omega)
      rw [← f20_step, ← s3, show u 19 0 + (i + 1) = u 19 0 + i + 1 by omega] at e
      refine mv_iload_n C rfl rfl ?_
      refine mv_if_lt C rfl (fun c17 => ?_) (fun c17 => ?_)
      · exact absurd c17 s2
      · refine mv_aload_n C rfl rfl ?_
        refine mv_getR C rfl rfl rfl ?_
        refine mv_aload_n C rfl rfl ?_
        refine mv_getJ C rfl rfl rfl mv_u_eq ?_
        refine mv_iload_n C rfl rfl ?_
        refine mv_iload_n C rfl rfl ?_
        refine mv_iushr C rfl ?_
        refine mv_sipush C rfl ?_
        refine mv_iand C rfl ?_
        refine mv_top (show _ = nI (byt v i) from ?_) ?_
        · (rw [s1]; exact byt_u v i (by omega))
        refine mv_ast C rfl rfl rfl (by omega) ?_
        refine mv_sto (z1 := mv_u (mv_w z 28 (upd (f20 u v i) (u 19 0 + i) (nI (byt v i)))) 27 1 (nI (u 19 0 + i))) (by rw [mv_uc (by decide), mv_uw]) ?_
        refine mv_aload_n C rfl rfl ?_
        refine mv_dup C rfl rfl ?_
        refine mv_getJ C rfl rfl rfl mv_u_eq ?_
        refine mv_iconst C rfl ?_
        refine mv_iadd C rfl ?_
        refine mv_top (nI_1 _) ?_
        refine mv_putI C rfl rfl rfl rfl ?_
        refine mv_sto mv_uu ?_
        refine mv_inc2 C rfl rfl ?_
        refine mv_goto C rfl ?_
        exact e
  have z0 : mv_u (mv_w z 28 (f20 u v 0)) 27 1 (nI (u 19 0 + 0)) = z := by
    have e1 : f20 u v 0 = z.1 28 := by rw [hs]; funext q; simp only [f20]; rw [if_neg (by omega)]
    rw [e1, mv_w_self, Nat.add_zero, ← hn]
    unfold mv_u
    congr 1
    funext k
    by_cases h : k = 27
    · subst h; simp only [va_up, if_true]; funext j; by_cases q : j = 1 <;> simp [upd, q]
    · simp [va_up, h]
  refine mv_aload_n C rfl rfl ?_
  refine mv_getJ C rfl rfl rfl hn ?_
  refine mv_iconst C rfl ?_
  refine mv_iadd C rfl ?_
  refine mv_top (nI_add _ 4) ?_
  refine mv_bipush C rfl ?_
  refine mv_icmp_le C rfl (fun c8 => ?_) (fun c8 => ?_)
  · refine mv_bipush C rfl ?_
    refine mv_is_n2 C rfl rfl ?_
    have l0 := loop 4 0 (by omega)
    rw [z0] at l0
    exact l0
  · exact absurd (nI_le (b := 100) (by omega) (by decide)) c8
theorem r_addFour_no (z : mv_Z) (n : Nat) (v : Int32) (h96 : 96 < n) (h100 : n ≤ 100) (hn : z.1 27 1 = nI n) : mv_Runs 1 69 [.ref 27, .int v] (mv_E z) (some (.int (-1))) (mv_E z) := by
  refine mv_start pX9_addFour (some .int) [some (.ref 27), some (.int v), none] rfl rfl rfl rfl (fun V C => ?_)
  refine mv_aload_n C rfl rfl ?_
  refine mv_getJ C rfl rfl rfl hn ?_
  refine mv_iconst C rfl ?_
  refine mv_iadd C rfl ?_
  refine mv_top (nI_add _ 4) ?_
  refine mv_bipush C rfl ?_
  refine mv_icmp_le C rfl (fun c8 => ?_) (fun c8 => ?_)
  · exact absurd c8 (nI_ge (a := 100) (by omega) (by omega))
  · refine mv_iconst C rfl ?_
    refine mv_ireturn C rfl mv_okI ?_ ?_
    all_goals rfl
theorem x_sign (u : hM) (z : mv_Z) (v : Int32) (hi : hI u) (hz : rX u z) : xR 96 [.int v] u z (.int (a_sign u v)) (o_sign u v) := by
  have hn := rX_s hz 27 1 19 (by decide)
  have h100 : u 19 0 ≤ 100 := hi.2.2.2.2.2.2.2.2.2.2.2.2.2.2.1
  unfold a_sign o_sign
  by_cases hc : u 19 0 ≤ 96
  · rw [if_pos hc, if_pos hc]
    have R := r_addFour z u v hc hn (funext fun i => rX_a hz 28 20 (by decide) i)
    refine ⟨_, mv_up (d := 2) (S1 := mv_E (mv_u (mv_w z 28 (f20 u v 4)) 27 1 (nI (u 19 0 + 4)))) ?_ rfl, ?_, fX_u (fX_w fX_rf (by decide)) (by decide)⟩
    · refine mv_start pX10_sign (some .int) [some (.ref 0), some (.int v)] rfl rfl rfl rfl (fun V C => ?_)
      refine mv_aload_n C rfl rfl ?_
      refine mv_getR C rfl rfl rfl ?_
      refine mv_iload_n C rfl rfl ?_
      refine mv_cV C rfl R (by decide) rfl rfl rfl (Nat.le_of_ble_eq_true rfl) (Nat.le_refl _) (Nat.le_refl _) rfl ?_
      refine mv_ireturn C rfl mv_okI ?_ ?_
      all_goals rfl
    · have := rX_w (u1 := h20 u v) hz 28 20 (by decide) (by decide) (fun k hk => by funext i; simp [h20, hk])
      have e : (fun i => nI (h20 u v 20 i)) = f20 u v 4 := by funext q; simp [h20, f20]
      rw [e] at this
      exact rX_sc this 27 1 19 _ (by decide)
  · rw [if_neg hc, if_neg hc]
    have R := r_addFour_no z _ v (by omega) h100 hn
    refine ⟨_, mv_up (d := 2) (S1 := mv_E z) ?_ rfl, hz, fX_rf⟩
    refine mv_start pX10_sign (some .int) [some (.ref 0), some (.int v)] rfl rfl rfl rfl (fun V C => ?_)
    refine mv_aload_n C rfl rfl ?_
    refine mv_getR C rfl rfl rfl ?_
    refine mv_iload_n C rfl rfl ?_
    refine mv_cV C rfl R (by decide) rfl rfl rfl (Nat.le_of_ble_eq_true rfl) (Nat.le_refl _) (Nat.le_refl _) rfl ?_
    refine mv_ireturn C rfl mv_okI ?_ ?_
    all_goals rfl
theorem m_sign (u : hM) (z : mv_Z) (v : Int32) (hi : hI u) (hz : rM u z) : mR 155 [.int v] u z (.int (a_sign u v)) (o_sign u v) := by
  have h0 := rM_free hz 68 0 0 (Or.inr ⟨rfl, by decide⟩)
  have hn := rM_s h0 27 19 (by decide)
  have h100 : u 19 0 ≤ 100 := hi.2.2.2.2.2.2.2.2.2.2.2.2.2.2.1
  unfold a_sign o_sign
  by_cases hc : u 19 0 ≤ 96
  · rw [if_pos hc, if_pos hc]
    refine ⟨_, mv_up (d := 2) (S1 := mv_E (mv_u (mv_w (mv_u z 68 0 0) 88 (f20 u v 4)) 68 27 (nI (u 19 0 + 4)))) ?_ rfl, ?_, fM_u (fM_w (fM_u fM_rf (by decide)) (by decide)) (by decide)⟩
    · refine mv_start pX11_sign (some .int) [some (.ref 68), some (.int v), none] rfl rfl rfl rfl (fun V C => ?_)
      have loop : ∀ (k i : Nat), i + k = 4 → V 18 [some (.ref 68), some (.int v), some (.int (nI i))] [] (mv_E (mv_w (mv_u z 68 0 0) 88 (f20 u v i))) := by
        intro k
        induction k with
        | zero =>
          intro i hi
          obtain rfl : i = 4 := by omega
          refine mv_iload_n C rfl rfl ?_
          refine mv_iconst C rfl ?_
          refine mv_icmp_ge C rfl (fun c20 => ?_) (fun c20 => ?_)
          · refine mv_aload_n C rfl rfl ?_
            refine mv_dup C rfl rfl ?_
            refine mv_getJ C rfl rfl rfl hn ?_
            refine mv_iconst C rfl ?_
            refine mv_iadd C rfl ?_
            refine mv_top (nI_add _ 4) ?_
            refine mv_putI C rfl rfl rfl rfl ?_
            refine mv_aload_n C rfl rfl ?_
            refine mv_getJ C rfl rfl rfl mv_u_eq ?_
            refine mv_ireturn C rfl mv_okI ?_ ?_
            all_goals rfl
          · exact absurd (by decide) c20
        | succ k ih =>
          intro i hi
          have e := ih (i + 1) (by omega)
          rw [← f20_step, ← mv_uw] at e
          refine mv_iload_n C rfl rfl ?_
          refine mv_iconst C rfl ?_
          refine mv_icmp_ge C rfl (fun c20 => ?_) (fun c20 => ?_)
          · exact absurd c20 (nI_ge (b := 4) (by omega) (by decide))
          · refine mv_aload_n C rfl rfl ?_
            refine mv_getR C rfl rfl rfl ?_
            refine mv_aload_n C rfl rfl ?_
            refine mv_getJ C rfl rfl rfl hn ?_
            refine mv_iload_n C rfl rfl ?_
            refine mv_iadd C rfl ?_
            refine mv_top (nI_add _ _) ?_
            refine mv_iload_n C rfl rfl ?_
            refine mv_bipush C rfl ?_
            refine mv_bipush C rfl ?_
            refine mv_iload_n C rfl rfl ?_
            refine mv_imul C rfl ?_
            refine mv_top (pk_mul 8 _) ?_
            refine mv_isub C rfl ?_
            refine mv_top (pk_sub (a := 24) (by omega)) ?_
            refine mv_ishr C rfl ?_
            refine mv_sipush C rfl ?_
            refine mv_iand C rfl ?_
            refine mv_top (byt_s v i (by omega)) ?_
            refine mv_ast C rfl rfl rfl (by omega) ?_
            refine mv_inc2 C rfl rfl ?_
            refine mv_goto C rfl ?_
            simp only [nI_1]
            exact e
      have z0 : mv_w (mv_u z 68 0 0) 88 (f20 u v 0) = mv_u z 68 0 0 := by
        have e1 : f20 u v 0 = (mv_u z 68 0 0).1 88 := by funext q; rw [rM_a h0 88 20 (by decide) q]; simp only [f20]; rw [if_neg (by omega)]
        rw [e1, mv_w_self]
      refine mv_aload_n C rfl rfl ?_
      refine mv_iconst C rfl ?_
      refine mv_putI C rfl rfl rfl rfl ?_
      refine mv_aload_n C rfl rfl ?_
      refine mv_getJ C rfl rfl rfl hn ?_
      refine mv_bipush C rfl ?_
      refine mv_icmp_le C rfl (fun c11 => ?_) (fun c11 => ?_)
      · refine mv_iconst C rfl ?_
        refine mv_is_n2 C rfl rfl ?_
        have l0 := loop 4 0 (by omega)
        rw [z0] at l0
        exact l0
      · exact absurd (nI_le (b := 96) (by omega) (by decide)) c11
    · have := rM_w (u1 := h20 u v) h0 88 20 (by decide) (fun k hk => by funext i; simp [h20, hk])
      have e : (fun i => nI (h20 u v 20 i)) = f20 u v 4 := by funext q; simp [h20, f20]
      rw [e] at this
      exact rM_sc this 27 19 _ (by decide)
  · rw [if_neg hc, if_neg hc]
    refine ⟨_, mv_up (d := 2) (S1 := mv_E (mv_u z 68 0 0)) ?_ rfl, h0, fM_u fM_rf (by decide)⟩
    refine mv_start pX11_sign (some .int) [some (.ref 68), some (.int v), none] rfl rfl rfl rfl (fun V C => ?_)
    refine mv_aload_n C rfl rfl ?_
    refine mv_iconst C rfl ?_
    refine mv_putI C rfl rfl rfl rfl ?_
    refine mv_aload_n C rfl rfl ?_
    refine mv_getJ C rfl rfl rfl hn ?_
    refine mv_bipush C rfl ?_
    refine mv_icmp_le C rfl (fun c11 => ?_) (fun c11 => ?_)
    · exact absurd c11 (nI_ge (a := 96) (by omega) (by omega))
    · refine mv_iconst C rfl ?_
      refine mv_ireturn C rfl mv_okI ?_ ?_
      all_goals rfl
-- end
def a_end (u : hM) (n : Int32) : Int32 := if 0 ≤ n ∧ n ≤ nI (u 19 0) then 1 else 0
def o_end (u : hM) (n : Int32) : hM := if 0 ≤ n ∧ n ≤ nI (u 19 0) then hu u 19 0 n.toNatClampNeg else u
theorem r_cut (z : mv_Z) (n : Int32) (k : Nat) (hn : z.1 27 1 = nI k) : mv_Runs 1 70 [.ref 27, .int n] (mv_E z) (some (.int (if 0 ≤ n ∧ n ≤ nI k then 1 else 0))) (mv_E (if 0 ≤ n ∧ n ≤ nI k then mv_u z 27 1 n else z)) := by
  refine mv_start pX9_cut (some .boolean) [some (.ref 27), some (.int n)] rfl rfl rfl rfl (fun V C => ?_)
  refine mv_iload_n C rfl rfl ?_
  refine mv_if_lt C rfl (fun c1 => ?_) (fun c1 => ?_)
  · have hq : ¬ (0 ≤ n ∧ n ≤ nI k) := fun q => by (have := q.1; rw [i32_le] at this; rw [i32_lt] at c1; omega)
    refine mv_iconst C rfl ?_
    refine mv_ireturn C rfl (by first | exact mv_okZ1 | exact mv_okZ0) ?_ ?_
    all_goals first | (rw [if_pos hq]) | (rw [if_neg hq])
  · refine mv_iload_n C rfl rfl ?_
    refine mv_aload_n C rfl rfl ?_
    refine mv_getJ C rfl rfl rfl hn ?_
    refine mv_icmp_le C rfl (fun c9 => ?_) (fun c9 => ?_)
    · have hq : 0 ≤ n ∧ n ≤ nI k := ⟨by (rw [i32_lt] at c1; rw [i32_le]; omega), c9⟩
      refine mv_aload_n C rfl rfl ?_
      refine mv_iload_n C rfl rfl ?_
      refine mv_putI C rfl rfl rfl rfl ?_
      refine mv_iconst C rfl ?_
      refine mv_ireturn C rfl (by first | exact mv_okZ1 | exact mv_okZ0) ?_ ?_
      all_goals first | (rw [if_pos hq]) | (rw [if_neg hq])
    · have hq : ¬ (0 ≤ n ∧ n ≤ nI k) := fun q => c9 q.2
      refine mv_iconst C rfl ?_
      refine mv_ireturn C rfl (by first | exact mv_okZ1 | exact mv_okZ0) ?_ ?_
      all_goals first | (rw [if_pos hq]) | (rw [if_neg hq])
theorem x_end (u : hM) (z : mv_Z) (n : Int32) (hi : hI u) (hz : rX u z) : xR 97 [.int n] u z (.int (a_end u n)) (o_end u n) := by
  have hn := rX_s hz 27 1 19 (by decide)
  have R := r_cut z n _ hn
  unfold a_end o_end
  refine ⟨_, mv_up (d := 2) (S1 := mv_E (if 0 ≤ n ∧ n ≤ nI (u 19 0) then mv_u z 27 1 n else z)) ?_ rfl, ?_, ?_⟩
  · refine mv_start pX10_end (some .boolean) [some (.ref 0), some (.int n)] rfl rfl rfl rfl (fun V C => ?_)
    refine mv_aload_n C rfl rfl ?_
    refine mv_getR C rfl rfl rfl ?_
    refine mv_iload_n C rfl rfl ?_
    refine mv_cV C rfl R (by decide) rfl rfl rfl (Nat.le_of_ble_eq_true rfl) (Nat.le_refl _) (Nat.le_refl _) rfl ?_
    refine mv_ireturn C rfl mv_okZi ?_ ?_
    all_goals rfl
  · by_cases hc : 0 ≤ n ∧ n ≤ nI (u 19 0)
    · rw [if_pos hc, if_pos hc]
      have e := nI_nn hc.1
      generalize n.toNatClampNeg = k at *
      subst e
      exact rX_sc hz 27 1 19 _ (by decide)
    · rw [if_neg hc, if_neg hc]; exact hz
  · split
    · exact fX_u fX_rf (by decide)
    · exact fX_rf
theorem m_end (u : hM) (z : mv_Z) (n : Int32) (hi : hI u) (hz : rM u z) : mR 156 [.int n] u z (.int (a_end u n)) (o_end u n) := by
  have h0 := rM_free hz 68 0 0 (Or.inr ⟨rfl, by decide⟩)
  have hn := rM_s h0 27 19 (by decide)
  have h100 : u 19 0 ≤ 100 := hi.2.2.2.2.2.2.2.2.2.2.2.2.2.2.1
  have R0 := r_inI (mv_u z 68 0 0) n 0 (nI (u 19 0)).toInt64 (0 ≤ n ∧ n ≤ nI (u 19 0)) (by rw [Int32.toInt_toInt64, i32_le, i32_le, i32_0, l64_0])
  unfold a_end o_end
  refine ⟨_, mv_up (d := 2) (S1 := mv_E (if 0 ≤ n ∧ n ≤ nI (u 19 0) then mv_u (mv_u z 68 0 0) 68 27 n else mv_u z 68 0 0)) ?_ rfl, ?_, ?_⟩
  · by_cases hc : 0 ≤ n ∧ n ≤ nI (u 19 0)
    · rw [if_pos hc] at R0 ⊢
      rw [if_pos hc]
      refine mv_start pX11_end (some .boolean) [some (.ref 68), some (.int n)] rfl rfl rfl rfl (fun V C => ?_)
      refine mv_aload_n C rfl rfl ?_
      refine mv_iconst C rfl ?_
      refine mv_putI C rfl rfl rfl rfl ?_
      refine mv_iload_n C rfl rfl ?_
      refine mv_i2l C rfl ?_
      refine mv_lconst C rfl ?_
      refine mv_aload_n C rfl rfl ?_
      refine mv_getJ C rfl rfl rfl hn ?_
      refine mv_i2l C rfl ?_
      refine mv_cS C rfl R0 (by decide) rfl (Nat.le_of_ble_eq_true rfl) (Nat.le_refl _) (Nat.le_refl _) rfl ?_
      refine mv_if_ne C rfl (fun c16 => ?_) (fun c16 => ?_)
      · refine mv_aload_n C rfl rfl ?_
        refine mv_iload_n C rfl rfl ?_
        refine mv_putI C rfl rfl rfl rfl ?_
        refine mv_iconst C rfl ?_
        refine mv_ireturn C rfl mv_okZ1 ?_ ?_
        all_goals rfl
      · exact absurd c16 (by decide)
    · rw [if_neg hc] at R0 ⊢
      rw [if_neg hc]
      refine mv_start pX11_end (some .boolean) [some (.ref 68), some (.int n)] rfl rfl rfl rfl (fun V C => ?_)
      refine mv_aload_n C rfl rfl ?_
      refine mv_iconst C rfl ?_
      refine mv_putI C rfl rfl rfl rfl ?_
      refine mv_iload_n C rfl rfl ?_
      refine mv_i2l C rfl ?_
      refine mv_lconst C rfl ?_
      refine mv_aload_n C rfl rfl ?_
      refine mv_getJ C rfl rfl rfl hn ?_
      refine mv_i2l C rfl ?_
      refine mv_cS C rfl R0 (by decide) rfl (Nat.le_of_ble_eq_true rfl) (Nat.le_refl _) (Nat.le_refl _) rfl ?_
      refine mv_if_ne C rfl (fun c16 => ?_) (fun c16 => ?_)
      · exact absurd rfl c16
      · refine mv_iconst C rfl ?_
        refine mv_ireturn C rfl mv_okZ0 ?_ ?_
        all_goals rfl
  · by_cases hc : 0 ≤ n ∧ n ≤ nI (u 19 0)
    · rw [if_pos hc, if_pos hc]
      have e := nI_nn hc.1
      generalize n.toNatClampNeg = k at *
      subst e
      exact rM_sc h0 27 19 _ (by decide)
    · rw [if_neg hc, if_neg hc]; exact h0
  · split
    · exact fM_u (fM_u fM_rf (by decide)) (by decide)
    · exact fM_u fM_rf (by decide)
end

