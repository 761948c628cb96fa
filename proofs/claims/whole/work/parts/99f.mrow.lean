section
theorem r_refuse (z : mv_Z) : mv_Runs 1 114 [.ref 68] (mv_E z) (some (.int 0)) (mv_E (mv_u z 68 0 1)) := by
  refine mv_start pX11_refuse (some .int) [some (.ref 68)] rfl rfl rfl rfl (fun V C => ?_)
  refine mv_aload_n C rfl rfl ?_
  refine mv_iconst C rfl ?_
  refine mv_putI C rfl rfl rfl rfl ?_
  refine mv_iconst C rfl ?_
  refine mv_ireturn C rfl mv_okI ?_ ?_
  all_goals rfl
theorem r_thrown (z : mv_Z) : mv_Runs 1 112 [.ref 68] (mv_E z) (some (.int (z.1 68 0))) (mv_E z) := by
  refine mv_start pX11_thrown (some .int) [some (.ref 68)] rfl rfl rfl rfl (fun V C => ?_)
  refine mv_aload_n C rfl rfl ?_
  refine mv_getI C rfl rfl rfl ?_
  refine mv_ireturn C rfl mv_okI ?_ ?_
  all_goals rfl
theorem m_row_in (u : hM) (z : mv_Z) (k : Nat) (hk : k < u 30 0) (hi : hI u) (hz : rM u z) : ∃ z1, mv_Runs 20 169 [.ref 68, .int (nI k)] (mv_E z) (some (.int (nI (u 31 k)))) (mv_E z1) ∧ rM u z1 ∧ fM z z1 ∧ z1.1 68 0 = 0 ∧ ∀ q, z1.2 q = z.2 q := by
  have hn := rM_s hz 18 30 (by decide)
  have h48 : u 30 0 ≤ 48 := hi.2.2.2.2.2.2.2.2.2.2.2.2.2.2.2.2.2.2.2.2.1
  have h0 := rM_free hz 68 0 0 (Or.inr ⟨rfl, by decide⟩)
  have R0 := r_inI (mv_u z 68 0 0) (nI k) 0 (nI (u 30 0) - 1 : Int32).toInt64 _ (inN (by omega))
  rw [if_pos ⟨nI_pos' (by omega), nI_lt hk (by omega)⟩] at R0
  have h82 := hz.2.2.2.2 k hk
  refine ⟨_, mv_up (d := 3) (S1 := mv_E (mv_u z 68 0 0)) ?_ rfl, h0, fM_u fM_rf (by decide), rfl, fun q => rfl⟩
  refine mv_start pX11_row (some .int) [some (.ref 68), some (.int (nI k))] rfl rfl rfl rfl (fun V C => ?_)
  refine mv_aload_n C rfl rfl ?_
  refine mv_iconst C rfl ?_
  refine mv_putI C rfl rfl rfl rfl ?_
  refine mv_iload_n C rfl rfl ?_
  refine mv_i2l C rfl ?_
  refine mv_lconst C rfl ?_
  refine mv_aload_n C rfl rfl ?_
  refine mv_getJ C rfl rfl rfl hn ?_
  refine mv_iconst C rfl ?_
  refine mv_isub C rfl ?_
  refine mv_i2l C rfl ?_
  refine mv_cS C rfl (mv_up R0 rfl) (by decide) rfl (Nat.le_of_ble_eq_true rfl) (Nat.le_refl _) (Nat.le_refl _) rfl ?_
  refine mv_if_eq C rfl (fun c18 => ?_) (fun c18 => ?_)
  · exact absurd c18 (by decide)
  · refine mv_aload_n C rfl rfl ?_
    refine mv_getR C rfl rfl rfl ?_
    refine mv_iload_n C rfl rfl ?_
    refine mv_aldJ C rfl rfl rfl (by omega) h82 ?_
    refine mv_goto C rfl ?_
    refine mv_ireturn C rfl mv_okI ?_ ?_
    all_goals rfl
theorem m_row_out (u : hM) (z : mv_Z) (x : Int32) (hx : ¬ (0 ≤ x ∧ x < nI (u 30 0))) (hi : hI u) (hz : rM u z) : ∃ z1, mv_Runs 20 169 [.ref 68, .int x] (mv_E z) (some (.int 0)) (mv_E z1) ∧ rM u z1 ∧ fM z z1 ∧ z1.1 68 0 = 1 ∧ ∀ q, z1.2 q = z.2 q := by
  have hn := rM_s hz 18 30 (by decide)
  have h48 : u 30 0 ≤ 48 := hi.2.2.2.2.2.2.2.2.2.2.2.2.2.2.2.2.2.2.2.2.1
  have h0 := rM_free hz 68 0 0 (Or.inr ⟨rfl, by decide⟩)
  have h1 := rM_free h0 68 0 1 (Or.inr ⟨rfl, by decide⟩)
  have R0 := r_inI (mv_u z 68 0 0) x 0 (nI (u 30 0) - 1 : Int32).toInt64 _ (inN (by omega))
  rw [if_neg hx] at R0
  refine ⟨_, mv_up (d := 3) (S1 := mv_E (mv_u (mv_u z 68 0 0) 68 0 1)) ?_ rfl, h1, fM_u (fM_u fM_rf (by decide)) (by decide), rfl, fun q => rfl⟩
  refine mv_start pX11_row (some .int) [some (.ref 68), some (.int x)] rfl rfl rfl rfl (fun V C => ?_)
  refine mv_aload_n C rfl rfl ?_
  refine mv_iconst C rfl ?_
  refine mv_putI C rfl rfl rfl rfl ?_
  refine mv_iload_n C rfl rfl ?_
  refine mv_i2l C rfl ?_
  refine mv_lconst C rfl ?_
  refine mv_aload_n C rfl rfl ?_
  refine mv_getJ C rfl rfl rfl hn ?_
  refine mv_iconst C rfl ?_
  refine mv_isub C rfl ?_
  refine mv_i2l C rfl ?_
  refine mv_cS C rfl (mv_up R0 rfl) (by decide) rfl (Nat.le_of_ble_eq_true rfl) (Nat.le_refl _) (Nat.le_refl _) rfl ?_
  refine mv_if_eq C rfl (fun c18 => ?_) (fun c18 => ?_)
  · refine mv_aload_n C rfl rfl ?_
    refine mv_cV C rfl (mv_up (r_refuse _) rfl) (by decide) rfl rfl rfl (Nat.le_of_ble_eq_true rfl) (Nat.le_refl _) (Nat.le_refl _) rfl ?_
    refine mv_ireturn C rfl mv_okI ?_ ?_
    all_goals rfl
  · exact absurd rfl c18
end

