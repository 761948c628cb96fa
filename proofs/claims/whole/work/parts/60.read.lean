section
def ksb (c : hM) (x : Nat) : Int32 := match kstp c x with
  | some _ => 1
  | none => 0
theorem kAc_c {c c1 : hM} {f0 f1 f2 f3 : Nat → Int32} (e : c1 = c) (h : kAc c f0 f1 f2 f3) : kAc c1 f0 f1 f2 f3 := by rw [e]; exact h
theorem r_takes (z : mv_Z) (a i x : Nat) (c : hM) (f0 f1 f2 f3 : Nat → Int32) (ha : a < 8) (hx : x < 256) (hi : i < 40) (hJ : kJ c i) (hA : kAc c f0 f1 f2 f3) : ∃ g0 g1 g2 g3, mv_Runs 3 2 [.ref (34 + 4 * a), .int (nI x)] (mv_E (kx z a f0 f1 f2 f3)) (some (.int (ksb c x))) (mv_E (kx z a g0 g1 g2 g3)) ∧ (∀ c1, kstp c x = some c1 → kAc c1 g0 g1 g2 g3) ∧ (kstp c x = none → kx z a g0 g1 g2 g3 = kx z a f0 f1 f2 f3) := by
  have l0 := lay_act a ha
  obtain ⟨j0, j1, j2, j3, j4, j5, j6⟩ := hJ
  obtain ⟨h3, h4, h5, h6, h7, h8, h9⟩ := hA
  by_cases e0 : c 0 0 = 0
  · have hk : c 1 0 < 10 := by have := (j3 e0).1; omega
    rw [e0] at h5
    by_cases q : x = 110 ∨ x = 104 ∨ x = 99
    · have es : kstp c x = some (hu (hu c 4 (c 1 0) x) 0 0 1) := by unfold kstp; rw [if_pos e0, if_pos ⟨q, hk⟩]
      have R := r_takesLetter z a (c 1 0) x f0 f1 f2 f3 ha hx hk h3 q
      refine ⟨upd f0 5 1, upd f1 (c 1 0) (nI x), f2, f3, ?_, fun c1 h => ?_, fun h => (by rw [es] at h; cases h)⟩
      rotate_left
      · rw [es] at h; cases h
        refine ⟨?_, ?_, ?_, ?_, fun j hj => ?_, fun _ _ => ?_, ?_⟩
        · simpa [hu, upd] using h3
        · simpa [hu, upd] using h4
        · simp [hu, upd]; rfl
        · simp [hu]
        · have hj2 : j < c 1 0 := by simpa [hu] using hj
          have := h7 j hj2
          have hne : ¬ j = c 1 0 := by omega
          simp [hu, upd, hne]; exact this
        · simp [hu, upd]
        · simp [hu]
      · rw [show ksb c x = 1 from by unfold ksb; rw [es]]
        refine mv_start pX0_takes (some .boolean) [some (.ref (34 + 4 * a)), some (.int (nI x))] rfl rfl rfl rfl (fun V C => ?_)
        refine mv_aload_n C rfl rfl ?_
        refine mv_getJ C rfl l0 rfl ((congrFun kx_0 5).trans h5) ?_
        refine mv_tsw_in C rfl (by decide) (by decide) rfl rfl ?_
        refine mv_aload_n C rfl rfl ?_
        refine mv_iload_n C rfl rfl ?_
        refine mv_cV C rfl (mv_up R rfl) (by decide) rfl rfl l0 (Nat.le_of_ble_eq_true rfl) (Nat.le_refl _) (Nat.le_refl _) rfl ?_
        refine mv_ireturn C rfl mv_okZ1 ?_ ?_
        all_goals rfl
    · have es : kstp c x = none := by unfold kstp; rw [if_pos e0, if_neg (fun w => q w.1)]
      have R := r_takesLetterN z a x f0 f1 f2 f3 ha hx q
      refine ⟨f0, f1, f2, f3, ?_, fun c1 h => (by rw [es] at h; cases h), fun _ => rfl⟩
      rw [show ksb c x = 0 from by unfold ksb; rw [es]]
      refine mv_start pX0_takes (some .boolean) [some (.ref (34 + 4 * a)), some (.int (nI x))] rfl rfl rfl rfl (fun V C => ?_)
      refine mv_aload_n C rfl rfl ?_
      refine mv_getJ C rfl l0 rfl ((congrFun kx_0 5).trans h5) ?_
      refine mv_tsw_in C rfl (by decide) (by decide) rfl rfl ?_
      refine mv_aload_n C rfl rfl ?_
      refine mv_iload_n C rfl rfl ?_
      refine mv_cV C rfl (mv_up R rfl) (by decide) rfl rfl l0 (Nat.le_of_ble_eq_true rfl) (Nat.le_refl _) (Nat.le_refl _) rfl ?_
      refine mv_ireturn C rfl mv_okZ0 ?_ ?_
      all_goals rfl
  · by_cases e1 : c 0 0 = 1
    · have hk : c 1 0 < 10 := by have := (j4 e1).1; omega
      rw [e1] at h5
      by_cases q : x = 60 ∨ x = 62 ∨ x = 61
      · have es : kstp c x = some (hu (hu (hu (hu c 5 (c 1 0) x) 6 (c 1 0) 0) 2 0 0) 0 0 2) := by unfold kstp; rw [if_neg e0, if_pos e1, if_pos ⟨q, hk⟩]
        have R := r_takesComparison z a (c 1 0) x f0 f1 f2 f3 ha hx hk h3 q
        have h8' := h8 (by omega) (by omega)
        refine ⟨upd (upd f0 6 0) 5 2, f1, upd f2 (c 1 0) (nI x), upd f3 (c 1 0) 0, ?_, fun c1 h => ?_, fun h => (by rw [es] at h; cases h)⟩
        rotate_left
        · rw [es] at h; cases h
          refine ⟨?_, ?_, ?_, fun _ => ?_, fun j hj => ?_, fun _ _ => ?_, fun _ => ?_⟩
          · simpa [hu, upd] using h3
          · simpa [hu, upd] using h4
          · simp [hu, upd]; rfl
          · simp [hu, upd]; rfl
          · have hj2 : j < c 1 0 := by simpa [hu] using hj
            have := h7 j hj2
            have hne : ¬ j = c 1 0 := by omega
            simp [hu, upd, hne]; exact this
          · simpa [hu, upd] using h8'
          · simp [hu, upd]; rfl
        · rw [show ksb c x = 1 from by unfold ksb; rw [es]]
          refine mv_start pX0_takes (some .boolean) [some (.ref (34 + 4 * a)), some (.int (nI x))] rfl rfl rfl rfl (fun V C => ?_)
          refine mv_aload_n C rfl rfl ?_
          refine mv_getJ C rfl l0 rfl ((congrFun kx_0 5).trans h5) ?_
          refine mv_tsw_in C rfl (by decide) (by decide) rfl rfl ?_
          refine mv_aload_n C rfl rfl ?_
          refine mv_iload_n C rfl rfl ?_
          refine mv_cV C rfl (mv_up R rfl) (by decide) rfl rfl l0 (Nat.le_of_ble_eq_true rfl) (Nat.le_refl _) (Nat.le_refl _) rfl ?_
          refine mv_ireturn C rfl mv_okZ1 ?_ ?_
          all_goals rfl
      · have es : kstp c x = none := by unfold kstp; rw [if_neg e0, if_pos e1, if_neg (fun w => q w.1)]
        have R := r_takesComparisonN z a x f0 f1 f2 f3 ha hx q
        refine ⟨f0, f1, f2, f3, ?_, fun c1 h => (by rw [es] at h; cases h), fun _ => rfl⟩
        rw [show ksb c x = 0 from by unfold ksb; rw [es]]
        refine mv_start pX0_takes (some .boolean) [some (.ref (34 + 4 * a)), some (.int (nI x))] rfl rfl rfl rfl (fun V C => ?_)
        refine mv_aload_n C rfl rfl ?_
        refine mv_getJ C rfl l0 rfl ((congrFun kx_0 5).trans h5) ?_
        refine mv_tsw_in C rfl (by decide) (by decide) rfl rfl ?_
        refine mv_aload_n C rfl rfl ?_
        refine mv_iload_n C rfl rfl ?_
        refine mv_cV C rfl (mv_up R rfl) (by decide) rfl rfl l0 (Nat.le_of_ble_eq_true rfl) (Nat.le_refl _) (Nat.le_refl _) rfl ?_
        refine mv_ireturn C rfl mv_okZ0 ?_ ?_
        all_goals rfl
    · by_cases e2 : c 0 0 = 2
      · obtain ⟨p1, p2, p3, p4⟩ := j5 e2
        have hk : c 1 0 < 10 := by omega
        rw [e2] at h5
        have h6' := h6 (by omega)
        have h8' := h8 (by omega) (by omega)
        obtain ⟨h91, h92⟩ := h9 e2
        have hv := k10 p2
        by_cases qd : kdig x ∧ c 2 0 < 3
        · have es : kstp c x = some (hu (hu c 6 (c 1 0) (c 6 (c 1 0) * 10 + x - 48)) 2 0 (c 2 0 + 1)) := by unfold kstp; rw [if_neg e0, if_neg e1, if_pos e2, if_pos hk, if_pos qd]
          have R := r_inNumberD z a (c 1 0) (c 2 0) (c 6 (c 1 0)) x f0 f1 f2 f3 ha hx hk h3 h6' h92 (by omega) qd.2 qd.1
          refine ⟨upd f0 6 (nI (c 2 0 + 1)), f1, f2, upd f3 (c 1 0) (nI (c 6 (c 1 0) * 10 + x - 48)), ?_, fun c1 h => ?_, fun h => (by rw [es] at h; cases h)⟩
          rotate_left
          · rw [es] at h; cases h
            refine ⟨?_, ?_, ?_, fun _ => ?_, fun j hj => ?_, fun _ _ => ?_, fun _ => ?_⟩
            · simpa [hu, upd] using h3
            · simpa [hu, upd] using h4
            · simp [hu, upd, e2]; exact h5
            · simp [hu, upd]
            · have hj2 : j < c 1 0 := by simpa [hu] using hj
              have := h7 j hj2
              have hne : ¬ j = c 1 0 := by omega
              simp [hu, upd, hne]; exact this
            · simpa [hu, upd] using h8'
            · simp [hu, upd]; exact h91
          · rw [show ksb c x = 1 from by unfold ksb; rw [es]]
            refine mv_start pX0_takes (some .boolean) [some (.ref (34 + 4 * a)), some (.int (nI x))] rfl rfl rfl rfl (fun V C => ?_)
            refine mv_aload_n C rfl rfl ?_
            refine mv_getJ C rfl l0 rfl ((congrFun kx_0 5).trans h5) ?_
            refine mv_tsw_in C rfl (by decide) (by decide) rfl rfl ?_
            refine mv_aload_n C rfl rfl ?_
            refine mv_iload_n C rfl rfl ?_
            refine mv_cV C rfl (mv_up R rfl) (by decide) rfl rfl l0 (Nat.le_of_ble_eq_true rfl) (Nat.le_refl _) (Nat.le_refl _) rfl ?_
            refine mv_ireturn C rfl mv_okZ1 ?_ ?_
            all_goals rfl
        · by_cases qe : ¬ c 2 0 = 0 ∧ (x = 38 ∨ x = 58)
          · have es : kstp c x = some (hu (hu (hu c 1 0 (c 1 0 + 1)) 2 0 0) 0 0 (if x = 38 then 0 else 3)) := by unfold kstp; rw [if_neg e0, if_neg e1, if_pos e2, if_pos hk, if_neg qd, if_pos qe]
            have R := r_inNumberE z a (c 1 0) (c 2 0) x f0 f1 f2 f3 ha hx hk h3 h6' p2 qd qe
            refine ⟨upd (upd (upd f0 3 (nI (c 1 0 + 1))) 6 0) 5 (nI (if x = 38 then 0 else 3)), f1, f2, f3, ?_, fun c1 h => ?_, fun h => (by rw [es] at h; cases h)⟩
            rotate_left
            · rw [es] at h; cases h
              refine ⟨?_, ?_, ?_, fun _ => ?_, fun j hj => ?_, fun h1 h2 => ?_, fun h1 => ?_⟩
              · simp [hu, upd]
              · simpa [hu, upd] using h4
              · simp [hu, upd]
              · simp [hu, upd]; rfl
              · have hj2 : j < c 1 0 + 1 := by simpa [hu] using hj
                have e4 : (hu (hu (hu c 1 0 (c 1 0 + 1)) 2 0 0) 0 0 (if x = 38 then 0 else 3)) 4 j = c 4 j := by simp [hu]
                have e5 : (hu (hu (hu c 1 0 (c 1 0 + 1)) 2 0 0) 0 0 (if x = 38 then 0 else 3)) 5 j = c 5 j := by simp [hu]
                have e6 : (hu (hu (hu c 1 0 (c 1 0 + 1)) 2 0 0) 0 0 (if x = 38 then 0 else 3)) 6 j = c 6 j := by simp [hu]
                rw [e4, e5, e6]
                by_cases ej : j = c 1 0
                · subst ej; exact ⟨h8', h91, h92⟩
                · exact h7 j (by omega)
              · exfalso
                simp [hu] at h1 h2
                split at h2 <;> simp_all
              · exfalso
                simp [hu] at h1
                split at h1 <;> simp_all
            · rw [show ksb c x = 1 from by unfold ksb; rw [es]]
              refine mv_start pX0_takes (some .boolean) [some (.ref (34 + 4 * a)), some (.int (nI x))] rfl rfl rfl rfl (fun V C => ?_)
              refine mv_aload_n C rfl rfl ?_
              refine mv_getJ C rfl l0 rfl ((congrFun kx_0 5).trans h5) ?_
              refine mv_tsw_in C rfl (by decide) (by decide) rfl rfl ?_
              refine mv_aload_n C rfl rfl ?_
              refine mv_iload_n C rfl rfl ?_
              refine mv_cV C rfl (mv_up R rfl) (by decide) rfl rfl l0 (Nat.le_of_ble_eq_true rfl) (Nat.le_refl _) (Nat.le_refl _) rfl ?_
              refine mv_ireturn C rfl mv_okZ1 ?_ ?_
              all_goals rfl
          · have es : kstp c x = none := by unfold kstp; rw [if_neg e0, if_neg e1, if_pos e2, if_pos hk, if_neg qd, if_neg qe]
            have R := r_inNumberN z a (c 1 0) (c 2 0) x f0 f1 f2 f3 ha hx hk h3 h6' p2 qd qe
            refine ⟨f0, f1, f2, f3, ?_, fun c1 h => (by rw [es] at h; cases h), fun _ => rfl⟩
            rw [show ksb c x = 0 from by unfold ksb; rw [es]]
            refine mv_start pX0_takes (some .boolean) [some (.ref (34 + 4 * a)), some (.int (nI x))] rfl rfl rfl rfl (fun V C => ?_)
            refine mv_aload_n C rfl rfl ?_
            refine mv_getJ C rfl l0 rfl ((congrFun kx_0 5).trans h5) ?_
            refine mv_tsw_in C rfl (by decide) (by decide) rfl rfl ?_
            refine mv_aload_n C rfl rfl ?_
            refine mv_iload_n C rfl rfl ?_
            refine mv_cV C rfl (mv_up R rfl) (by decide) rfl rfl l0 (Nat.le_of_ble_eq_true rfl) (Nat.le_refl _) (Nat.le_refl _) rfl ?_
            refine mv_ireturn C rfl mv_okZ0 ?_ ?_
            all_goals rfl
      · have e3 : c 0 0 = 3 := by omega
        obtain ⟨p2, p3⟩ := j6 e3
        rw [e3] at h5
        have h6' := h6 (by omega)
        have hv := k10 p2
        by_cases qd : kdig x ∧ c 2 0 < 3
        · have es : kstp c x = some (hu (hu c 3 0 (c 3 0 * 10 + x - 48)) 2 0 (c 2 0 + 1)) := by unfold kstp; rw [if_neg e0, if_neg e1, if_neg e2, if_pos qd]
          have R := r_inWeight z a (c 2 0) (c 3 0) x f0 f1 f2 f3 ha hx h4 h6' (by omega) qd.2 qd.1
          refine ⟨upd (upd f0 4 (nI (c 3 0 * 10 + x - 48))) 6 (nI (c 2 0 + 1)), f1, f2, f3, ?_, fun c1 h => ?_, fun h => (by rw [es] at h; cases h)⟩
          rotate_left
          · rw [es] at h; cases h
            refine ⟨?_, ?_, ?_, fun _ => ?_, fun j hj => ?_, fun h1 h2 => ?_, fun h1 => ?_⟩
            · simpa [hu, upd] using h3
            · simp [hu, upd]
            · simp [hu, upd, e3]; exact h5
            · simp [hu, upd]
            · have hj2 : j < c 1 0 := by simpa [hu] using hj
              have := h7 j hj2
              simpa [hu, upd] using this
            · exfalso; simp [hu, e3] at h2
            · exfalso; simp [hu, e3] at h1
          · rw [show ksb c x = 1 from by unfold ksb; rw [es]]
            refine mv_start pX0_takes (some .boolean) [some (.ref (34 + 4 * a)), some (.int (nI x))] rfl rfl rfl rfl (fun V C => ?_)
            refine mv_aload_n C rfl rfl ?_
            refine mv_getJ C rfl l0 rfl ((congrFun kx_0 5).trans h5) ?_
            refine mv_tsw_out C rfl (Or.inr (by decide)) rfl ?_
            refine mv_aload_n C rfl rfl ?_
            refine mv_iload_n C rfl rfl ?_
            refine mv_cV C rfl (mv_up R rfl) (by decide) rfl rfl l0 (Nat.le_of_ble_eq_true rfl) (Nat.le_refl _) (Nat.le_refl _) rfl ?_
            refine mv_ireturn C rfl mv_okZ1 ?_ ?_
            all_goals rfl
        · have es : kstp c x = none := by unfold kstp; rw [if_neg e0, if_neg e1, if_neg e2, if_neg qd]
          have R := r_inWeightN z a (c 2 0) x f0 f1 f2 f3 ha hx h6' p2 qd
          refine ⟨f0, f1, f2, f3, ?_, fun c1 h => (by rw [es] at h; cases h), fun _ => rfl⟩
          rw [show ksb c x = 0 from by unfold ksb; rw [es]]
          refine mv_start pX0_takes (some .boolean) [some (.ref (34 + 4 * a)), some (.int (nI x))] rfl rfl rfl rfl (fun V C => ?_)
          refine mv_aload_n C rfl rfl ?_
          refine mv_getJ C rfl l0 rfl ((congrFun kx_0 5).trans h5) ?_
          refine mv_tsw_out C rfl (Or.inr (by decide)) rfl ?_
          refine mv_aload_n C rfl rfl ?_
          refine mv_iload_n C rfl rfl ?_
          refine mv_cV C rfl (mv_up R rfl) (by decide) rfl rfl l0 (Nat.le_of_ble_eq_true rfl) (Nat.le_refl _) (Nat.le_refl _) rfl ?_
          refine mv_ireturn C rfl mv_okZ0 ?_ ?_
          all_goals rfl
end

