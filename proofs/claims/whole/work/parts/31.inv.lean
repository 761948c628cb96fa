section
theorem i_parish (u : hM) (c : Int32) (hi : hI u) : hI (o_parish u c) := by
  unfold o_parish
  split
  · rename_i hc
    have hk : c.toNatClampNeg < 6 := cl_le hc.1.1 (show c < nI 6 from hc.1.2) (by decide)
    have hc2 := hc.2
    clear hc
    generalize c.toNatClampNeg = k at *
    unfold hI at *
    simp only [hu, Nat.reduceEqDiff, false_and, if_false, true_and, and_self, if_true, reduceIte]
    obtain ⟨h0, h1, h2, h3, h4, h5, h6, h7, h8, h9, h10, h11, h12, h13, h14, h15, h16, h17, h18, h19, h20, h21⟩ := hi
    refine ⟨?_, ?_, ?_, ?_, ?_, ?_, ?_, ?_, ?_, ?_, ?_, ?_, ?_, ?_, ?_, ?_, ?_, ?_, ?_, ?_, ?_, ?_⟩
    all_goals first | assumption | grind
  · exact hi
theorem i_road (u : hM) (a b h : Int32) (hi : hI u) : hI (o_road u a b h) := by
  unfold o_road
  split
  · rename_i hc
    have h24 := hi.1
    have ha : a.toNatClampNeg < u 0 0 := cl_le hc.1.1 hc.1.2 (by omega)
    have hb : b.toNatClampNeg < u 0 0 := cl_le hc.2.1.1 hc.2.1.2 (by omega)
    have hab : a.toNatClampNeg ≠ b.toNatClampNeg := fun q => hc.2.2.1 (by rw [nI_nn hc.1.1, nI_nn hc.2.1.1, q])
    have hh1 : 1 ≤ h.toNatClampNeg ∧ h.toNatClampNeg ≤ 12 := by
      have e := nI_nn (i32_1le hc.2.2.2.1.1)
      have l : h.toNatClampNeg < 13 := cl_le (i32_1le hc.2.2.2.1.1) (show h < nI 13 by have := hc.2.2.2.1.2; rw [i32_le, i32_12] at this; rw [i32_lt, nI_toInt (by decide)]; omega) (by decide)
      have g := hc.2.2.2.1.1
      rw [e] at g
      exact ⟨(nI_leI (a := 1) (by decide) (by omega)).mp g, by omega⟩
    have hc2 := hc.2.2.2.2
    clear hc
    generalize a.toNatClampNeg = ka at *
    generalize b.toNatClampNeg = kb at *
    generalize h.toNatClampNeg = kh at *
    unfold hI at *
    simp only [hu, Nat.reduceEqDiff, false_and, if_false, true_and, and_self, if_true, reduceIte]
    obtain ⟨h0, h1, h2, h3, h4, h5, h6, h7, h8, h9, h10, h11, h12, h13, h14, h15, h16, h17, h18, h19, h20, h21⟩ := hi
    refine ⟨?_, ?_, ?_, ?_, ?_, ?_, ?_, ?_, ?_, ?_, ?_, ?_, ?_, ?_, ?_, ?_, ?_, ?_, ?_, ?_, ?_, ?_⟩
    all_goals first | assumption | grind
  · exact hi
end

