section
theorem i_parish (u : hM) (c : Int32) (hi : hI u) : hI (o_parish u c) := by
  unfold o_parish
  split
  · rename_i hc
    have hk : c.toNatClampNeg < 6 := cl_le hc.1.1 (show c < nI 6 from hc.1.2) (by decide)
    have hc2 := hc.2
    clear hc
    generalize c.toNatClampNeg = k at *
    unfold hI at *
    simp only [hu, Nat.reduceEqDiff, false_and, if_false, true_and, and_self, if_true, reduceIte]
    obtain ⟨h0, h1, h2, h3, h4, h5, h6, h7, h8, h9, h10, h11, h12, h13, h14, h15, h16, h17, h18, h19, h20, h21⟩ := hi
    refine ⟨?_, ?_, ?_, ?_, ?_, ?_, ?_, ?_, ?_, ?_, ?_, ?_, ?_, ?_, ?_, ?_, ?_, ?_, ?_, ?_, ?_, ?_⟩
    all_goals first | assumption | grind
  · exact hi
theorem i_road (u : hM) (a b h : Int32) (hi : hI u) : hI (o_road u a b h) := by
  unfold o_road
  split
  · rename_i hc
    have h24 := hi.1
    have ha : a.toNatClampNeg < u 0 0 := cl_le hc.1.1 hc.1.2 (by omega)
    have hb : b.toNatClampNeg < u 0 0 := cl_le hc.2.1.1 hc.2.1.2 (by omega)
    have hab : a.toNatClampNeg ≠ b.toNatClampNeg := fun q => hc.2.2.1 (by rw [nI_nn hc.1.1, nI_nn hc.2.1.1, q])
    have hh1 : 1 ≤ h.toNatClampNeg ∧ h.toNatClampNeg ≤ 12 := by
      have e := nI_nn (i32_1le hc.2.2.2.1.1)
      have l : h.toNatClampNeg < 13 := cl_le (i32_1le hc.2.2.2.1.1) (show h < nI 13 by have := hc.2.2.2.1.2; rw [i32_le, i32_12] at this; rw [i32_lt, nI_toInt (by decide)]; omega) (by decide)
      have g := hc.2.2.2.1.1
      rw [e] at g
      exact ⟨(nI_leI (a := 1) (by decide) (by omega)).mp g, by omega⟩
    have hc2 := hc.2.2.2.2
    clear hc
    generalize a.toNatClampNeg = ka at *
    generalize b.toNatClampNeg = kb at *
    generalize h.toNatClampNeg = kh at *
    unfold hI at *
    simp only [hu, Nat.reduceEqDiff, false_and, if_false, true_and, and_self, if_true, reduceIte]
    obtain ⟨h0, h1, h2, h3, h4, h5, h6, h7, h8, h9, h10, h11, h12, h13, h14, h15, h16, h17, h18, h19, h20, h21⟩ := hi
    refine ⟨?_, ?_, ?_, ?_, ?_, ?_, ?_, ?_, ?_, ?_, ?_, ?_, ?_, ?_, ?_, ?_, ?_, ?_, ?_, ?_, ?_, ?_⟩
    all_goals first | assumption | grind
  · exact hi

theorem i_shut (u : hM) (r : Int32) (v : Nat) (hv : v ≤ 1) (hi : hI u) : hI (o_shut u r v) := by
  unfold o_shut
  split
  · generalize r.toNatClampNeg = k at *
    unfold hI at *
    simp only [hu, Nat.reduceEqDiff, false_and, if_false, true_and, and_self, if_true, reduceIte]
    obtain ⟨h0, h1, h2, h3, h4, h5, h6, h7, h8, h9, h10, h11, h12, h13, h14, h15, h16, h17, h18, h19, h20, h21⟩ := hi
    refine ⟨?_, ?_, ?_, ?_, ?_, ?_, ?_, ?_, ?_, ?_, ?_, ?_, ?_, ?_, ?_, ?_, ?_, ?_, ?_, ?_, ?_, ?_⟩
    all_goals first | assumption | grind
  · exact hi
theorem i_strike (u : hM) (r : Int32) (v : Nat) (hv : v ≤ 1) (hi : hI u) : hI (o_strike u r v) := by
  unfold o_strike
  split
  · rename_i hc
    have hk : r.toNatClampNeg < u 9 0 := cl_le hc.1 hc.2 (by have := hi.2.2.2.2.2.2.2.1; omega)
    clear hc
    generalize r.toNatClampNeg = k at *
    unfold hI at *
    simp only [hu, Nat.reduceEqDiff, false_and, if_false, true_and, and_self, if_true, reduceIte]
    obtain ⟨h0, h1, h2, h3, h4, h5, h6, h7, h8, h9, h10, h11, h12, h13, h14, h15, h16, h17, h18, h19, h20, h21⟩ := hi
    refine ⟨?_, ?_, ?_, ?_, ?_, ?_, ?_, ?_, ?_, ?_, ?_, ?_, ?_, ?_, ?_, ?_, ?_, ?_, ?_, ?_, ?_, ?_⟩
    all_goals first | assumption | grind
  · exact hi
theorem i_exit (u : hM) (r : Int32) (v : Nat) (hv : v ≤ 1) (hi : hI u) : hI (o_exit u r v) := by
  unfold o_exit
  split
  · rename_i hc
    have hk : r.toNatClampNeg < u 0 0 := cl_le hc.1 hc.2 (by have := hi.1; omega)
    clear hc
    generalize r.toNatClampNeg = k at *
    unfold hI at *
    simp only [hu, Nat.reduceEqDiff, false_and, if_false, true_and, and_self, if_true, reduceIte]
    obtain ⟨h0, h1, h2, h3, h4, h5, h6, h7, h8, h9, h10, h11, h12, h13, h14, h15, h16, h17, h18, h19, h20, h21⟩ := hi
    refine ⟨?_, ?_, ?_, ?_, ?_, ?_, ?_, ?_, ?_, ?_, ?_, ?_, ?_, ?_, ?_, ?_, ?_, ?_, ?_, ?_, ?_, ?_⟩
    all_goals first | assumption | grind
  · exact hi
theorem i_begin (u : hM) (r : Int32) (hi : hI u) : hI (o_begin u r) := by
  unfold o_begin
  split
  · rename_i hc
    have hk : r.toNatClampNeg < u 0 0 := cl_le hc.1 hc.2 (by have := hi.1; omega)
    clear hc
    generalize r.toNatClampNeg = k at *
    unfold hI at *
    simp only [hu, Nat.reduceEqDiff, false_and, if_false, true_and, and_self, if_true, reduceIte]
    obtain ⟨h0, h1, h2, h3, h4, h5, h6, h7, h8, h9, h10, h11, h12, h13, h14, h15, h16, h17, h18, h19, h20, h21⟩ := hi
    refine ⟨?_, ?_, ?_, ?_, ?_, ?_, ?_, ?_, ?_, ?_, ?_, ?_, ?_, ?_, ?_, ?_, ?_, ?_, ?_, ?_, ?_, ?_⟩
    all_goals first | assumption | grind
  · exact hi
theorem i_fact (u : hM) (key k : Nat) (o h : Int32) (hk : (key = 0 ∧ k < 2) ∨ (key = 2 ∧ k = 2)) (hi : hI u) : hI (o_fact u key k o h) := by
  unfold o_fact
  split
  · rename_i hc
    have hkey : u key 0 ≤ 40 := by rcases hk with ⟨rfl, -⟩ | ⟨rfl, -⟩; (have := hi.1; omega); exact hi.2.2.1
    have ho : o.toNatClampNeg < u key 0 := cl_le hc.1.1 hc.1.2 (by omega)
    have hh : h.toNatClampNeg < 48 := cl_le hc.2.1.1 (show h < nI 48 from hc.2.1.2) (by decide)
    have h40 := hc.2.2
    clear hc
    generalize o.toNatClampNeg = ko at *
    generalize h.toNatClampNeg = kh at *
    rcases hk with ⟨rfl, hk⟩ | ⟨rfl, rfl⟩
    · skip
      unfold hI at *
      simp only [hu, Nat.reduceEqDiff, false_and, if_false, true_and, and_self, if_true, reduceIte]
      obtain ⟨h0, h1, h2, h3, h4, h5, h6, h7, h8, h9, h10, h11, h12, h13, h14, h15, h16, h17, h18, h19, h20, h21⟩ := hi
      refine ⟨?_, ?_, ?_, ?_, ?_, ?_, ?_, ?_, ?_, ?_, ?_, ?_, ?_, ?_, ?_, ?_, ?_, ?_, ?_, ?_, ?_, ?_⟩
      all_goals first | assumption | grind
    · skip
      unfold hI at *
      simp only [hu, Nat.reduceEqDiff, false_and, if_false, true_and, and_self, if_true, reduceIte]
      obtain ⟨h0, h1, h2, h3, h4, h5, h6, h7, h8, h9, h10, h11, h12, h13, h14, h15, h16, h17, h18, h19, h20, h21⟩ := hi
      refine ⟨?_, ?_, ?_, ?_, ?_, ?_, ?_, ?_, ?_, ?_, ?_, ?_, ?_, ?_, ?_, ?_, ?_, ?_, ?_, ?_, ?_, ?_⟩
      all_goals first | assumption | grind
  · exact hi
theorem i_trait (u : hM) (t v b : Int32) (hi : hI u) : hI (o_trait u t v b) := by
  unfold o_trait
  cases hc : c_trait t v b with
  | false => exact hi
  | true =>
    simp only [c_trait, Bool.and_eq_true, decide_eq_true_eq] at hc
    obtain ⟨⟨ht, hv⟩, hb⟩ := hc
    have hv1 : (v.toInt + 1).toNat ≤ 32 := by have := hv.2; rw [i32_le, i32_31] at this; omega
    have hb1 : b.toNatClampNeg < 32 := cl_le hb.1 (show b < nI 32 by have := hb.2; rw [i32_le, i32_31] at this; rw [i32_lt, nI_toInt (by decide)]; omega) (by decide)
    clear ht hv hb
    simp only [cond_true]
    generalize t.toNatClampNeg = k at *
    generalize (v.toInt + 1).toNat = v1 at *
    generalize b.toNatClampNeg = b1 at *
    unfold hI at *
    simp only [hu, Nat.reduceEqDiff, false_and, if_false, true_and, and_self, if_true, reduceIte]
    obtain ⟨h0, h1, h2, h3, h4, h5, h6, h7, h8, h9, h10, h11, h12, h13, h14, h15, h16, h17, h18, h19, h20, h21⟩ := hi
    refine ⟨?_, ?_, ?_, ?_, ?_, ?_, ?_, ?_, ?_, ?_, ?_, ?_, ?_, ?_, ?_, ?_, ?_, ?_, ?_, ?_, ?_, ?_⟩
    all_goals first | assumption | grind
theorem i_telling (u : hM) (n : Int32) (hi : hI u) : hI (o_telling u n) := by
  unfold o_telling
  split
  · generalize n.toNatClampNeg = k at *
    have hb : ∀ i, hnb u k i ≤ 31 := fun i => by
      have := (hi.2.2.2.2.2.2.2.2.2.2.1 i).2
      unfold hnb; split; exact this; split <;> omega
    unfold hI at *
    simp only [hu, htell, Nat.reduceEqDiff, false_and, if_false, true_and, and_self, if_true, reduceIte]
    obtain ⟨h0, h1, h2, h3, h4, h5, h6, h7, h8, h9, h10, h11, h12, h13, h14, h15, h16, h17, h18, h19, h20, h21⟩ := hi
    refine ⟨?_, ?_, ?_, ?_, ?_, ?_, ?_, ?_, ?_, ?_, ?_, ?_, ?_, ?_, ?_, ?_, ?_, ?_, ?_, ?_, ?_, ?_⟩
    all_goals first | assumption | grind
  · exact hi
theorem dig_lt (A B k : Nat) : dig A B k < 32 := Nat.mod_lt _ (by decide)
theorem i_person (u : hM) (p a b : Int32) (hi : hI u) : hI (o_person u p a b) := by
  unfold o_person
  split
  · rename_i hc
    have hp : p.toNatClampNeg < u 0 0 := cl_le hc.1.1 hc.1.2 (by have := hi.1; omega)
    have h30 := hc.2.2.2
    clear hc
    generalize p.toNatClampNeg = kp at *
    generalize a.toNatClampNeg = A at *
    generalize b.toNatClampNeg = B at *
    have hd := dig_lt A B
    unfold hI at *
    simp only [hu, h18, Nat.reduceEqDiff, false_and, if_false, true_and, and_self, if_true, reduceIte]
    obtain ⟨h0, h1, h2, h3, h4, h5, h6, h7, h8, h9, h10, h11, h12, h13, h14, h15, h16, h17, h18, h19, h20, h21⟩ := hi
    refine ⟨?_, ?_, ?_, ?_, ?_, ?_, ?_, ?_, ?_, ?_, ?_, ?_, ?_, ?_, ?_, ?_, ?_, ?_, ?_, ?_, ?_, ?_⟩
    all_goals first | assumption | grind
  · exact hi
theorem i_sign (u : hM) (v : Int32) (hi : hI u) : hI (o_sign u v) := by
  unfold o_sign
  split
  · have hb := byt_lt v
    unfold hI at *
    simp only [hu, h20, Nat.reduceEqDiff, false_and, if_false, true_and, and_self, if_true, reduceIte]
    obtain ⟨h0, h1, h2, h3, h4, h5, h6, h7, h8, h9, h10, h11, h12, h13, h14, h15, h16, h17, h18, h19, h20, h21⟩ := hi
    refine ⟨?_, ?_, ?_, ?_, ?_, ?_, ?_, ?_, ?_, ?_, ?_, ?_, ?_, ?_, ?_, ?_, ?_, ?_, ?_, ?_, ?_, ?_⟩
    all_goals first | assumption | grind
  · exact hi
theorem i_end (u : hM) (n : Int32) (hi : hI u) : hI (o_end u n) := by
  unfold o_end
  split
  · rename_i hc
    have h100 : u 19 0 ≤ 100 := hi.2.2.2.2.2.2.2.2.2.2.2.2.2.2.1
    have hn : n.toNatClampNeg < 101 := cl_le hc.1 (show n < nI 101 by have := hc.2; rw [i32_le, nI_toInt (by omega)] at this; rw [i32_lt, nI_toInt (by decide)]; omega) (by decide)
    clear hc
    generalize n.toNatClampNeg = k at *
    unfold hI at *
    simp only [hu, Nat.reduceEqDiff, false_and, if_false, true_and, and_self, if_true, reduceIte]
    obtain ⟨h0, h1, h2, h3, h4, h5, h6, h7, h8, h9, h10, h11, h12, h13, h14, h15, h16, h17, h18, h19, h20, h21⟩ := hi
    refine ⟨?_, ?_, ?_, ?_, ?_, ?_, ?_, ?_, ?_, ?_, ?_, ?_, ?_, ?_, ?_, ?_, ?_, ?_, ?_, ?_, ?_, ?_⟩
    all_goals first | assumption | grind
  · exact hi
theorem i_repeal (u : hM) (hi : hI u) : hI (hu u 21 0 0) := by
  unfold hI at *
  simp only [hu, Nat.reduceEqDiff, false_and, if_false, true_and, and_self, if_true, reduceIte]
  obtain ⟨h0, h1, h2, h3, h4, h5, h6, h7, h8, h9, h10, h11, h12, h13, h14, h15, h16, h17, h18, h19, h20, h21⟩ := hi
  refine ⟨?_, ?_, ?_, ?_, ?_, ?_, ?_, ?_, ?_, ?_, ?_, ?_, ?_, ?_, ?_, ?_, ?_, ?_, ?_, ?_, ?_, ?_⟩
  all_goals first | assumption | grind
theorem i_waive (u : hM) (hi : hI u) : hI (hu u 27 0 0) := by
  unfold hI at *
  simp only [hu, Nat.reduceEqDiff, false_and, if_false, true_and, and_self, if_true, reduceIte]
  obtain ⟨h0, h1, h2, h3, h4, h5, h6, h7, h8, h9, h10, h11, h12, h13, h14, h15, h16, h17, h18, h19, h20, h21⟩ := hi
  refine ⟨?_, ?_, ?_, ?_, ?_, ?_, ?_, ?_, ?_, ?_, ?_, ?_, ?_, ?_, ?_, ?_, ?_, ?_, ?_, ?_, ?_, ?_⟩
  all_goals first | assumption | grind
theorem i_claim (u : hM) (p h : Int32) (hi : hI u) : hI (o_claim u p h) := by
  unfold o_claim
  split
  · rename_i hc
    have hp : p.toNatClampNeg < u 0 0 := cl_le hc.1.1 hc.1.2 (by have := hi.1; omega)
    have hh : h.toNatClampNeg < 48 := cl_le hc.2.1.1 (show h < nI 48 from hc.2.1.2) (by decide)
    have h12 := hc.2.2
    clear hc
    generalize p.toNatClampNeg = kp at *
    generalize h.toNatClampNeg = kh at *
    unfold hI at *
    simp only [hu, Nat.reduceEqDiff, false_and, if_false, true_and, and_self, if_true, reduceIte]
    obtain ⟨h0, h1, h2, h3, h4, h5, h6, h7, h8, h9, h10, h11, h12, h13, h14, h15, h16, h17, h18, h19, h20, h21⟩ := hi
    refine ⟨?_, ?_, ?_, ?_, ?_, ?_, ?_, ?_, ?_, ?_, ?_, ?_, ?_, ?_, ?_, ?_, ?_, ?_, ?_, ?_, ?_, ?_⟩
    all_goals first | assumption | grind
  · exact hi
theorem hI_row (u : hM) (n : Nat) (g : Nat → Nat) (hn : n ≤ 48) (hg : ∀ i, g i ≤ 1000000) (hi : hI u) : hI (hrw u n g) := by
  unfold hI at *
  simp only [hu, hrw, Nat.reduceEqDiff, false_and, if_false, true_and, and_self, if_true, reduceIte]
  obtain ⟨h0, h1, h2, h3, h4, h5, h6, h7, h8, h9, h10, h11, h12, h13, h14, h15, h16, h17, h18, h19, h20, h21⟩ := hi
  refine ⟨?_, ?_, ?_, ?_, ?_, ?_, ?_, ?_, ?_, ?_, ?_, ?_, ?_, ?_, ?_, ?_, ?_, ?_, ?_, ?_, ?_, ?_⟩
  all_goals first | assumption | grind
theorem hrow_le (u : hM) (R : Nat) (hR : R ≤ 1000000) (i : Nat) : hrow u R i ≤ 1000000 := by
  unfold hrow
  split
  · rename_i hc
    have h1 := hpart_le R (hwt u) (u 27 0) (u 27 0) (Nat.le_refl _)
    have h2 := hpart_le R (hwt u) (u 27 0) (i + 1) (by omega)
    have h3 := hsum_mono (fun c => hpart R (hsum (hwt u) (u 27 0)) (hwt u c)) (show i + 1 ≤ u 27 0 by omega)
    simp only [hsum] at h2 h3
    unfold hrest
    split <;> omega
  · omega
theorem i_reward (u : hM) (R : Int32) (hi : hI u) : hI (o_reward u R) := by
  unfold o_reward
  split
  · rename_i hc
    have hr : R.toNatClampNeg < 1000001 := cl_le (i32_1le hc.1) (show R < nI 1000001 by have := hc.2; rw [i32_le, i32_1000000] at this; rw [i32_lt, nI_toInt (by decide)]; omega) (by decide)
    exact hI_row u _ _ (by have := hi.2.2.2.2.2.2.2.2.2.2.2.2.2.2.2.2.2.2.1; omega) (hrow_le u _ (by omega)) hi
  · exact hi
end

