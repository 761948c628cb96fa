section
def kus (x y : Int32) : Int32 := (x.toUInt32 >>> (y.toUInt32 &&& Int32.toUInt32 31)).toInt32
def kn4 (n i : Int32) : Int32 := n + kus i 1
def kn3 (n i : Int32) : Int32 := if i ≤ 4 then kn4 n i else kn4 (n + 2) (kus i 2)
def kn2 (n i : Int32) : Int32 := if i ≤ 16 then kn3 n i else kn3 (n + 4) (kus i 4)
def kn1 (n i : Int32) : Int32 := if i ≤ 256 then kn2 n i else kn2 (n + 8) (kus i 8)
def kn0 (n i : Int32) : Int32 := if i ≤ 65536 then kn1 n i else kn1 (n + 16) (kus i 16)
/-- the lowest bit, from its mask -/
def knm (i : Int32) : Int32 := if 0 < i then kn0 1 i else i &&& 32
theorem r_ntz (z : mv_Z) (x : Int32) : mv_Runs 1 170 [.int x] (mv_E z) (some (.int (knm ((x ^^^ (-1)) &&& (x - 1))))) (mv_E z) := by
  generalize hv : knm ((x ^^^ (-1)) &&& (x - 1)) = v
  refine mv_start pJ6_numberOfTrailingZeros_0f7a4 (some .int) [some (.int x), none] rfl rfl rfl rfl (fun V C => ?_)
  have s4 : ∀ n i : Int32, kn4 n i = v → V 74 [some (.int i), some (.int n)] [] (mv_E z) := by
    intro n i h
    subst h
    refine mv_iload_n C rfl rfl ?_
    refine mv_iload_n C rfl rfl ?_
    refine mv_iconst C rfl ?_
    refine mv_iushr C rfl ?_
    refine mv_iadd C rfl ?_
    refine mv_ireturn C rfl mv_okI ?_ ?_
    all_goals rfl
  have s3 : ∀ n i : Int32, kn3 n i = v → V 62 [some (.int i), some (.int n)] [] (mv_E z) := by
    intro n i h
    unfold kn3 at h
    refine mv_iload_n C rfl rfl ?_
    refine mv_iconst C rfl ?_
    refine mv_icmp_le C rfl (fun c64 => ?_) (fun c64 => ?_)
    · rw [if_pos c64] at h
      exact s4 _ _ h
    · rw [if_neg c64] at h
      refine mv_inc1 C rfl rfl ?_
      refine mv_iload_n C rfl rfl ?_
      refine mv_iconst C rfl ?_
      refine mv_iushr C rfl ?_
      refine mv_is_n0 C rfl ?_
      exact s4 _ _ h
  have s2 : ∀ n i : Int32, kn2 n i = v → V 49 [some (.int i), some (.int n)] [] (mv_E z) := by
    intro n i h
    unfold kn2 at h
    refine mv_iload_n C rfl rfl ?_
    refine mv_bipush C rfl ?_
    refine mv_icmp_le C rfl (fun c52 => ?_) (fun c52 => ?_)
    · rw [if_pos c52] at h
      exact s3 _ _ h
    · rw [if_neg c52] at h
      refine mv_inc1 C rfl rfl ?_
      refine mv_iload_n C rfl rfl ?_
      refine mv_iconst C rfl ?_
      refine mv_iushr C rfl ?_
      refine mv_is_n0 C rfl ?_
      exact s3 _ _ h
  have s1 : ∀ n i : Int32, kn1 n i = v → V 34 [some (.int i), some (.int n)] [] (mv_E z) := by
    intro n i h
    unfold kn1 at h
    refine mv_iload_n C rfl rfl ?_
    refine mv_sipush C rfl ?_
    refine mv_icmp_le C rfl (fun c38 => ?_) (fun c38 => ?_)
    · rw [if_pos c38] at h
      exact s2 _ _ h
    · rw [if_neg c38] at h
      refine mv_inc1 C rfl rfl ?_
      refine mv_iload_n C rfl rfl ?_
      refine mv_bipush C rfl ?_
      refine mv_iushr C rfl ?_
      refine mv_is_n0 C rfl ?_
      exact s2 _ _ h
  have s0 : ∀ n i : Int32, kn0 n i = v → V 19 [some (.int i), some (.int n)] [] (mv_E z) := by
    intro n i h
    unfold kn0 at h
    refine mv_iload_n C rfl rfl ?_
    refine mv_ldc_w C rfl ?_
    refine mv_icmp_le C rfl (fun c23 => ?_) (fun c23 => ?_)
    · rw [if_pos c23] at h
      exact s1 _ _ h
    · rw [if_neg c23] at h
      refine mv_inc1 C rfl rfl ?_
      refine mv_iload_n C rfl rfl ?_
      refine mv_bipush C rfl ?_
      refine mv_iushr C rfl ?_
      refine mv_is_n0 C rfl ?_
      exact s1 _ _ h
  unfold knm at hv
  refine mv_iload_n C rfl rfl ?_
  refine mv_iconst C rfl ?_
  refine mv_ixor C rfl ?_
  refine mv_iload_n C rfl rfl ?_
  refine mv_iconst C rfl ?_
  refine mv_isub C rfl ?_
  refine mv_iand C rfl ?_
  refine mv_is_n0 C rfl ?_
  refine mv_iload_n C rfl rfl ?_
  refine mv_if_gt C rfl (fun c9 => ?_) (fun c9 => ?_)
  · rw [if_pos c9] at hv
    refine mv_iconst C rfl ?_
    refine mv_is_n1 C rfl rfl ?_
    exact s0 _ _ hv
  · rw [if_neg c9] at hv
    refine mv_iload_n C rfl rfl ?_
    refine mv_bipush C rfl ?_
    refine mv_iand C rfl ?_
    refine mv_ireturn C rfl mv_okI ?_ ?_
    all_goals first | rfl | (rw [← hv])
theorem knm_k : ∀ k, k < 32 → knm (nI (2 ^ k - 1)) = nI k := by decide +kernel
theorem kmk_t {a k j : Nat} : (2 ^ k * (2 * a) + (2 ^ k - 1)).testBit j = if j < k then true else (2 * a).testBit (j - k) := by
  have h : 2 ^ k - 1 < 2 ^ k := by have := Nat.two_pow_pos k; omega
  rw [Nat.testBit_two_pow_mul_add _ h]
  by_cases e : j < k
  · rw [if_pos e, if_pos e, Nat.testBit_two_pow_sub_one]; simp [e]
  · rw [if_neg e, if_neg e]
theorem kmk_n : ∀ (n : Nat), 0 < n → ∃ k a, n = 2 ^ k * (2 * a + 1)
  | n, h => by
    by_cases e : n % 2 = 1
    · exact ⟨0, n / 2, by rw [Nat.pow_zero]; omega⟩
    · obtain ⟨k, a, q⟩ := kmk_n (n / 2) (by omega)
      refine ⟨k + 1, a, ?_⟩
      rw [Nat.pow_succ, Nat.mul_assoc, Nat.mul_comm, Nat.mul_assoc, ← Nat.mul_comm (2 ^ k), ← q]; omega
  termination_by n => n
theorem kntz_ok {x : Int32} (hx : ¬ x = 0) : ∃ k, k < 32 ∧ hbit x k = true ∧ knm ((x ^^^ (-1)) &&& (x - 1)) = nI k := by
  obtain ⟨k, a, hk⟩ := kmk_n x.toBitVec.toNat (by
    rcases Nat.eq_zero_or_pos x.toBitVec.toNat with h | h
    · exfalso; apply hx
      apply Int32.toBitVec_inj.mp
      apply BitVec.eq_of_toNat_eq
      rw [h]; rfl
    · exact h)
  have hlt := x.toBitVec.isLt
  have hk32 : k < 32 := by
    rcases Nat.lt_or_ge k 32 with h | h
    · exact h
    · have h1 : 2 ^ 32 ≤ 2 ^ k := Nat.pow_le_pow_right (by decide) h
      have h2 : 2 ^ k * 1 ≤ 2 ^ k * (2 * a + 1) := Nat.mul_le_mul_left _ (by omega)
      omega
  have hxb : ∀ i, hbit x i = (2 ^ k * (2 * a + 1)).testBit i := fun i => by
    show x.toBitVec.toNat.testBit i = _
    rw [hk]
  have hxk : ∀ i, hbit x i = (decide (k ≤ i) && (2 * a + 1).testBit (i - k)) := fun i => by
    rw [hxb, Nat.testBit_two_pow_mul]
  have hsub : ∀ i, i < 32 → hbit (x - 1) i = if i < k then true else (2 * a).testBit (i - k) := fun i hi => by
    show (x - 1).toBitVec.toNat.testBit i = _
    have e : (x - 1).toBitVec.toNat = 2 ^ k * (2 * a) + (2 ^ k - 1) := by
      rw [Int32.toBitVec_sub, BitVec.toNat_sub]
      have : (1 : Int32).toBitVec.toNat = 1 := rfl
      rw [this, hk]
      have h2 : 0 < 2 ^ k := Nat.two_pow_pos k
      have h3 : 2 ^ k * (2 * a + 1) = 2 ^ k * (2 * a) + 2 ^ k := by rw [Nat.mul_add, Nat.mul_one]
      rw [hk] at hlt
      generalize 2 ^ k * (2 * a) = y at *
      generalize 2 ^ k = w at *
      omega
    rw [e, kmk_t]
  refine ⟨k, hk32, ?_, ?_⟩
  · rw [hxk]; simp
  · rw [← knm_k k hk32]
    congr 1
    apply hb_ext
    intro i hi
    rw [hb_and, hb_not x hi, hsub i hi, hxk i]
    have e : hbit (nI (2 ^ k - 1)) i = decide (i < k) := by
      show (nI (2 ^ k - 1)).toBitVec.getLsbD i = _
      have : (nI (2 ^ k - 1)).toBitVec = BitVec.ofNat 32 (2 ^ k - 1) := rfl
      rw [this, BitVec.getLsbD_ofNat, Nat.testBit_two_pow_sub_one]
      simp [hi]
    rw [e]
    by_cases h1 : i < k
    · have h2 : ¬ k ≤ i := by omega
      simp [h1, h2]
    · have h2 : k ≤ i := by omega
      rw [if_neg h1, decide_eq_true h2, decide_eq_false h1, Bool.true_and]
      rcases hd : i - k with _ | j
      · simp
      · rw [Nat.testBit_succ, Nat.testBit_succ, show (2 * a + 1) / 2 = a by omega, show 2 * a / 2 = a by omega]
        cases a.testBit j <;> rfl
end

