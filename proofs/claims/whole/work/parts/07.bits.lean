theorem hb_ext {x y : Int32} (h : ∀ i, i < 32 → hbit x i = hbit y i) : x = y := Int32.toBitVec_inj.mp (BitVec.eq_of_getLsbD_eq (fun i hi => h i hi))
theorem hb_or (x y : Int32) (i : Nat) : hbit (x ||| y) i = (hbit x i || hbit y i) := by unfold hbit; rw [Int32.toBitVec_or, BitVec.getLsbD_or]
theorem hb_and (x y : Int32) (i : Nat) : hbit (x &&& y) i = (hbit x i && hbit y i) := by unfold hbit; rw [Int32.toBitVec_and, BitVec.getLsbD_and]
theorem hb_xor (x y : Int32) (i : Nat) : hbit (x ^^^ y) i = (hbit x i ^^ hbit y i) := by unfold hbit; rw [Int32.toBitVec_xor, BitVec.getLsbD_xor]
theorem hb_big {x : Int32} {i : Nat} (h : 32 ≤ i) : hbit x i = false := BitVec.getLsbD_of_ge _ _ h
theorem hb_255 (i : Nat) : hbit 255 i = decide (i < 8) := by
  rcases Nat.lt_or_ge i 32 with h | h
  · exact (by decide +kernel : ∀ i, i < 32 → hbit 255 i = decide (i < 8)) i h
  · rw [hb_big h, decide_eq_false (by omega)]
theorem hb_65535 (i : Nat) : hbit 65535 i = decide (i < 16) := by
  rcases Nat.lt_or_ge i 32 with h | h
  · exact (by decide +kernel : ∀ i, i < 32 → hbit 65535 i = decide (i < 16)) i h
  · rw [hb_big h, decide_eq_false (by omega)]
theorem hb_m1 : ∀ i, i < 32 → hbit (-1) i = true := by decide +kernel
theorem hb_0 (i : Nat) : hbit 0 i = false := BitVec.getLsbD_zero
theorem s_l : ∀ n, n < 32 → ((nI n &&& 31).toBitVec.smod 32).toNat = n := by decide +kernel
theorem s_u : ∀ n, n < 32 → (((nI n).toUInt32 &&& Int32.toUInt32 31).toBitVec % 32).toNat = n := by decide +kernel
theorem hb_shl (n : Nat) (hn : n < 32) (x : Int32) {i : Nat} (hi : i < 32) : hbit (x <<< (nI n &&& 31)) i = (decide (n ≤ i) && hbit x (i - n)) := by
  unfold hbit
  rw [Int32.toBitVec_shiftLeft]
  show (x.toBitVec <<< ((nI n &&& 31).toBitVec.smod 32).toNat).getLsbD i = _
  rw [s_l n hn, BitVec.getLsbD_shiftLeft]
  rcases Nat.lt_or_ge i n with h | h
  · simp [h, Nat.not_le.mpr h]
  · simp [hi, h, Nat.not_lt.mpr h]
theorem hb_ushr (n : Nat) (hn : n < 32) (x : Int32) (i : Nat) : hbit ((x.toUInt32 >>> ((nI n).toUInt32 &&& Int32.toUInt32 31)).toInt32) i = hbit x (n + i) := by
  show (x.toUInt32 >>> ((nI n).toUInt32 &&& Int32.toUInt32 31)).toBitVec.getLsbD i = x.toUInt32.toBitVec.getLsbD (n + i)
  rw [UInt32.toBitVec_shiftRight]
  show (x.toUInt32.toBitVec >>> (((nI n).toUInt32 &&& Int32.toUInt32 31).toBitVec % 32).toNat).getLsbD i = _
  rw [s_u n hn, BitVec.getLsbD_ushiftRight]
theorem hb_sshr (n : Nat) (hn : n < 32) (x : Int32) {i : Nat} (hi : i < 32) : hbit (x >>> (nI n &&& 31)) i = if n + i < 32 then hbit x (n + i) else hbit x 31 := by
  unfold hbit
  rw [Int32.toBitVec_shiftRight]
  show (x.toBitVec.sshiftRight ((nI n &&& 31).toBitVec.smod 32).toNat).getLsbD i = _
  rw [s_l n hn, BitVec.getLsbD_sshiftRight, BitVec.msb_eq_getLsbD_last]
  simp [hi]
theorem hb_shl8 (x : Int32) {i : Nat} (hi : i < 32) : hbit (x <<< ((8 : Int32) &&& 31)) i = (decide (8 ≤ i) && hbit x (i - 8)) := hb_shl 8 (by omega) x hi
theorem hb_shl16 (x : Int32) {i : Nat} (hi : i < 32) : hbit (x <<< ((16 : Int32) &&& 31)) i = (decide (16 ≤ i) && hbit x (i - 16)) := hb_shl 16 (by omega) x hi
theorem hb_shl24 (x : Int32) {i : Nat} (hi : i < 32) : hbit (x <<< ((24 : Int32) &&& 31)) i = (decide (24 ≤ i) && hbit x (i - 24)) := hb_shl 24 (by omega) x hi
theorem hb_sshr8 (x : Int32) {i : Nat} (hi : i < 32) : hbit (x >>> ((8 : Int32) &&& 31)) i = if 8 + i < 32 then hbit x (8 + i) else hbit x 31 := hb_sshr 8 (by omega) x hi

theorem hb_1 : ∀ i, i < 32 → hbit 1 i = decide (i = 0) := by decide +kernel
/-- one bit -/
theorem hb_bit {p i : Nat} (hp : p < 32) (hi : i < 32) : hbit (1 <<< (nI p &&& 31)) i = decide (i = p) := by
  rw [hb_shl p hp 1 hi]
  by_cases h : p ≤ i
  · rw [hb_1 _ (by omega)]
    by_cases e : i = p
    · subst e; simp
    · have : ¬ i - p = 0 := by omega
      simp [h, e, this]
  · have e : ¬ i = p := by omega
    simp [h, e]
theorem hb_not (x : Int32) {i : Nat} (hi : i < 32) : hbit (x ^^^ (-1)) i = !hbit x i := by rw [hb_xor, hb_m1 i hi]; simp
theorem hb_has {x : Int32} {p : Nat} (hp : p < 32) : (x >>> (nI p &&& 31)) &&& 1 = 0 ↔ hbit x p = false := by
  constructor
  · intro h
    have h1 : hbit ((x >>> (nI p &&& 31)) &&& 1) 0 = false := by rw [h, hb_0]
    rw [hb_and, hb_sshr p hp x (by decide), hb_1 0 (by decide)] at h1
    simpa [hp] using h1
  · intro h
    apply hb_ext
    intro i hi
    rw [hb_and, hb_1 i hi, hb_0]
    by_cases e : i = 0
    · subst e
      rw [hb_sshr p hp x (by decide)]
      simp [hp, h]
    · simp [e]
theorem hb_ne0 {x : Int32} : ¬ x = 0 ↔ ∃ i, i < 32 ∧ hbit x i = true := by
  constructor
  · intro h
    by_cases h1 : ∃ i, i < 32 ∧ hbit x i = true
    · exact h1
    · exact absurd (hb_ext (fun i hi => by rw [hb_0]; cases e : hbit x i with | false => rfl | true => exact absurd ⟨i, hi, e⟩ h1)) h
  · rintro ⟨i, hi, h⟩ rfl
    rw [hb_0] at h; cases h
theorem fa_and (a b : Nat) : nI a &&& nI b = nI (a &&& b) := by
  apply Int32.toBitVec_inj.1
  show BitVec.ofNat 32 a &&& BitVec.ofNat 32 b = BitVec.ofNat 32 (a &&& b)
  apply BitVec.eq_of_getLsbD_eq
  intro i hi
  simp [hi]
theorem fa_or (a b : Nat) : nI a ||| nI b = nI (a ||| b) := by
  apply Int32.toBitVec_inj.1
  show BitVec.ofNat 32 a ||| BitVec.ofNat 32 b = BitVec.ofNat 32 (a ||| b)
  apply BitVec.eq_of_getLsbD_eq
  intro i hi
  simp [hi]
/-- a remainder by a power of two, as a mask -/
theorem fa_mask (n k : Nat) : nI n &&& nI (2 ^ k - 1) = nI (n % 2 ^ k) := by rw [fa_and, Nat.and_two_pow_sub_one_eq_mod]
/-- 'or' of a high part and a low one that don't meet is their sum -/
theorem fa_or_sum {a k : Nat} (b : Nat) (h : a < 2 ^ k) : nI (2 ^ k * b) ||| nI a = nI (2 ^ k * b + a) := by rw [fa_or, Nat.two_pow_add_eq_or_of_lt h]

theorem nI_shr {n t : Nat} (h : n < 2 ^ 31) (ht : t < 32) : nI n >>> (nI t &&& 31) = nI (n / 2 ^ t) := pk_shrN h _ t (s_l t ht)
theorem nI_and31 {n : Nat} (h : n < 2 ^ 32) : nI n &&& 31 = nI (n % 32) := pk_andN h 5 (by decide)
theorem nI_and255 {n : Nat} (h : n < 2 ^ 32) : nI n &&& 255 = nI (n % 256) := pk_andN h 8 (by decide)
theorem nI_shl15 {n : Nat} (h : n < 32768) : nI n <<< ((15 : Int32) &&& 31) = nI (32768 * n) := by
  have := pk_shlN (n := n) ((15 : Int32) &&& 31) 15 (by decide) (by omega)
  rw [this, Nat.mul_comm]

