section
def kany (g : Nat → Bool) : Nat → Bool
  | 0 => false
  | n + 1 => kany g n || g n
theorem kany_t {g : Nat → Bool} {n : Nat} : kany g n = true ↔ ∃ i, i < n ∧ g i = true := by
  induction n with
  | zero => simp [kany]
  | succ n ih =>
    simp only [kany, Bool.or_eq_true, ih]
    constructor
    · rintro (⟨i, hi, h⟩ | h)
      · exact ⟨i, by omega, h⟩
      · exact ⟨n, by omega, h⟩
    · rintro ⟨i, hi, h⟩
      by_cases e : i = n
      · subst e; exact Or.inr h
      · exact Or.inl ⟨i, by omega, h⟩
theorem kany_f {g : Nat → Bool} {n : Nat} : kany g n = false ↔ ∀ i, i < n → g i = false := by
  rw [← Bool.not_eq_true, kany_t]
  constructor
  · intro h i hi
    cases e : g i with
    | false => rfl
    | true => exact absurd ⟨i, hi, e⟩ h
  · rintro h ⟨i, hi, e⟩
    rw [h i hi] at e; cases e
theorem kany_c {g h : Nat → Bool} {n : Nat} (e : ∀ i, i < n → g i = h i) : kany g n = kany h n := by
  induction n with
  | zero => rfl
  | succ n ih => simp only [kany]; rw [ih (fun i hi => e i (by omega)), e n (by omega)]
/-- bits of a long -/
def hbL (x : Int64) (i : Nat) : Bool := x.toBitVec.getLsbD i
theorem hL_ext {x y : Int64} (h : ∀ i, i < 64 → hbL x i = hbL y i) : x = y := Int64.toBitVec_inj.mp (BitVec.eq_of_getLsbD_eq (fun i hi => h i hi))
theorem hL_or (x y : Int64) (i : Nat) : hbL (x ||| y) i = (hbL x i || hbL y i) := by unfold hbL; rw [Int64.toBitVec_or, BitVec.getLsbD_or]
theorem hL_and (x y : Int64) (i : Nat) : hbL (x &&& y) i = (hbL x i && hbL y i) := by unfold hbL; rw [Int64.toBitVec_and, BitVec.getLsbD_and]
theorem hL_0 (i : Nat) : hbL 0 i = false := BitVec.getLsbD_zero
theorem hL_1 : ∀ i, i < 64 → hbL 1 i = decide (i = 0) := by decide +kernel
theorem sL_l : ∀ n, n < 64 → (((nI n).toInt64 &&& 63).toBitVec.smod 64).toNat = n := by decide +kernel
theorem hL_shl (n : Nat) (hn : n < 64) (x : Int64) {i : Nat} (hi : i < 64) : hbL (x <<< ((nI n).toInt64 &&& 63)) i = (decide (n ≤ i) && hbL x (i - n)) := by
  unfold hbL
  rw [Int64.toBitVec_shiftLeft]
  show (x.toBitVec <<< (((nI n).toInt64 &&& 63).toBitVec.smod 64).toNat).getLsbD i = _
  rw [sL_l n hn, BitVec.getLsbD_shiftLeft]
  rcases Nat.lt_or_ge i n with h | h
  · simp [h, Nat.not_le.mpr h]
  · simp [hi, h, Nat.not_lt.mpr h]
theorem hL_bit {p i : Nat} (hp : p < 64) (hi : i < 64) : hbL (1 <<< ((nI p).toInt64 &&& 63)) i = decide (i = p) := by
  rw [hL_shl p hp 1 hi]
  by_cases h : p ≤ i
  · rw [hL_1 _ (by omega)]
    by_cases e : i = p
    · subst e; simp
    · have : ¬ i - p = 0 := by omega
      simp [h, e, this]
  · have e : ¬ i = p := by omega
    simp [h, e]
theorem hL_two {p : Nat} (hp : p < 64) : (1 <<< ((nI p).toInt64 &&& 63) : Int64).toBitVec = BitVec.ofNat 64 (2 ^ p) := by
  apply BitVec.eq_of_getLsbD_eq
  intro i hi
  rw [show (1 <<< ((nI p).toInt64 &&& 63) : Int64).toBitVec.getLsbD i = hbL (1 <<< ((nI p).toInt64 &&& 63)) i from rfl, hL_bit hp hi, BitVec.getLsbD_ofNat, Nat.testBit_two_pow]
  simp [hi, eq_comm]
theorem hL_sub {a b i : Nat} (hab : a ≤ b) (hb : b < 64) (hi : i < 64) : hbL ((1 <<< ((nI b).toInt64 &&& 63)) - (1 <<< ((nI a).toInt64 &&& 63))) i = decide (a ≤ i ∧ i < b) := by
  unfold hbL
  rw [Int64.toBitVec_sub, hL_two hb, hL_two (by omega)]
  have hp : 2 ^ a ≤ 2 ^ b := Nat.pow_le_pow_right (by decide) hab
  have hb2 : 2 ^ b < 2 ^ 64 := Nat.pow_lt_pow_right (by decide) hb
  have e : BitVec.ofNat 64 (2 ^ b) - BitVec.ofNat 64 (2 ^ a) = BitVec.ofNat 64 (2 ^ b - 2 ^ a) := by
    apply BitVec.eq_of_toNat_eq
    generalize 2 ^ a = x at hp
    generalize 2 ^ b = y at hp hb2
    simp only [BitVec.toNat_sub, BitVec.toNat_ofNat]
    omega
  have e2 : 2 ^ b - 2 ^ a = 2 ^ a * (2 ^ (b - a) - 1) := by rw [Nat.mul_sub, ← Nat.pow_add, show a + (b - a) = b by omega, Nat.mul_one]
  rw [e, BitVec.getLsbD_ofNat, e2, Nat.testBit_two_pow_mul, Nat.testBit_two_pow_sub_one]
  rw [Bool.eq_iff_iff]
  simp only [Bool.and_eq_true, decide_eq_true_eq]
  omega
def kmL (g : Nat → Bool) : Nat → Int64
  | 0 => 0
  | n + 1 => bif g n then kmL g n ||| (1 <<< ((nI n).toInt64 &&& 63)) else kmL g n
theorem hL_mask (g : Nat → Bool) : ∀ n, n ≤ 64 → ∀ i, i < 64 → hbL (kmL g n) i = (decide (i < n) && g i)
  | 0, _, i, _ => by simp [kmL, hL_0]
  | n + 1, hn, i, hi => by
    have ih := hL_mask g n (by omega) i hi
    simp only [kmL]
    cases hg : g n with
    | true =>
      simp only [cond_true]
      rw [hL_or, ih, hL_bit (by omega) hi]
      by_cases e : i = n
      · subst e; simp [hg]
      · have : (i < n + 1) ↔ i < n := by omega
        simp [e, this]
    | false =>
      simp only [cond_false]
      rw [ih]
      by_cases e : i = n
      · subst e; simp [hg]
      · have : (i < n + 1) ↔ i < n := by omega
        simp [this]
def kL (g : Nat → Bool) : Int64 := kmL g 64
theorem kL_b {g : Nat → Bool} {i : Nat} (hi : i < 64) : hbL (kL g) i = g i := by unfold kL; rw [hL_mask g 64 (by decide) i hi]; simp [hi]
theorem kL_eq {x : Int64} {g : Nat → Bool} (h : ∀ i, i < 64 → hbL x i = g i) : x = kL g := hL_ext (fun i hi => by rw [h i hi, kL_b hi])
theorem kL_c {g h : Nat → Bool} (e : ∀ i, i < 64 → g i = h i) : kL g = kL h := kL_eq (fun i hi => by rw [kL_b hi, e i hi])
def kb (g : Nat → Bool) : Int32 := hmask g 32
theorem kb_b {g : Nat → Bool} {i : Nat} (hi : i < 32) : hbit (kb g) i = g i := by unfold kb; rw [hb_mask g 32 (by decide) i hi]; simp [hi]
theorem kb_eq {x : Int32} {g : Nat → Bool} (h : ∀ i, i < 32 → hbit x i = g i) : x = kb g := hb_ext (fun i hi => by rw [h i hi, kb_b hi])
theorem kb_c {g h : Nat → Bool} (e : ∀ i, i < 32 → g i = h i) : kb g = kb h := kb_eq (fun i hi => by rw [kb_b hi, e i hi])
theorem kb_or (g h : Nat → Bool) : kb g ||| kb h = kb (fun i => g i || h i) := kb_eq (fun i hi => by rw [hb_or, kb_b hi, kb_b hi])
theorem kb_and (g h : Nat → Bool) : kb g &&& kb h = kb (fun i => g i && h i) := kb_eq (fun i hi => by rw [hb_and, kb_b hi, kb_b hi])
theorem kb_m1 : (-1 : Int32) = kb (fun _ => true) := kb_eq (fun i hi => hb_m1 i hi)
theorem kb_0 : (0 : Int32) = kb (fun _ => false) := kb_eq (fun i hi => hb_0 i)
theorem kL_0 : (0 : Int64) = kL (fun _ => false) := kL_eq (fun i hi => hL_0 i)
theorem kb_bit {p : Nat} (hp : p < 32) : (1 <<< (nI p &&& 31) : Int32) = kb (fun i => decide (i = p)) := kb_eq (fun i hi => hb_bit hp hi)
theorem kb_not (g : Nat → Bool) : kb g ^^^ (-1) = kb (fun i => !g i) := kb_eq (fun i hi => by rw [hb_not _ hi, kb_b hi])
theorem kL_bit {p : Nat} (hp : p < 64) : (1 <<< ((nI p).toInt64 &&& 63) : Int64) = kL (fun i => decide (i = p)) := kL_eq (fun i hi => hL_bit hp hi)
theorem kL_or (g h : Nat → Bool) : kL g ||| kL h = kL (fun i => g i || h i) := kL_eq (fun i hi => by rw [hL_or, kL_b hi, kL_b hi])
theorem kb_z {g : Nat → Bool} : kb g = 0 ↔ ∀ i, i < 32 → g i = false := by
  constructor
  · intro h i hi; rw [← kb_b (g := g) hi, h, hb_0]
  · intro h; rw [kb_0]; exact kb_c h
theorem kL_z {g : Nat → Bool} : kL g = 0 ↔ ∀ i, i < 64 → g i = false := by
  constructor
  · intro h i hi; rw [← kL_b (g := g) hi, h, hL_0]
  · intro h; rw [kL_0]; exact kL_c h
theorem kb_has {g : Nat → Bool} {p : Nat} (hp : p < 32) : (kb g >>> (nI p &&& 31)) &&& 1 = 0 ↔ g p = false := by rw [hb_has hp, kb_b hp]
/-- facts that keep him from a parish at an hour, from a road at an hour -/
def kbl (A : Nat → Bool) (u : hM) (p t f : Nat) : Bool := A f && decide (u 12 f = t ∧ (u 10 f = 0 ∧ ¬ u 11 f = p ∨ u 10 f = 1 ∧ u 11 f = p))
def kbr (A : Nat → Bool) (u : hM) (r t f : Nat) : Bool := A f && decide (u 12 f = t ∧ (u 10 f = 0 ∨ u 10 f = 2 ∧ u 11 f = r))
def klet (A : Nat → Bool) (u : hM) (p t : Nat) : Bool := !kany (kbl A u p t) (u 9 0)
def kbar (A : Nat → Bool) (u : hM) (r t : Nat) : Bool := kany (kbr A u r t) (u 9 0)
/-- clear at all hours a .. b - 1 -/
def kbc (A : Nat → Bool) (u : hM) (r a b f : Nat) : Bool := A f && decide ((a ≤ u 12 f ∧ u 12 f < b) ∧ (u 10 f = 0 ∨ u 10 f = 2 ∧ u 11 f = r))
def kclr (A : Nat → Bool) (u : hM) (r a b : Nat) : Bool := !kany (kbc A u r a b) (u 9 0)
theorem kclr_t {A : Nat → Bool} {u : hM} {r a b : Nat} : kclr A u r a b = true ↔ ∀ h, a ≤ h → h < b → kbar A u r h = false := by
  unfold kclr kbar
  simp only [Bool.not_eq_true', kany_f]
  constructor
  · intro h t h1 h2 f hf
    have := h f hf
    unfold kbc at this
    unfold kbr
    cases hA : A f with
    | false => rfl
    | true =>
      rw [hA] at this
      simp only [Bool.true_and, decide_eq_false_iff_not] at this ⊢
      rintro ⟨e, q⟩
      exact this ⟨by omega, q⟩
  · intro h f hf
    unfold kbc
    cases hA : A f with
    | false => rfl
    | true =>
      simp only [Bool.true_and, decide_eq_false_iff_not]
      rintro ⟨⟨e1, e2⟩, q⟩
      have := h (u 12 f) e1 e2 f hf
      unfold kbr at this
      rw [hA] at this
      simp only [Bool.true_and, decide_eq_false_iff_not] at this
      exact this ⟨trivial, q⟩
/-- coming to p at hour t by road r; where he may be -/
def kcm (A : Nat → Bool) (u : hM) (R : Nat → Nat → Bool) (r p t : Nat) : Bool := decide (u 6 r = 0 ∧ 1 ≤ u 5 r ∧ u 5 r ≤ t) && (decide (u 4 r = p) && R (t - u 5 r) (u 3 r) || decide (u 3 r = p) && R (t - u 5 r) (u 4 r)) && kclr A u r (t - u 5 r + 1) t
def kst (A : Nat → Bool) (u : hM) (R : Nat → Nat → Bool) (t p : Nat) : Bool := (if t = 0 then decide (u 8 0 = p + 1) else R (t - 1) p || kany (fun r => kcm A u R r p t) (u 2 0)) && klet A u p t
def ktab (A : Nat → Bool) (u : hM) (W : Nat → Nat → Bool) : Nat → Nat → Nat → Bool
  | 0 => fun _ _ => false
  | n + 1 => fun t p => if t = n then kst A u (ktab A u W n) n p && !W n p else ktab A u W n t p
def kR (A : Nat → Bool) (u : hM) (W : Nat → Nat → Bool) (t p : Nat) : Bool := ktab A u W (t + 1) t p
theorem ktab_lt {A : Nat → Bool} {u : hM} {W : Nat → Nat → Bool} {t p : Nat} : ∀ n, t < n → ktab A u W n t p = kR A u W t p
  | 0, h => absurd h (by omega)
  | n + 1, h => by
    by_cases e : t = n
    · subst e; rfl
    · rw [← ktab_lt n (by omega)]; simp only [ktab]; rw [if_neg e]
theorem kcm_c {A : Nat → Bool} {u : hM} {R R1 : Nat → Nat → Bool} {r p t : Nat} (h : ∀ t1 p1, t1 < t → R t1 p1 = R1 t1 p1) : kcm A u R r p t = kcm A u R1 r p t := by
  unfold kcm
  by_cases e : u 6 r = 0 ∧ 1 ≤ u 5 r ∧ u 5 r ≤ t
  · rw [h _ _ (by omega), h _ _ (by omega)]
  · rw [decide_eq_false e]; rfl
theorem kst_c {A : Nat → Bool} {u : hM} {R R1 : Nat → Nat → Bool} {t p : Nat} (h : ∀ t1 p1, t1 < t → R t1 p1 = R1 t1 p1) : kst A u R t p = kst A u R1 t p := by
  unfold kst
  by_cases e : t = 0
  · rw [if_pos e, if_pos e]
  · rw [if_neg e, if_neg e, h _ _ (by omega), kany_c (fun r _ => kcm_c h)]
theorem kR_eq (A : Nat → Bool) (u : hM) (W : Nat → Nat → Bool) (t p : Nat) : kR A u W t p = (kst A u (kR A u W) t p && !W t p) := by
  show (if t = t then _ else _) = _
  rw [if_pos rfl, kst_c (fun t1 p1 h => ktab_lt t h)]
/-- going on from p at hour t by road r; whence he can go on to the last hour -/
def kdp (A : Nat → Bool) (u : hM) (G : Nat → Nat → Bool) (r p t : Nat) : Bool := decide (u 6 r = 0) && kclr A u r (t + 1) (min (t + u 5 r) 48) && (decide (u 3 r = p) && (decide (48 ≤ t + u 5 r) || G (t + u 5 r) (u 4 r)) || decide (u 4 r = p) && (decide (48 ≤ t + u 5 r) || G (t + u 5 r) (u 3 r)))
def kgo (A : Nat → Bool) (u : hM) (G : Nat → Nat → Bool) (t p : Nat) : Bool := (decide (t = 47) || (G (t + 1) p || kany (fun r => kdp A u G r p t) (u 2 0))) && klet A u p t
/-- k hours before the last -/
def kgt (A : Nat → Bool) (u : hM) : Nat → Nat → Nat → Bool
  | 0 => fun _ _ => false
  | n + 1 => fun t p => if t + n = 47 then kgo A u (kgt A u n) t p else kgt A u n t p
def kG (A : Nat → Bool) (u : hM) (t p : Nat) : Bool := kgt A u (48 - t) t p
theorem kgt_lt {A : Nat → Bool} {u : hM} {t p : Nat} (h48 : t < 48) : ∀ n, 48 ≤ t + n → kgt A u n t p = kG A u t p
  | 0, h => absurd h (by omega)
  | n + 1, h => by
    by_cases e : t + n = 47
    · rw [kG, show 48 - t = n + 1 by omega]
    · rw [← kgt_lt h48 n (by omega)]; simp only [kgt]; rw [if_neg e]
theorem kdp_c {A : Nat → Bool} {u : hM} {G G1 : Nat → Nat → Bool} {r p t : Nat} (hr : 1 ≤ u 5 r) (h : ∀ t1 p1, t < t1 → t1 < 48 → G t1 p1 = G1 t1 p1) : kdp A u G r p t = kdp A u G1 r p t := by
  unfold kdp
  by_cases e : 48 ≤ t + u 5 r
  · rw [decide_eq_true e]; simp only [Bool.true_or]
  · rw [h _ _ (by omega) (by omega), h _ _ (by omega) (by omega)]
theorem kgo_c {A : Nat → Bool} {u : hM} {G G1 : Nat → Nat → Bool} {t p : Nat} (ht : t < 48) (hr : ∀ r, r < u 2 0 → 1 ≤ u 5 r) (h : ∀ t1 p1, t < t1 → t1 < 48 → G t1 p1 = G1 t1 p1) : kgo A u G t p = kgo A u G1 t p := by
  unfold kgo
  by_cases e : t = 47
  · rw [decide_eq_true e]; simp only [Bool.true_or]
  · rw [h _ _ (by omega) (by omega), kany_c (fun r q => kdp_c (hr r q) h)]
theorem kG_eq (A : Nat → Bool) (u : hM) {t : Nat} (p : Nat) (ht : t < 48) (hr : ∀ r, r < u 2 0 → 1 ≤ u 5 r) : kG A u t p = kgo A u (kG A u) t p := by
  have e : kG A u t p = kgt A u ((47 - t) + 1) t p := by rw [kG, show 48 - t = 47 - t + 1 by omega]
  rw [e]
  simp only [kgt]
  rw [if_pos (by omega)]
  exact kgo_c ht hr (fun t1 p1 h1 h2 => kgt_lt h2 _ (by omega))
/-- facts of later hours take nothing from earlier sets -/
theorem klet_c {A B : Nat → Bool} {u : hM} {p t : Nat} (h : ∀ f, f < u 9 0 → u 12 f = t → A f = B f) : klet A u p t = klet B u p t := by
  unfold klet
  rw [kany_c (fun f hf => ?_)]
  unfold kbl
  by_cases e : u 12 f = t
  · rw [h f hf e]
  · rw [decide_eq_false (fun q => e q.1), Bool.and_false, Bool.and_false]
theorem kclr_c {A B : Nat → Bool} {u : hM} {r a b : Nat} (h : ∀ f, f < u 9 0 → a ≤ u 12 f → u 12 f < b → A f = B f) : kclr A u r a b = kclr B u r a b := by
  unfold kclr
  rw [kany_c (fun f hf => ?_)]
  unfold kbc
  by_cases e : a ≤ u 12 f ∧ u 12 f < b
  · rw [h f hf e.1 e.2]
  · rw [decide_eq_false (fun q => e q.1), Bool.and_false, Bool.and_false]
theorem kcm_A {A B : Nat → Bool} {u : hM} {R : Nat → Nat → Bool} {r p t : Nat} (h : ∀ f, f < u 9 0 → u 12 f < t → A f = B f) : kcm A u R r p t = kcm B u R r p t := by
  unfold kcm
  rw [kclr_c (fun f hf _ h2 => h f hf h2)]
theorem kst_A {A B : Nat → Bool} {u : hM} {R : Nat → Nat → Bool} {p t : Nat} (h : ∀ f, f < u 9 0 → u 12 f ≤ t → A f = B f) : kst A u R t p = kst B u R t p := by
  unfold kst
  rw [klet_c (fun f hf e => h f hf (by omega)), kany_c (fun r _ => kcm_A (fun f hf e => h f hf (by omega)))]
theorem kR_A {A B : Nat → Bool} {u : hM} {W : Nat → Nat → Bool} : ∀ (n t p : Nat), t < n → (∀ f, f < u 9 0 → u 12 f ≤ t → A f = B f) → kR A u W t p = kR B u W t p
  | 0, _, _, h, _ => absurd h (by omega)
  | n + 1, t, p, h, hA => by
    rw [kR_eq, kR_eq, kst_A hA]
    rw [kst_c (fun t1 p1 h1 => kR_A n t1 p1 (by omega) (fun f hf e => hA f hf (by omega)))]
theorem kdp_A {A B : Nat → Bool} {u : hM} {G : Nat → Nat → Bool} {r p t : Nat} (h : ∀ f, f < u 9 0 → t < u 12 f → A f = B f) : kdp A u G r p t = kdp B u G r p t := by
  unfold kdp
  rw [kclr_c (fun f hf h2 _ => h f hf (by omega))]
theorem kgo_A {A B : Nat → Bool} {u : hM} {G : Nat → Nat → Bool} {p t : Nat} (h : ∀ f, f < u 9 0 → t ≤ u 12 f → A f = B f) : kgo A u G t p = kgo B u G t p := by
  unfold kgo
  rw [klet_c (fun f hf e => h f hf (by omega)), kany_c (fun r _ => kdp_A (fun f hf e => h f hf (by omega)))]
theorem kG_A {A B : Nat → Bool} {u : hM} (hr : ∀ r, r < u 2 0 → 1 ≤ u 5 r) : ∀ (n t p : Nat), t < 48 → 48 ≤ t + n → (∀ f, f < u 9 0 → t ≤ u 12 f → A f = B f) → kG A u t p = kG B u t p
  | 0, _, _, h, h2, _ => absurd h (by omega)
  | n + 1, t, p, h, h2, hA => by
    rw [kG_eq A u p h hr, kG_eq B u p h hr, kgo_A hA]
    rw [kgo_c h hr (fun t1 p1 h1 h3 => kG_A hr n t1 p1 h3 (by omega) (fun f hf e => hA f hf (by omega)))]
end

