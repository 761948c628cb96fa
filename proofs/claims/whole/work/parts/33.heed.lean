section
def kz (z : mv_Z) (a : Nat → Int32) (b : Nat → Int64) (c d : Nat → Int32) : mv_Z := (fun q => if q = 15 then a else if q = 17 then c else if q = 18 then d else z.1 q, fun q => if q = 16 then b else z.2 q)
theorem kz_self (z : mv_Z) : kz z (z.1 15) (z.2 16) (z.1 17) (z.1 18) = z := by
  unfold kz
  refine Prod.ext (funext fun q => ?_) (funext fun q => ?_)
  · dsimp only
    split
    · rename_i h; rw [h]
    · split
      · rename_i h; rw [h]
      · split
        · rename_i h; rw [h]
        · rfl
  · dsimp only
    split
    · rename_i h; rw [h]
    · rfl
theorem kz_u15 {z : mv_Z} {a : Nat → Int32} {b : Nat → Int64} {c d : Nat → Int32} {i : Nat} {x : Int32} : mv_u (kz z a b c d) 15 i x = kz z (upd a i x) b c d := by
  unfold kz mv_u
  refine Prod.ext (funext fun q => ?_) rfl
  by_cases h : q = 15 <;> simp [va_up, h]
theorem kz_u17 {z : mv_Z} {a : Nat → Int32} {b : Nat → Int64} {c d : Nat → Int32} {i : Nat} {x : Int32} : mv_u (kz z a b c d) 17 i x = kz z a b (upd c i x) d := by
  unfold kz mv_u
  refine Prod.ext (funext fun q => ?_) rfl
  by_cases h : q = 17 <;> simp [va_up, h]
theorem kz_u18 {z : mv_Z} {a : Nat → Int32} {b : Nat → Int64} {c d : Nat → Int32} {i : Nat} {x : Int32} : mv_u (kz z a b c d) 18 i x = kz z a b c (upd d i x) := by
  unfold kz mv_u
  refine Prod.ext (funext fun q => ?_) rfl
  by_cases h : q = 18 <;> simp [va_up, h]
theorem kz_u16 {z : mv_Z} {a : Nat → Int32} {b : Nat → Int64} {c d : Nat → Int32} {i : Nat} {x : Int64} : mv_uL (kz z a b c d) 16 i x = kz z a (vp_updL b i x) c d := by
  unfold kz mv_uL
  refine Prod.ext rfl (funext fun q => ?_)
  by_cases h : q = 16 <;> simp [va_up, h]
theorem rX_1 {u : hM} {z z1 : mv_Z} (h : rX u z) (e : z1.1 = z.1) : rX u z1 := by
  unfold rX rT at h ⊢
  rw [e]; exact h
theorem kz_rX {u : hM} {z : mv_Z} (h : rX u z) (a : Nat → Int32) (b : Nat → Int64) (c d : Nat → Int32) : rX u (kz z a b c d) := by
  refine rX_1 (rX_freew (rX_freew (rX_freew h 15 a (by decide)) 17 c (by decide)) 18 d (by decide)) ?_
  funext q
  unfold kz mv_w
  dsimp only [va_up]
  by_cases h1 : q = 15
  · subst h1; rfl
  · by_cases h2 : q = 17
    · subst h2; rfl
    · by_cases h3 : q = 18
      · subst h3; rfl
      · simp [h1, h2, h3]
theorem kz_fX {z z1 : mv_Z} (h : fX z z1) (a : Nat → Int32) (b : Nat → Int64) (c d : Nat → Int32) : fX z (kz z1 a b c d) := fun q hq => by
  unfold kz
  dsimp only
  rw [if_neg (by omega), if_neg (by omega), if_neg (by omega), if_neg (by omega)]
  exact h q hq
def kfl (f g : Nat → Int32) (n : Nat) : Nat → Int32 := fun i => if i < n then g i else f i
def kflL (f g : Nat → Int64) (n : Nat) : Nat → Int64 := fun i => if i < n then g i else f i
theorem kfl_s (f g : Nat → Int32) (n : Nat) : upd (kfl f g n) n (g n) = kfl f g (n + 1) := by
  funext i
  unfold upd kfl
  by_cases e : i = n
  · subst e; simp
  · have : i < n + 1 ↔ i < n := by omega
    simp [e, this]
theorem kflL_s (f g : Nat → Int64) (n : Nat) : vp_updL (kflL f g n) n (g n) = kflL f g (n + 1) := by
  funext i
  unfold vp_updL kflL
  by_cases e : i = n
  · subst e; simp
  · have : i < n + 1 ↔ i < n := by omega
    simp [e, this]
theorem kfl_0 (f g : Nat → Int32) : kfl f g 0 = f := by funext i; simp [kfl]
theorem kflL_0 (f g : Nat → Int64) : kflL f g 0 = f := by funext i; simp [kflL]
theorem kfl_i {f g : Nat → Int32} {n i : Nat} (h : i < n) : kfl f g n i = g i := by simp [kfl, h]
theorem kflL_i {f g : Nat → Int64} {n i : Nat} (h : i < n) : kflL f g n i = g i := by simp [kflL, h]
/-- what the first i facts leave -/
def kbg (A : Nat → Bool) (u : hM) (r t f : Nat) : Bool := A f && decide (u 12 f = t ∧ u 10 f = 2 ∧ u 11 f = r)
def ksn (A : Nat → Bool) (u : hM) (t f : Nat) : Bool := A f && decide (u 12 f = t ∧ u 10 f = 0)
def k15 (A : Nat → Bool) (u : hM) (a : Nat → Int32) (i : Nat) : Nat → Int32 := kfl a (fun t => kb (fun p => !kany (kbl A u p t) i)) 48
def k16 (A : Nat → Bool) (u : hM) (b : Nat → Int64) (i : Nat) : Nat → Int64 := kflL b (fun r => kL (fun t => kany (kbg A u r t) i)) (u 2 0)
theorem k15_no {A : Nat → Bool} {u : hM} {a : Nat → Int32} {f : Nat} (h : A f = false ∨ u 10 f = 2) : k15 A u a (f + 1) = k15 A u a f := by
  funext t
  unfold k15 kfl
  have e : ∀ p, kbl A u p t f = false := by
    intro p
    unfold kbl
    rcases h with h | h
    · rw [h]; rfl
    · simp [h]
  simp only [kany, e, Bool.or_false]
theorem k16_no {A : Nat → Bool} {u : hM} {b : Nat → Int64} {f : Nat} (h : A f = false ∨ u 10 f < 2) : k16 A u b (f + 1) = k16 A u b f := by
  funext r
  unfold k16 kflL
  have e : ∀ t, kbg A u r t f = false := by
    intro t
    unfold kbg
    rcases h with h | h
    · rw [h]; rfl
    · have : ¬ u 10 f = 2 := by omega
      simp [this]
  simp only [kany, e, Bool.or_false]
theorem k15_up {A : Nat → Bool} {u : hM} {a : Nat → Int32} {f : Nat} {g : Nat → Bool} (h48 : u 12 f < 48) (hg : ∀ p, p < 32 → kbl A u p (u 12 f) f = !g p) : upd (k15 A u a f) (u 12 f) (k15 A u a f (u 12 f) &&& kb g) = k15 A u a (f + 1) := by
  funext t
  unfold upd
  by_cases e : t = u 12 f
  · subst e
    rw [if_pos rfl]
    unfold k15
    rw [kfl_i h48, kfl_i h48, kb_and]
    apply kb_c
    intro p hp
    simp only [kany]
    rw [hg p hp]
    simp
  · rw [if_neg e]
    unfold k15 kfl
    have e2 : ∀ p, kbl A u p t f = false := by
      intro p
      unfold kbl
      have : ¬ u 12 f = t := fun q => e q.symm
      simp [this]
    simp only [kany, e2, Bool.or_false]
theorem k16_up {A : Nat → Bool} {u : hM} {b : Nat → Int64} {f : Nat} (hA : A f = true) (h2 : u 10 f = 2) (hr : u 11 f < u 2 0) : vp_updL (k16 A u b f) (u 11 f) (k16 A u b f (u 11 f) ||| kL (fun t => decide (t = u 12 f))) = k16 A u b (f + 1) := by
  funext r
  unfold vp_updL
  by_cases e : r = u 11 f
  · subst e
    rw [if_pos rfl]
    unfold k16
    rw [kflL_i hr, kflL_i hr, kL_or]
    apply kL_c
    intro t ht
    simp only [kany, kbg, hA, h2]
    simp [eq_comm]
  · rw [if_neg e]
    unfold k16 kflL
    have e2 : ∀ t, kbg A u r t f = false := by
      intro t
      unfold kbg
      have : ¬ u 11 f = r := fun q => e q.symm
      simp [this]
    simp only [kany, e2, Bool.or_false]
theorem r_heedOne (z : mv_Z) (u : hM) (A : Nat → Bool) (a : Nat → Int32) (b : Nat → Int64) (c d : Nat → Int32) (f : Nat) (hi : hI u) (hz : rX u z) (hf : f < u 9 0) (hA : A f = true) : mv_Runs 2 19 [.ref 2, .int (nI f)] (mv_E (kz z (k15 A u a f) (k16 A u b f) c d)) (some (.long (kL (fun t => ksn A u t f)))) (mv_E (kz z (k15 A u a (f + 1)) (k16 A u b (f + 1)) c d)) := by
  obtain ⟨f1, f2, f3, f4⟩ := hi.2.2.2.2.2.2.2.2.1 f hf
  have h40 : u 9 0 ≤ 40 := hi.2.2.2.2.2.2.2.1
  have h24 := hi.1
  have hr40 := hi.2.2.1
  have y1 : ∀ a b c d, (kz z a b c d).1 11 f = nI (u 10 f) := fun _ _ _ _ => rX_a hz 11 10 (by decide) f
  have y2 : ∀ a b c d, (kz z a b c d).1 12 f = nI (u 11 f) := fun _ _ _ _ => rX_a hz 12 11 (by decide) f
  have y3 : ∀ a b c d, (kz z a b c d).1 13 f = nI (u 12 f) := fun _ _ _ _ => rX_a hz 13 12 (by decide) f
  rcases (show u 10 f = 0 ∨ u 10 f = 1 ∨ u 10 f = 2 by omega) with h0 | h0 | h0
  · rw [k16_no (Or.inr (by omega))]
    have e1 : (kL (fun t => ksn A u t f)) = 1 <<< ((nI (u 12 f)).toInt64 &&& 63) := by
      rw [kL_bit (by omega)]
      apply kL_c; intro t ht; simp [ksn, hA, h0, eq_comm]
    have e2 := k15_up (A := A) (u := u) (a := a) (f := f) (g := fun i => decide (i = u 11 f)) f2 (fun p hp => by simp [kbl, hA, h0, eq_comm])
    rw [← kb_bit (by omega)] at e2
    rw [e1, ← e2]
    have y1' : ∀ a b c d, (kz z a b c d).1 11 f = nI 0 := fun a b c d => by rw [y1, h0]
    refine mv_start pX1_heedOne (some .long) [some (.ref 2), some (.int (nI f)), none, none] rfl rfl rfl rfl (fun V C => ?_)
    refine mv_aload_n C rfl rfl ?_
    refine mv_getR C rfl rfl rfl ?_
    refine mv_getR C rfl rfl rfl ?_
    refine mv_iload_n C rfl rfl ?_
    refine mv_aldJ C rfl rfl rfl (by omega) (y2 _ _ _ _) ?_
    refine mv_is_n2 C rfl rfl ?_
    refine mv_aload_n C rfl rfl ?_
    refine mv_getR C rfl rfl rfl ?_
    refine mv_getR C rfl rfl rfl ?_
    refine mv_iload_n C rfl rfl ?_
    refine mv_aldJ C rfl rfl rfl (by omega) (y3 _ _ _ _) ?_
    refine mv_is_n3 C rfl rfl ?_
    refine mv_aload_n C rfl rfl ?_
    refine mv_getR C rfl rfl rfl ?_
    refine mv_getR C rfl rfl rfl ?_
    refine mv_iload_n C rfl rfl ?_
    refine mv_aldJ C rfl rfl rfl (by omega) (y1' _ _ _ _) ?_
    refine mv_lsw C rfl rfl rfl ?_
    refine mv_aload_n C rfl rfl ?_
    refine mv_getR C rfl rfl rfl ?_
    refine mv_iload_n C rfl rfl ?_
    refine mv_dup2 C rfl rfl rfl ?_
    refine mv_ald C rfl rfl rfl (by omega) ?_
    refine mv_iload_n C rfl rfl ?_
    refine mv_cS C rfl (r_bit _ _) (by decide) rfl (Nat.le_of_ble_eq_true rfl) (Nat.le_refl _) (Nat.le_refl _) rfl ?_
    refine mv_iand C rfl ?_
    refine mv_ast C rfl rfl rfl (by omega) ?_
    refine mv_sto kz_u15 ?_
    refine mv_lconst C rfl ?_
    refine mv_iload_n C rfl rfl ?_
    refine mv_lshl C rfl ?_
    refine mv_lreturn C rfl rfl ?_ ?_
    all_goals rfl
  · rw [k16_no (Or.inr (by omega))]
    have e1 : (kL (fun t => ksn A u t f)) = 0 := by
      rw [kL_0]
      apply kL_c; intro t ht; simp [ksn, h0]
    have e2 := k15_up (A := A) (u := u) (a := a) (f := f) (g := fun i => !decide (i = u 11 f)) f2 (fun p hp => by simp [kbl, hA, h0, eq_comm])
    rw [← kb_not, ← kb_bit (by omega)] at e2
    rw [e1, ← e2]
    have y1' : ∀ a b c d, (kz z a b c d).1 11 f = nI 1 := fun a b c d => by rw [y1, h0]
    refine mv_start pX1_heedOne (some .long) [some (.ref 2), some (.int (nI f)), none, none] rfl rfl rfl rfl (fun V C => ?_)
    refine mv_aload_n C rfl rfl ?_
    refine mv_getR C rfl rfl rfl ?_
    refine mv_getR C rfl rfl rfl ?_
    refine mv_iload_n C rfl rfl ?_
    refine mv_aldJ C rfl rfl rfl (by omega) (y2 _ _ _ _) ?_
    refine mv_is_n2 C rfl rfl ?_
    refine mv_aload_n C rfl rfl ?_
    refine mv_getR C rfl rfl rfl ?_
    refine mv_getR C rfl rfl rfl ?_
    refine mv_iload_n C rfl rfl ?_
    refine mv_aldJ C rfl rfl rfl (by omega) (y3 _ _ _ _) ?_
    refine mv_is_n3 C rfl rfl ?_
    refine mv_aload_n C rfl rfl ?_
    refine mv_getR C rfl rfl rfl ?_
    refine mv_getR C rfl rfl rfl ?_
    refine mv_iload_n C rfl rfl ?_
    refine mv_aldJ C rfl rfl rfl (by omega) (y1' _ _ _ _) ?_
    refine mv_lsw C rfl rfl rfl ?_
    refine mv_aload_n C rfl rfl ?_
    refine mv_getR C rfl rfl rfl ?_
    refine mv_iload_n C rfl rfl ?_
    refine mv_dup2 C rfl rfl rfl ?_
    refine mv_ald C rfl rfl rfl (by omega) ?_
    refine mv_iload_n C rfl rfl ?_
    refine mv_cS C rfl (r_bit _ _) (by decide) rfl (Nat.le_of_ble_eq_true rfl) (Nat.le_refl _) (Nat.le_refl _) rfl ?_
    refine mv_iconst C rfl ?_
    refine mv_ixor C rfl ?_
    refine mv_iand C rfl ?_
    refine mv_ast C rfl rfl rfl (by omega) ?_
    refine mv_sto kz_u15 ?_
    refine mv_lconst C rfl ?_
    refine mv_lreturn C rfl rfl ?_ ?_
    all_goals rfl
  · rw [k15_no (Or.inr h0)]
    have f5 := f4 h0
    have e1 : (kL (fun t => ksn A u t f)) = 0 := by
      rw [kL_0]
      apply kL_c; intro t ht; simp [ksn, h0]
    have e2 := k16_up (A := A) (u := u) (b := b) (f := f) hA h0 f5
    rw [← kL_bit (by omega)] at e2
    rw [e1, ← e2]
    have y1' : ∀ a b c d, (kz z a b c d).1 11 f = nI 2 := fun a b c d => by rw [y1, h0]
    refine mv_start pX1_heedOne (some .long) [some (.ref 2), some (.int (nI f)), none, none] rfl rfl rfl rfl (fun V C => ?_)
    refine mv_aload_n C rfl rfl ?_
    refine mv_getR C rfl rfl rfl ?_
    refine mv_getR C rfl rfl rfl ?_
    refine mv_iload_n C rfl rfl ?_
    refine mv_aldJ C rfl rfl rfl (by omega) (y2 _ _ _ _) ?_
    refine mv_is_n2 C rfl rfl ?_
    refine mv_aload_n C rfl rfl ?_
    refine mv_getR C rfl rfl rfl ?_
    refine mv_getR C rfl rfl rfl ?_
    refine mv_iload_n C rfl rfl ?_
    refine mv_aldJ C rfl rfl rfl (by omega) (y3 _ _ _ _) ?_
    refine mv_is_n3 C rfl rfl ?_
    refine mv_aload_n C rfl rfl ?_
    refine mv_getR C rfl rfl rfl ?_
    refine mv_getR C rfl rfl rfl ?_
    refine mv_iload_n C rfl rfl ?_
    refine mv_aldJ C rfl rfl rfl (by omega) (y1' _ _ _ _) ?_
    refine mv_lsw C rfl rfl rfl ?_
    refine mv_aload_n C rfl rfl ?_
    refine mv_getR C rfl rfl rfl ?_
    refine mv_iload_n C rfl rfl ?_
    refine mv_dup2 C rfl rfl rfl ?_
    refine mv_lld C rfl rfl rfl (by omega) ?_
    refine mv_lconst C rfl ?_
    refine mv_iload_n C rfl rfl ?_
    refine mv_lshl C rfl ?_
    refine mv_lor C rfl ?_
    refine mv_lst C rfl rfl rfl (by omega) ?_
    refine mv_sto kz_u16 ?_
    refine mv_lconst C rfl ?_
    refine mv_lreturn C rfl rfl ?_ ?_
    all_goals rfl
end

