section
def b1 (b : Bool) : Int32 := bif b then 1 else 0
theorem b1_0 {b : Bool} : b1 b = 0 ↔ b = false := by cases b <;> decide
theorem b1_1 {b : Bool} : b1 b = 0 ∨ b1 b = 1 := by cases b <;> decide
/-- what the walks of the reference rest on; A the facts that bind -/
def mH (u : hM) (A : Nat → Bool) (z : mv_Z) : Prop := z.1 68 1 = nI (u 0 0) ∧ z.1 68 4 = nI (u 2 0) ∧ z.1 68 11 = nI (u 9 0) ∧ z.1 68 9 = hst (u 8 0) ∧ (∀ r, z.1 71 r = nI (u 3 r) ∧ z.1 72 r = nI (u 4 r) ∧ z.1 73 r = nI (u 5 r) ∧ z.1 74 r = nI (u 6 r)) ∧ (∀ f, z.1 76 f = nI (u 10 f) ∧ z.1 77 f = nI (u 11 f) ∧ z.1 78 f = nI (u 12 f)) ∧ (∀ f, f < u 9 0 → z.1 79 f = b1 (!A f))
def ky (z : mv_Z) (m g : Nat → Int32) : mv_Z := (fun q => if q = 80 then m else if q = 81 then g else z.1 q, z.2)
theorem ky_self (z : mv_Z) : ky z (z.1 80) (z.1 81) = z := by
  unfold ky
  refine Prod.ext (funext fun q => ?_) rfl
  dsimp only
  split
  · rename_i h; rw [h]
  · split
    · rename_i h; rw [h]
    · rfl
theorem ky_u80 {z : mv_Z} {m g : Nat → Int32} {i : Nat} {x : Int32} : mv_u (ky z m g) 80 i x = ky z (upd m i x) g := by
  unfold ky mv_u
  refine Prod.ext (funext fun q => ?_) rfl
  by_cases h : q = 80 <;> simp [va_up, h]
theorem ky_u81 {z : mv_Z} {m g : Nat → Int32} {i : Nat} {x : Int32} : mv_u (ky z m g) 81 i x = ky z m (upd g i x) := by
  unfold ky mv_u
  refine Prod.ext (funext fun q => ?_) rfl
  by_cases h : q = 81 <;> simp [va_up, h]
theorem ky_eq (z : mv_Z) (m g : Nat → Int32) : ky z m g = mv_w (mv_w z 80 m) 81 g := by
  unfold ky mv_w
  refine Prod.ext (funext fun q => ?_) rfl
  dsimp only [va_up]
  by_cases h : q = 81
  · subst h; rfl
  · simp [h]
theorem ky_rM {u : hM} {z : mv_Z} (h : rM u z) (m g : Nat → Int32) : rM u (ky z m g) := by
  rw [ky_eq]; exact rM_freew (rM_freew h 80 m (by decide)) 81 g (by decide)
theorem ky_fM {z z1 : mv_Z} (h : fM z z1) (m g : Nat → Int32) : fM z (ky z1 m g) := by
  rw [ky_eq]; exact fM_w (fM_w h (by decide)) (by decide)
theorem mH_of {u : hM} {z : mv_Z} (hi : hI u) (h : rM u z) : mH u (kAll u) z := by
  refine ⟨rM_s h 1 0 (by decide), rM_s h 4 2 (by decide), rM_s h 11 9 (by decide), h.2.1, fun r => ⟨rM_a h 71 3 (by decide) r, rM_a h 72 4 (by decide) r, rM_a h 73 5 (by decide) r, rM_a h 74 6 (by decide) r⟩, fun f => ⟨rM_a h 76 10 (by decide) f, rM_a h 77 11 (by decide) f, rM_a h 78 12 (by decide) f⟩, fun f _ => ?_⟩
  rw [rM_a h 79 13 (by decide) f]
  have := (hi.2.2.2.2.2.2.2.2.2.1 f).1
  rcases (show u 13 f = 0 ∨ u 13 f = 1 by omega) with q | q <;> simp [kAll, b1, q]
  all_goals rfl
theorem mH_y {u : hM} {A : Nat → Bool} {z : mv_Z} (h : mH u A z) (m g : Nat → Int32) : mH u A (ky z m g) := h
theorem r_letsIn (z : mv_Z) (u : hM) (A : Nat → Bool) (p t : Nat) (hp : p < 100) (ht : t < 100) (hi : hI u) (hz : mH u A z) : mv_Runs 1 129 [.ref 68, .int (nI p), .int (nI t)] (mv_E z) (some (.int (b1 (klet A u p t)))) (mv_E z) := by
  have h40 : u 9 0 ≤ 40 := hi.2.2.2.2.2.2.2.1
  have h24 := hi.1
  have h240 := hi.2.2.1
  have hfc := hi.2.2.2.2.2.2.2.2.1
  obtain ⟨-, -, hn, -, -, hF, hS⟩ := hz
  refine mv_start pX11_letsIn (some .boolean) [some (.ref 68), some (.int (nI p)), some (.int (nI t)), none, none] rfl rfl rfl rfl (fun V C => ?_)
  have loop : ∀ (k i : Nat), i + k = u 9 0 → V 5 [some (.ref 68), some (.int (nI p)), some (.int (nI t)), some (.int (b1 (!kany (kbl A u p t) i))), some (.int (nI i))] [] (mv_E z) := by
    intro k
    induction k with
    | zero =>
      intro i hi2
      obtain rfl : i = u 9 0 := by omega
      refine mv_iload C rfl rfl ?_
      refine mv_aload_n C rfl rfl ?_
      refine mv_getJ C rfl rfl rfl hn ?_
      refine mv_icmp_ge C rfl (fun c11 => ?_) (fun c11 => ?_)
      · refine mv_iload_n C rfl rfl ?_
        refine mv_ireturn C rfl (mv_okZ b1_1) ?_ ?_
        all_goals rfl
      · exact absurd (nI_le (by omega) (by omega)) c11
    | succ k ih =>
      intro i hi2
      have e := ih (i + 1) (by omega)
      obtain ⟨g1, g2, g3, g4⟩ := hfc i (by omega)
      obtain ⟨y1, y2, y3⟩ := hF i
      have y4 := hS i (by omega)
      have hof : u 11 i < 100 := by
        rcases Nat.lt_or_ge (u 10 i) 2 with q | q
        · have := g3 q; omega
        · have := g4 (by omega); omega
      have eq1 : (!kany (kbl A u p t) (i + 1)) = ((!kany (kbl A u p t) i) && !kbl A u p t i) := by simp only [kany, Bool.not_or]
      rw [eq1] at e
      generalize (!kany (kbl A u p t) i) = b at *
      cases hA : A i with
      | false =>
        rw [hA] at y4
        rw [show kbl A u p t i = false by simp [kbl, hA], Bool.not_false, Bool.and_true] at e
        refine mv_iload C rfl rfl ?_
        refine mv_aload_n C rfl rfl ?_
        refine mv_getJ C rfl rfl rfl hn ?_
        refine mv_icmp_ge C rfl (fun c11 => ?_) (fun c11 => ?_)
        · exact absurd c11 (nI_ge (by omega) (by omega))
        · refine mv_aload_n C rfl rfl ?_
          refine mv_getR C rfl rfl rfl ?_
          refine mv_iload C rfl rfl ?_
          refine mv_zldJ C rfl rfl rfl (by omega) y4 ?_
          refine mv_if_ne C rfl (fun c21 => ?_) (fun c21 => ?_)
          · refine mv_inc4 C rfl rfl ?_
            refine mv_goto C rfl ?_
            simp only [nI_1]
            exact e
          · exact absurd c21 (by decide)
      | true =>
        rw [hA] at y4
        by_cases h12 : u 12 i = t
        · have eb : kbl A u p t i = decide (u 10 i = 0 ∧ ¬ u 11 i = p ∨ u 10 i = 1 ∧ u 11 i = p) := by simp [kbl, hA, h12]
          have fin : ∀ x : Int32, x = b1 (b && !kbl A u p t i) → V 90 [some (.ref 68), some (.int (nI p)), some (.int (nI t)), some (.int (b1 b)), some (.int (nI i))] [.int x] (mv_E z) := by
            intro x hx
            subst hx
            refine mv_is_n3 C rfl rfl ?_
            refine mv_inc4 C rfl rfl ?_
            refine mv_goto C rfl ?_
            simp only [nI_1]
            exact e
          rw [eb] at fin
          refine mv_iload C rfl rfl ?_
          refine mv_aload_n C rfl rfl ?_
          refine mv_getJ C rfl rfl rfl hn ?_
          refine mv_icmp_ge C rfl (fun c11 => ?_) (fun c11 => ?_)
          · exact absurd c11 (nI_ge (by omega) (by omega))
          · try simp only [b01, b10, Classical.not_not] at c11
            try simp (disch := omega) only [lit_0, lit_1, lit_2, lit_3, lit_4, lit_5, lit_6, lit_7, lit_8, lit_9, lit_10, lit_11, lit_12, lit_23, lit_24, lit_30, lit_31, lit_32, lit_39, lit_40, lit_41, lit_46, lit_47, lit_48, lit_96, lit_99, lit_100, lit_255, lit_999, lit_1000, lit_2024, lit_32767, lit_1000000, nI_ltI, nI_leI, nI_eq, Nat.not_lt, Nat.not_le] at c11
            try simp only [unl_0, unl_1, unl_2, unl_3, unl_4, unl_5, unl_6, unl_7, unl_8, unl_9, unl_10, unl_11, unl_12, unl_23, unl_24, unl_30, unl_31, unl_32, unl_39, unl_40, unl_41, unl_46, unl_47, unl_48, unl_96, unl_99, unl_100, unl_255, unl_999, unl_1000, unl_2024, unl_32767, unl_1000000] at c11
            refine mv_aload_n C rfl rfl ?_
            refine mv_getR C rfl rfl rfl ?_
            refine mv_iload C rfl rfl ?_
            refine mv_zldJ C rfl rfl rfl (by omega) y4 ?_
            refine mv_if_ne C rfl (fun c21 => ?_) (fun c21 => ?_)
            · exact absurd rfl c21
            · try simp only [b01, b10, Classical.not_not] at c21
              try simp (disch := omega) only [lit_0, lit_1, lit_2, lit_3, lit_4, lit_5, lit_6, lit_7, lit_8, lit_9, lit_10, lit_11, lit_12, lit_23, lit_24, lit_30, lit_31, lit_32, lit_39, lit_40, lit_41, lit_46, lit_47, lit_48, lit_96, lit_99, lit_100, lit_255, lit_999, lit_1000, lit_2024, lit_32767, lit_1000000, nI_ltI, nI_leI, nI_eq, Nat.not_lt, Nat.not_le] at c21
              try simp only [unl_0, unl_1, unl_2, unl_3, unl_4, unl_5, unl_6, unl_7, unl_8, unl_9, unl_10, unl_11, unl_12, unl_23, unl_24, unl_30, unl_31, unl_32, unl_39, unl_40, unl_41, unl_46, unl_47, unl_48, unl_96, unl_99, unl_100, unl_255, unl_999, unl_1000, unl_2024, unl_32767, unl_1000000] at c21
              refine mv_aload_n C rfl rfl ?_
              refine mv_getR C rfl rfl rfl ?_
              refine mv_iload C rfl rfl ?_
              refine mv_aldJ C rfl rfl rfl (by omega) y3 ?_
              refine mv_iload_n C rfl rfl ?_
              refine mv_icmp_eq C rfl (fun c32 => ?_) (fun c32 => ?_)
              · try simp only [b01, b10, Classical.not_not] at c32
                try simp (disch := omega) only [lit_0, lit_1, lit_2, lit_3, lit_4, lit_5, lit_6, lit_7, lit_8, lit_9, lit_10, lit_11, lit_12, lit_23, lit_24, lit_30, lit_31, lit_32, lit_39, lit_40, lit_41, lit_46, lit_47, lit_48, lit_96, lit_99, lit_100, lit_255, lit_999, lit_1000, lit_2024, lit_32767, lit_1000000, nI_ltI, nI_leI, nI_eq, Nat.not_lt, Nat.not_le] at c32
                try simp only [unl_0, unl_1, unl_2, unl_3, unl_4, unl_5, unl_6, unl_7, unl_8, unl_9, unl_10, unl_11, unl_12, unl_23, unl_24, unl_30, unl_31, unl_32, unl_39, unl_40, unl_41, unl_46, unl_47, unl_48, unl_96, unl_99, unl_100, unl_255, unl_999, unl_1000, unl_2024, unl_32767, unl_1000000] at c32
                refine mv_iload_n C rfl rfl ?_
                refine mv_if_eq C rfl (fun c39 => ?_) (fun c39 => ?_)
                · simp only [b1_0] at c39
                  refine mv_iconst C rfl ?_
                  refine fin _ ?_
                  clear fin e ih C
                  cases b <;> simp_all [b1]
                · simp only [b1_0] at c39
                  refine mv_aload_n C rfl rfl ?_
                  refine mv_getR C rfl rfl rfl ?_
                  refine mv_iload C rfl rfl ?_
                  refine mv_aldJ C rfl rfl rfl (by omega) y1 ?_
                  refine mv_if_ne C rfl (fun c49 => ?_) (fun c49 => ?_)
                  · try simp only [b01, b10, Classical.not_not] at c49
                    try simp (disch := omega) only [lit_0, lit_1, lit_2, lit_3, lit_4, lit_5, lit_6, lit_7, lit_8, lit_9, lit_10, lit_11, lit_12, lit_23, lit_24, lit_30, lit_31, lit_32, lit_39, lit_40, lit_41, lit_46, lit_47, lit_48, lit_96, lit_99, lit_100, lit_255, lit_999, lit_1000, lit_2024, lit_32767, lit_1000000, nI_ltI, nI_leI, nI_eq, Nat.not_lt, Nat.not_le] at c49
                    try simp only [unl_0, unl_1, unl_2, unl_3, unl_4, unl_5, unl_6, unl_7, unl_8, unl_9, unl_10, unl_11, unl_12, unl_23, unl_24, unl_30, unl_31, unl_32, unl_39, unl_40, unl_41, unl_46, unl_47, unl_48, unl_96, unl_99, unl_100, unl_255, unl_999, unl_1000, unl_2024, unl_32767, unl_1000000] at c49
                    refine mv_aload_n C rfl rfl ?_
                    refine mv_getR C rfl rfl rfl ?_
                    refine mv_iload C rfl rfl ?_
                    refine mv_aldJ C rfl rfl rfl (by omega) y1 ?_
                    refine mv_iconst C rfl ?_
                    refine mv_icmp_ne C rfl (fun c71 => ?_) (fun c71 => ?_)
                    · try simp only [b01, b10, Classical.not_not] at c71
                      try simp (disch := omega) only [lit_0, lit_1, lit_2, lit_3, lit_4, lit_5, lit_6, lit_7, lit_8, lit_9, lit_10, lit_11, lit_12, lit_23, lit_24, lit_30, lit_31, lit_32, lit_39, lit_40, lit_41, lit_46, lit_47, lit_48, lit_96, lit_99, lit_100, lit_255, lit_999, lit_1000, lit_2024, lit_32767, lit_1000000, nI_ltI, nI_leI, nI_eq, Nat.not_lt, Nat.not_le] at c71
                      try simp only [unl_0, unl_1, unl_2, unl_3, unl_4, unl_5, unl_6, unl_7, unl_8, unl_9, unl_10, unl_11, unl_12, unl_23, unl_24, unl_30, unl_31, unl_32, unl_39, unl_40, unl_41, unl_46, unl_47, unl_48, unl_96, unl_99, unl_100, unl_255, unl_999, unl_1000, unl_2024, unl_32767, unl_1000000] at c71
                      refine mv_iconst C rfl ?_
                      refine mv_goto C rfl ?_
                      refine fin _ ?_
                      clear fin e ih C
                      cases b <;> simp_all [b1]
                    · try simp only [b01, b10, Classical.not_not] at c71
                      try simp (disch := omega) only [lit_0, lit_1, lit_2, lit_3, lit_4, lit_5, lit_6, lit_7, lit_8, lit_9, lit_10, lit_11, lit_12, lit_23, lit_24, lit_30, lit_31, lit_32, lit_39, lit_40, lit_41, lit_46, lit_47, lit_48, lit_96, lit_99, lit_100, lit_255, lit_999, lit_1000, lit_2024, lit_32767, lit_1000000, nI_ltI, nI_leI, nI_eq, Nat.not_lt, Nat.not_le] at c71
                      try simp only [unl_0, unl_1, unl_2, unl_3, unl_4, unl_5, unl_6, unl_7, unl_8, unl_9, unl_10, unl_11, unl_12, unl_23, unl_24, unl_30, unl_31, unl_32, unl_39, unl_40, unl_41, unl_46, unl_47, unl_48, unl_96, unl_99, unl_100, unl_255, unl_999, unl_1000, unl_2024, unl_32767, unl_1000000] at c71
                      refine mv_aload_n C rfl rfl ?_
                      refine mv_getR C rfl rfl rfl ?_
                      refine mv_iload C rfl rfl ?_
                      refine mv_aldJ C rfl rfl rfl (by omega) y2 ?_
                      refine mv_iload_n C rfl rfl ?_
                      refine mv_icmp_eq C rfl (fun c82 => ?_) (fun c82 => ?_)
                      · try simp only [b01, b10, Classical.not_not] at c82
                        try simp (disch := omega) only [lit_0, lit_1, lit_2, lit_3, lit_4, lit_5, lit_6, lit_7, lit_8, lit_9, lit_10, lit_11, lit_12, lit_23, lit_24, lit_30, lit_31, lit_32, lit_39, lit_40, lit_41, lit_46, lit_47, lit_48, lit_96, lit_99, lit_100, lit_255, lit_999, lit_1000, lit_2024, lit_32767, lit_1000000, nI_ltI, nI_leI, nI_eq, Nat.not_lt, Nat.not_le] at c82
                        try simp only [unl_0, unl_1, unl_2, unl_3, unl_4, unl_5, unl_6, unl_7, unl_8, unl_9, unl_10, unl_11, unl_12, unl_23, unl_24, unl_30, unl_31, unl_32, unl_39, unl_40, unl_41, unl_46, unl_47, unl_48, unl_96, unl_99, unl_100, unl_255, unl_999, unl_1000, unl_2024, unl_32767, unl_1000000] at c82
                        refine mv_iconst C rfl ?_
                        refine fin _ ?_
                        clear fin e ih C
                        cases b <;> simp_all [b1]
                      · try simp only [b01, b10, Classical.not_not] at c82
                        try simp (disch := omega) only [lit_0, lit_1, lit_2, lit_3, lit_4, lit_5, lit_6, lit_7, lit_8, lit_9, lit_10, lit_11, lit_12, lit_23, lit_24, lit_30, lit_31, lit_32, lit_39, lit_40, lit_41, lit_46, lit_47, lit_48, lit_96, lit_99, lit_100, lit_255, lit_999, lit_1000, lit_2024, lit_32767, lit_1000000, nI_ltI, nI_leI, nI_eq, Nat.not_lt, Nat.not_le] at c82
                        try simp only [unl_0, unl_1, unl_2, unl_3, unl_4, unl_5, unl_6, unl_7, unl_8, unl_9, unl_10, unl_11, unl_12, unl_23, unl_24, unl_30, unl_31, unl_32, unl_39, unl_40, unl_41, unl_46, unl_47, unl_48, unl_96, unl_99, unl_100, unl_255, unl_999, unl_1000, unl_2024, unl_32767, unl_1000000] at c82
                        refine mv_iconst C rfl ?_
                        refine mv_goto C rfl ?_
                        refine fin _ ?_
                        clear fin e ih C
                        cases b <;> simp_all [b1]
                  · try simp only [b01, b10, Classical.not_not] at c49
                    try simp (disch := omega) only [lit_0, lit_1, lit_2, lit_3, lit_4, lit_5, lit_6, lit_7, lit_8, lit_9, lit_10, lit_11, lit_12, lit_23, lit_24, lit_30, lit_31, lit_32, lit_39, lit_40, lit_41, lit_46, lit_47, lit_48, lit_96, lit_99, lit_100, lit_255, lit_999, lit_1000, lit_2024, lit_32767, lit_1000000, nI_ltI, nI_leI, nI_eq, Nat.not_lt, Nat.not_le] at c49
                    try simp only [unl_0, unl_1, unl_2, unl_3, unl_4, unl_5, unl_6, unl_7, unl_8, unl_9, unl_10, unl_11, unl_12, unl_23, unl_24, unl_30, unl_31, unl_32, unl_39, unl_40, unl_41, unl_46, unl_47, unl_48, unl_96, unl_99, unl_100, unl_255, unl_999, unl_1000, unl_2024, unl_32767, unl_1000000] at c49
                    refine mv_aload_n C rfl rfl ?_
                    refine mv_getR C rfl rfl rfl ?_
                    refine mv_iload C rfl rfl ?_
                    refine mv_aldJ C rfl rfl rfl (by omega) y2 ?_
                    refine mv_iload_n C rfl rfl ?_
                    refine mv_icmp_ne C rfl (fun c60 => ?_) (fun c60 => ?_)
                    · try simp only [b01, b10, Classical.not_not] at c60
                      try simp (disch := omega) only [lit_0, lit_1, lit_2, lit_3, lit_4, lit_5, lit_6, lit_7, lit_8, lit_9, lit_10, lit_11, lit_12, lit_23, lit_24, lit_30, lit_31, lit_32, lit_39, lit_40, lit_41, lit_46, lit_47, lit_48, lit_96, lit_99, lit_100, lit_255, lit_999, lit_1000, lit_2024, lit_32767, lit_1000000, nI_ltI, nI_leI, nI_eq, Nat.not_lt, Nat.not_le] at c60
                      try simp only [unl_0, unl_1, unl_2, unl_3, unl_4, unl_5, unl_6, unl_7, unl_8, unl_9, unl_10, unl_11, unl_12, unl_23, unl_24, unl_30, unl_31, unl_32, unl_39, unl_40, unl_41, unl_46, unl_47, unl_48, unl_96, unl_99, unl_100, unl_255, unl_999, unl_1000, unl_2024, unl_32767, unl_1000000] at c60
                      refine mv_iconst C rfl ?_
                      refine fin _ ?_
                      clear fin e ih C
                      cases b <;> simp_all [b1]
                    · try simp only [b01, b10, Classical.not_not] at c60
                      try simp (disch := omega) only [lit_0, lit_1, lit_2, lit_3, lit_4, lit_5, lit_6, lit_7, lit_8, lit_9, lit_10, lit_11, lit_12, lit_23, lit_24, lit_30, lit_31, lit_32, lit_39, lit_40, lit_41, lit_46, lit_47, lit_48, lit_96, lit_99, lit_100, lit_255, lit_999, lit_1000, lit_2024, lit_32767, lit_1000000, nI_ltI, nI_leI, nI_eq, Nat.not_lt, Nat.not_le] at c60
                      try simp only [unl_0, unl_1, unl_2, unl_3, unl_4, unl_5, unl_6, unl_7, unl_8, unl_9, unl_10, unl_11, unl_12, unl_23, unl_24, unl_30, unl_31, unl_32, unl_39, unl_40, unl_41, unl_46, unl_47, unl_48, unl_96, unl_99, unl_100, unl_255, unl_999, unl_1000, unl_2024, unl_32767, unl_1000000] at c60
                      refine mv_aload_n C rfl rfl ?_
                      refine mv_getR C rfl rfl rfl ?_
                      refine mv_iload C rfl rfl ?_
                      refine mv_aldJ C rfl rfl rfl (by omega) y1 ?_
                      refine mv_iconst C rfl ?_
                      refine mv_icmp_ne C rfl (fun c71 => ?_) (fun c71 => ?_)
                      · try simp only [b01, b10, Classical.not_not] at c71
                        try simp (disch := omega) only [lit_0, lit_1, lit_2, lit_3, lit_4, lit_5, lit_6, lit_7, lit_8, lit_9, lit_10, lit_11, lit_12, lit_23, lit_24, lit_30, lit_31, lit_32, lit_39, lit_40, lit_41, lit_46, lit_47, lit_48, lit_96, lit_99, lit_100, lit_255, lit_999, lit_1000, lit_2024, lit_32767, lit_1000000, nI_ltI, nI_leI, nI_eq, Nat.not_lt, Nat.not_le] at c71
                        try simp only [unl_0, unl_1, unl_2, unl_3, unl_4, unl_5, unl_6, unl_7, unl_8, unl_9, unl_10, unl_11, unl_12, unl_23, unl_24, unl_30, unl_31, unl_32, unl_39, unl_40, unl_41, unl_46, unl_47, unl_48, unl_96, unl_99, unl_100, unl_255, unl_999, unl_1000, unl_2024, unl_32767, unl_1000000] at c71
                        refine mv_iconst C rfl ?_
                        refine mv_goto C rfl ?_
                        refine fin _ ?_
                        clear fin e ih C
                        cases b <;> simp_all [b1]
                      · try simp only [b01, b10, Classical.not_not] at c71
                        try simp (disch := omega) only [lit_0, lit_1, lit_2, lit_3, lit_4, lit_5, lit_6, lit_7, lit_8, lit_9, lit_10, lit_11, lit_12, lit_23, lit_24, lit_30, lit_31, lit_32, lit_39, lit_40, lit_41, lit_46, lit_47, lit_48, lit_96, lit_99, lit_100, lit_255, lit_999, lit_1000, lit_2024, lit_32767, lit_1000000, nI_ltI, nI_leI, nI_eq, Nat.not_lt, Nat.not_le] at c71
                        try simp only [unl_0, unl_1, unl_2, unl_3, unl_4, unl_5, unl_6, unl_7, unl_8, unl_9, unl_10, unl_11, unl_12, unl_23, unl_24, unl_30, unl_31, unl_32, unl_39, unl_40, unl_41, unl_46, unl_47, unl_48, unl_96, unl_99, unl_100, unl_255, unl_999, unl_1000, unl_2024, unl_32767, unl_1000000] at c71
                        refine mv_aload_n C rfl rfl ?_
                        refine mv_getR C rfl rfl rfl ?_
                        refine mv_iload C rfl rfl ?_
                        refine mv_aldJ C rfl rfl rfl (by omega) y2 ?_
                        refine mv_iload_n C rfl rfl ?_
                        refine mv_icmp_eq C rfl (fun c82 => ?_) (fun c82 => ?_)
                        · try simp only [b01, b10, Classical.not_not] at c82
                          try simp (disch := omega) only [lit_0, lit_1, lit_2, lit_3, lit_4, lit_5, lit_6, lit_7, lit_8, lit_9, lit_10, lit_11, lit_12, lit_23, lit_24, lit_30, lit_31, lit_32, lit_39, lit_40, lit_41, lit_46, lit_47, lit_48, lit_96, lit_99, lit_100, lit_255, lit_999, lit_1000, lit_2024, lit_32767, lit_1000000, nI_ltI, nI_leI, nI_eq, Nat.not_lt, Nat.not_le] at c82
                          try simp only [unl_0, unl_1, unl_2, unl_3, unl_4, unl_5, unl_6, unl_7, unl_8, unl_9, unl_10, unl_11, unl_12, unl_23, unl_24, unl_30, unl_31, unl_32, unl_39, unl_40, unl_41, unl_46, unl_47, unl_48, unl_96, unl_99, unl_100, unl_255, unl_999, unl_1000, unl_2024, unl_32767, unl_1000000] at c82
                          refine mv_iconst C rfl ?_
                          refine fin _ ?_
                          clear fin e ih C
                          cases b <;> simp_all [b1]
                        · try simp only [b01, b10, Classical.not_not] at c82
                          try simp (disch := omega) only [lit_0, lit_1, lit_2, lit_3, lit_4, lit_5, lit_6, lit_7, lit_8, lit_9, lit_10, lit_11, lit_12, lit_23, lit_24, lit_30, lit_31, lit_32, lit_39, lit_40, lit_41, lit_46, lit_47, lit_48, lit_96, lit_99, lit_100, lit_255, lit_999, lit_1000, lit_2024, lit_32767, lit_1000000, nI_ltI, nI_leI, nI_eq, Nat.not_lt, Nat.not_le] at c82
                          try simp only [unl_0, unl_1, unl_2, unl_3, unl_4, unl_5, unl_6, unl_7, unl_8, unl_9, unl_10, unl_11, unl_12, unl_23, unl_24, unl_30, unl_31, unl_32, unl_39, unl_40, unl_41, unl_46, unl_47, unl_48, unl_96, unl_99, unl_100, unl_255, unl_999, unl_1000, unl_2024, unl_32767, unl_1000000] at c82
                          refine mv_iconst C rfl ?_
                          refine mv_goto C rfl ?_
                          refine fin _ ?_
                          clear fin e ih C
                          cases b <;> simp_all [b1]
              · exact absurd (by rw [h12]) c32
        · rw [show kbl A u p t i = false by simp [kbl, h12], Bool.not_false, Bool.and_true] at e
          refine mv_iload C rfl rfl ?_
          refine mv_aload_n C rfl rfl ?_
          refine mv_getJ C rfl rfl rfl hn ?_
          refine mv_icmp_ge C rfl (fun c11 => ?_) (fun c11 => ?_)
          · exact absurd c11 (nI_ge (by omega) (by omega))
          · refine mv_aload_n C rfl rfl ?_
            refine mv_getR C rfl rfl rfl ?_
            refine mv_iload C rfl rfl ?_
            refine mv_zldJ C rfl rfl rfl (by omega) y4 ?_
            refine mv_if_ne C rfl (fun c21 => ?_) (fun c21 => ?_)
            · exact absurd rfl c21
            · refine mv_aload_n C rfl rfl ?_
              refine mv_getR C rfl rfl rfl ?_
              refine mv_iload C rfl rfl ?_
              refine mv_aldJ C rfl rfl rfl (by omega) y3 ?_
              refine mv_iload_n C rfl rfl ?_
              refine mv_icmp_eq C rfl (fun c32 => ?_) (fun c32 => ?_)
              · exact absurd ((nI_eq (by omega) (by omega)).mp c32) h12
              · refine mv_goto C rfl ?_
                refine mv_inc4 C rfl rfl ?_
                refine mv_goto C rfl ?_
                simp only [nI_1]
                exact e
  refine mv_iconst C rfl ?_
  refine mv_is_n3 C rfl rfl ?_
  refine mv_iconst C rfl ?_
  refine mv_is4 C rfl rfl ?_
  exact loop (u 9 0) 0 (by omega)
theorem r_mIsClear (z : mv_Z) (u : hM) (A : Nat → Bool) (r a m : Nat) (hr : r < 100) (ha : a < 100) (hm : m < 100) (hi : hI u) (hz : mH u A z) : mv_Runs 2 130 [.ref 68, .int (nI r), .int (nI a), .int (nI m)] (mv_E z) (some (.int (b1 (kclr A u r a (m + 1))))) (mv_E z) := by
  have h40 : u 9 0 ≤ 40 := hi.2.2.2.2.2.2.2.1
  have h24 := hi.1
  have h240 := hi.2.2.1
  have hfc := hi.2.2.2.2.2.2.2.2.1
  obtain ⟨-, -, hn, -, -, hF, hS⟩ := hz
  refine mv_start pX11_isClear (some .boolean) [some (.ref 68), some (.int (nI r)), some (.int (nI a)), some (.int (nI m)), none, none] rfl rfl rfl rfl (fun V C => ?_)
  have loop : ∀ (k i : Nat), i + k = u 9 0 → V 6 [some (.ref 68), some (.int (nI r)), some (.int (nI a)), some (.int (nI m)), some (.int (b1 (!kany (kbc A u r a (m + 1)) i))), some (.int (nI i))] [] (mv_E z) := by
    intro k
    induction k with
    | zero =>
      intro i hi2
      obtain rfl : i = u 9 0 := by omega
      refine mv_iload C rfl rfl ?_
      refine mv_aload_n C rfl rfl ?_
      refine mv_getJ C rfl rfl rfl hn ?_
      refine mv_icmp_ge C rfl (fun c12 => ?_) (fun c12 => ?_)
      · refine mv_iload C rfl rfl ?_
        refine mv_ireturn C rfl (mv_okZ b1_1) ?_ ?_
        all_goals rfl
      · exact absurd (nI_le (by omega) (by omega)) c12
    | succ k ih =>
      intro i hi2
      have e := ih (i + 1) (by omega)
      obtain ⟨g1, g2, g3, g4⟩ := hfc i (by omega)
      obtain ⟨y1, y2, y3⟩ := hF i
      have y4 := hS i (by omega)
      have hof : u 11 i < 100 := by
        rcases Nat.lt_or_ge (u 10 i) 2 with q | q
        · have := g3 q; omega
        · have := g4 (by omega); omega
      have eq1 : (!kany (kbc A u r a (m + 1)) (i + 1)) = ((!kany (kbc A u r a (m + 1)) i) && !kbc A u r a (m + 1) i) := by simp only [kany, Bool.not_or]
      rw [eq1] at e
      generalize (!kany (kbc A u r a (m + 1)) i) = b at *
      have R0 := r_inI z (nI (u 12 i)) (nI a).toInt64 (nI m).toInt64 (a ≤ u 12 i ∧ u 12 i ≤ m) (by rw [Int32.toInt_toInt64, Int32.toInt_toInt64, nI_toInt (by omega), nI_toInt (by omega), nI_toInt (by omega)]; omega)
      cases hA : A i with
      | false =>
        rw [hA] at y4
        rw [show kbc A u r a (m + 1) i = false by simp [kbc, hA], Bool.not_false, Bool.and_true] at e
        refine mv_iload C rfl rfl ?_
        refine mv_aload_n C rfl rfl ?_
        refine mv_getJ C rfl rfl rfl hn ?_
        refine mv_icmp_ge C rfl (fun c12 => ?_) (fun c12 => ?_)
        · exact absurd c12 (nI_ge (by omega) (by omega))
        · refine mv_aload_n C rfl rfl ?_
          refine mv_getR C rfl rfl rfl ?_
          refine mv_iload C rfl rfl ?_
          refine mv_zldJ C rfl rfl rfl (by omega) y4 ?_
          refine mv_if_ne C rfl (fun c22 => ?_) (fun c22 => ?_)
          · refine mv_inc5 C rfl rfl ?_
            refine mv_goto C rfl ?_
            simp only [nI_1]
            exact e
          · exact absurd c22 (by decide)
      | true =>
        rw [hA] at y4
        by_cases h12 : a ≤ u 12 i ∧ u 12 i ≤ m
        · rw [if_pos h12] at R0
          have eb : kbc A u r a (m + 1) i = decide (u 10 i = 0 ∨ u 10 i = 2 ∧ u 11 i = r) := by
            simp only [kbc, hA, Bool.true_and]; rw [decide_eq_decide]; omega
          have fin : ∀ x : Int32, x = b1 (b && !kbc A u r a (m + 1) i) → V 88 [some (.ref 68), some (.int (nI r)), some (.int (nI a)), some (.int (nI m)), some (.int (b1 b)), some (.int (nI i))] [.int x] (mv_E z) := by
            intro x hx
            subst hx
            refine mv_is4 C rfl rfl ?_
            refine mv_inc5 C rfl rfl ?_
            refine mv_goto C rfl ?_
            simp only [nI_1]
            exact e
          rw [eb] at fin
          refine mv_iload C rfl rfl ?_
          refine mv_aload_n C rfl rfl ?_
          refine mv_getJ C rfl rfl rfl hn ?_
          refine mv_icmp_ge C rfl (fun c12 => ?_) (fun c12 => ?_)
          · exact absurd c12 (nI_ge (by omega) (by omega))
          · try simp only [b01, b10, Classical.not_not] at c12
            try simp (disch := omega) only [lit_0, lit_1, lit_2, lit_3, lit_4, lit_5, lit_6, lit_7, lit_8, lit_9, lit_10, lit_11, lit_12, lit_23, lit_24, lit_30, lit_31, lit_32, lit_39, lit_40, lit_41, lit_46, lit_47, lit_48, lit_96, lit_99, lit_100, lit_255, lit_999, lit_1000, lit_2024, lit_32767, lit_1000000, nI_ltI, nI_leI, nI_eq, Nat.not_lt, Nat.not_le] at c12
            try simp only [unl_0, unl_1, unl_2, unl_3, unl_4, unl_5, unl_6, unl_7, unl_8, unl_9, unl_10, unl_11, unl_12, unl_23, unl_24, unl_30, unl_31, unl_32, unl_39, unl_40, unl_41, unl_46, unl_47, unl_48, unl_96, unl_99, unl_100, unl_255, unl_999, unl_1000, unl_2024, unl_32767, unl_1000000] at c12
            refine mv_aload_n C rfl rfl ?_
            refine mv_getR C rfl rfl rfl ?_
            refine mv_iload C rfl rfl ?_
            refine mv_zldJ C rfl rfl rfl (by omega) y4 ?_
            refine mv_if_ne C rfl (fun c22 => ?_) (fun c22 => ?_)
            · exact absurd rfl c22
            · try simp only [b01, b10, Classical.not_not] at c22
              try simp (disch := omega) only [lit_0, lit_1, lit_2, lit_3, lit_4, lit_5, lit_6, lit_7, lit_8, lit_9, lit_10, lit_11, lit_12, lit_23, lit_24, lit_30, lit_31, lit_32, lit_39, lit_40, lit_41, lit_46, lit_47, lit_48, lit_96, lit_99, lit_100, lit_255, lit_999, lit_1000, lit_2024, lit_32767, lit_1000000, nI_ltI, nI_leI, nI_eq, Nat.not_lt, Nat.not_le] at c22
              try simp only [unl_0, unl_1, unl_2, unl_3, unl_4, unl_5, unl_6, unl_7, unl_8, unl_9, unl_10, unl_11, unl_12, unl_23, unl_24, unl_30, unl_31, unl_32, unl_39, unl_40, unl_41, unl_46, unl_47, unl_48, unl_96, unl_99, unl_100, unl_255, unl_999, unl_1000, unl_2024, unl_32767, unl_1000000] at c22
              refine mv_aload_n C rfl rfl ?_
              refine mv_getR C rfl rfl rfl ?_
              refine mv_iload C rfl rfl ?_
              refine mv_aldJ C rfl rfl rfl (by omega) y3 ?_
              refine mv_i2l C rfl ?_
              refine mv_iload_n C rfl rfl ?_
              refine mv_i2l C rfl ?_
              refine mv_iload_n C rfl rfl ?_
              refine mv_i2l C rfl ?_
              refine mv_cS C rfl R0 (by decide) rfl (Nat.le_of_ble_eq_true rfl) (Nat.le_refl _) (Nat.le_refl _) rfl ?_
              refine mv_if_ne C rfl (fun c40 => ?_) (fun c40 => ?_)
              · try simp only [b01, b10, Classical.not_not] at c40
                try simp (disch := omega) only [lit_0, lit_1, lit_2, lit_3, lit_4, lit_5, lit_6, lit_7, lit_8, lit_9, lit_10, lit_11, lit_12, lit_23, lit_24, lit_30, lit_31, lit_32, lit_39, lit_40, lit_41, lit_46, lit_47, lit_48, lit_96, lit_99, lit_100, lit_255, lit_999, lit_1000, lit_2024, lit_32767, lit_1000000, nI_ltI, nI_leI, nI_eq, Nat.not_lt, Nat.not_le] at c40
                try simp only [unl_0, unl_1, unl_2, unl_3, unl_4, unl_5, unl_6, unl_7, unl_8, unl_9, unl_10, unl_11, unl_12, unl_23, unl_24, unl_30, unl_31, unl_32, unl_39, unl_40, unl_41, unl_46, unl_47, unl_48, unl_96, unl_99, unl_100, unl_255, unl_999, unl_1000, unl_2024, unl_32767, unl_1000000] at c40
                refine mv_iload C rfl rfl ?_
                refine mv_if_eq C rfl (fun c48 => ?_) (fun c48 => ?_)
                · simp only [b1_0] at c48
                  refine mv_iconst C rfl ?_
                  refine fin _ ?_
                  clear fin e ih C
                  cases b <;> simp_all [b1]
                · simp only [b1_0] at c48
                  refine mv_aload_n C rfl rfl ?_
                  refine mv_getR C rfl rfl rfl ?_
                  refine mv_iload C rfl rfl ?_
                  refine mv_aldJ C rfl rfl rfl (by omega) y1 ?_
                  refine mv_if_eq C rfl (fun c58 => ?_) (fun c58 => ?_)
                  · try simp only [b01, b10, Classical.not_not] at c58
                    try simp (disch := omega) only [lit_0, lit_1, lit_2, lit_3, lit_4, lit_5, lit_6, lit_7, lit_8, lit_9, lit_10, lit_11, lit_12, lit_23, lit_24, lit_30, lit_31, lit_32, lit_39, lit_40, lit_41, lit_46, lit_47, lit_48, lit_96, lit_99, lit_100, lit_255, lit_999, lit_1000, lit_2024, lit_32767, lit_1000000, nI_ltI, nI_leI, nI_eq, Nat.not_lt, Nat.not_le] at c58
                    try simp only [unl_0, unl_1, unl_2, unl_3, unl_4, unl_5, unl_6, unl_7, unl_8, unl_9, unl_10, unl_11, unl_12, unl_23, unl_24, unl_30, unl_31, unl_32, unl_39, unl_40, unl_41, unl_46, unl_47, unl_48, unl_96, unl_99, unl_100, unl_255, unl_999, unl_1000, unl_2024, unl_32767, unl_1000000] at c58
                    refine mv_iconst C rfl ?_
                    refine fin _ ?_
                    clear fin e ih C
                    cases b <;> simp_all [b1]
                  · try simp only [b01, b10, Classical.not_not] at c58
                    try simp (disch := omega) only [lit_0, lit_1, lit_2, lit_3, lit_4, lit_5, lit_6, lit_7, lit_8, lit_9, lit_10, lit_11, lit_12, lit_23, lit_24, lit_30, lit_31, lit_32, lit_39, lit_40, lit_41, lit_46, lit_47, lit_48, lit_96, lit_99, lit_100, lit_255, lit_999, lit_1000, lit_2024, lit_32767, lit_1000000, nI_ltI, nI_leI, nI_eq, Nat.not_lt, Nat.not_le] at c58
                    try simp only [unl_0, unl_1, unl_2, unl_3, unl_4, unl_5, unl_6, unl_7, unl_8, unl_9, unl_10, unl_11, unl_12, unl_23, unl_24, unl_30, unl_31, unl_32, unl_39, unl_40, unl_41, unl_46, unl_47, unl_48, unl_96, unl_99, unl_100, unl_255, unl_999, unl_1000, unl_2024, unl_32767, unl_1000000] at c58
                    refine mv_aload_n C rfl rfl ?_
                    refine mv_getR C rfl rfl rfl ?_
                    refine mv_iload C rfl rfl ?_
                    refine mv_aldJ C rfl rfl rfl (by omega) y1 ?_
                    refine mv_iconst C rfl ?_
                    refine mv_icmp_ne C rfl (fun c69 => ?_) (fun c69 => ?_)
                    · try simp only [b01, b10, Classical.not_not] at c69
                      try simp (disch := omega) only [lit_0, lit_1, lit_2, lit_3, lit_4, lit_5, lit_6, lit_7, lit_8, lit_9, lit_10, lit_11, lit_12, lit_23, lit_24, lit_30, lit_31, lit_32, lit_39, lit_40, lit_41, lit_46, lit_47, lit_48, lit_96, lit_99, lit_100, lit_255, lit_999, lit_1000, lit_2024, lit_32767, lit_1000000, nI_ltI, nI_leI, nI_eq, Nat.not_lt, Nat.not_le] at c69
                      try simp only [unl_0, unl_1, unl_2, unl_3, unl_4, unl_5, unl_6, unl_7, unl_8, unl_9, unl_10, unl_11, unl_12, unl_23, unl_24, unl_30, unl_31, unl_32, unl_39, unl_40, unl_41, unl_46, unl_47, unl_48, unl_96, unl_99, unl_100, unl_255, unl_999, unl_1000, unl_2024, unl_32767, unl_1000000] at c69
                      refine mv_iconst C rfl ?_
                      refine mv_goto C rfl ?_
                      refine fin _ ?_
                      clear fin e ih C
                      cases b <;> simp_all [b1]
                    · try simp only [b01, b10, Classical.not_not] at c69
                      try simp (disch := omega) only [lit_0, lit_1, lit_2, lit_3, lit_4, lit_5, lit_6, lit_7, lit_8, lit_9, lit_10, lit_11, lit_12, lit_23, lit_24, lit_30, lit_31, lit_32, lit_39, lit_40, lit_41, lit_46, lit_47, lit_48, lit_96, lit_99, lit_100, lit_255, lit_999, lit_1000, lit_2024, lit_32767, lit_1000000, nI_ltI, nI_leI, nI_eq, Nat.not_lt, Nat.not_le] at c69
                      try simp only [unl_0, unl_1, unl_2, unl_3, unl_4, unl_5, unl_6, unl_7, unl_8, unl_9, unl_10, unl_11, unl_12, unl_23, unl_24, unl_30, unl_31, unl_32, unl_39, unl_40, unl_41, unl_46, unl_47, unl_48, unl_96, unl_99, unl_100, unl_255, unl_999, unl_1000, unl_2024, unl_32767, unl_1000000] at c69
                      refine mv_aload_n C rfl rfl ?_
                      refine mv_getR C rfl rfl rfl ?_
                      refine mv_iload C rfl rfl ?_
                      refine mv_aldJ C rfl rfl rfl (by omega) y2 ?_
                      refine mv_iload_n C rfl rfl ?_
                      refine mv_icmp_eq C rfl (fun c80 => ?_) (fun c80 => ?_)
                      · try simp only [b01, b10, Classical.not_not] at c80
                        try simp (disch := omega) only [lit_0, lit_1, lit_2, lit_3, lit_4, lit_5, lit_6, lit_7, lit_8, lit_9, lit_10, lit_11, lit_12, lit_23, lit_24, lit_30, lit_31, lit_32, lit_39, lit_40, lit_41, lit_46, lit_47, lit_48, lit_96, lit_99, lit_100, lit_255, lit_999, lit_1000, lit_2024, lit_32767, lit_1000000, nI_ltI, nI_leI, nI_eq, Nat.not_lt, Nat.not_le] at c80
                        try simp only [unl_0, unl_1, unl_2, unl_3, unl_4, unl_5, unl_6, unl_7, unl_8, unl_9, unl_10, unl_11, unl_12, unl_23, unl_24, unl_30, unl_31, unl_32, unl_39, unl_40, unl_41, unl_46, unl_47, unl_48, unl_96, unl_99, unl_100, unl_255, unl_999, unl_1000, unl_2024, unl_32767, unl_1000000] at c80
                        refine mv_iconst C rfl ?_
                        refine fin _ ?_
                        clear fin e ih C
                        cases b <;> simp_all [b1]
                      · try simp only [b01, b10, Classical.not_not] at c80
                        try simp (disch := omega) only [lit_0, lit_1, lit_2, lit_3, lit_4, lit_5, lit_6, lit_7, lit_8, lit_9, lit_10, lit_11, lit_12, lit_23, lit_24, lit_30, lit_31, lit_32, lit_39, lit_40, lit_41, lit_46, lit_47, lit_48, lit_96, lit_99, lit_100, lit_255, lit_999, lit_1000, lit_2024, lit_32767, lit_1000000, nI_ltI, nI_leI, nI_eq, Nat.not_lt, Nat.not_le] at c80
                        try simp only [unl_0, unl_1, unl_2, unl_3, unl_4, unl_5, unl_6, unl_7, unl_8, unl_9, unl_10, unl_11, unl_12, unl_23, unl_24, unl_30, unl_31, unl_32, unl_39, unl_40, unl_41, unl_46, unl_47, unl_48, unl_96, unl_99, unl_100, unl_255, unl_999, unl_1000, unl_2024, unl_32767, unl_1000000] at c80
                        refine mv_iconst C rfl ?_
                        refine mv_goto C rfl ?_
                        refine fin _ ?_
                        clear fin e ih C
                        cases b <;> simp_all [b1]
              · exact absurd c40 (by decide)
        · rw [if_neg h12] at R0
          rw [show kbc A u r a (m + 1) i = false by (simp only [kbc]; rw [decide_eq_false (by omega), Bool.and_false]), Bool.not_false, Bool.and_true] at e
          refine mv_iload C rfl rfl ?_
          refine mv_aload_n C rfl rfl ?_
          refine mv_getJ C rfl rfl rfl hn ?_
          refine mv_icmp_ge C rfl (fun c12 => ?_) (fun c12 => ?_)
          · exact absurd c12 (nI_ge (by omega) (by omega))
          · refine mv_aload_n C rfl rfl ?_
            refine mv_getR C rfl rfl rfl ?_
            refine mv_iload C rfl rfl ?_
            refine mv_zldJ C rfl rfl rfl (by omega) y4 ?_
            refine mv_if_ne C rfl (fun c22 => ?_) (fun c22 => ?_)
            · exact absurd rfl c22
            · refine mv_aload_n C rfl rfl ?_
              refine mv_getR C rfl rfl rfl ?_
              refine mv_iload C rfl rfl ?_
              refine mv_aldJ C rfl rfl rfl (by omega) y3 ?_
              refine mv_i2l C rfl ?_
              refine mv_iload_n C rfl rfl ?_
              refine mv_i2l C rfl ?_
              refine mv_iload_n C rfl rfl ?_
              refine mv_i2l C rfl ?_
              refine mv_cS C rfl R0 (by decide) rfl (Nat.le_of_ble_eq_true rfl) (Nat.le_refl _) (Nat.le_refl _) rfl ?_
              refine mv_if_ne C rfl (fun c40 => ?_) (fun c40 => ?_)
              · exact absurd rfl c40
              · refine mv_goto C rfl ?_
                refine mv_inc5 C rfl rfl ?_
                refine mv_goto C rfl ?_
                simp only [nI_1]
                exact e
  refine mv_iconst C rfl ?_
  refine mv_is4 C rfl rfl ?_
  refine mv_iconst C rfl ?_
  refine mv_is5 C rfl rfl ?_
  exact loop (u 9 0) 0 (by omega)
theorem r_cell (z : mv_Z) (t p : Nat) : mv_Runs 1 131 [.int (nI t), .int (nI p)] (mv_E z) (some (.int (nI (t * 24 + p)))) (mv_E z) := by
  refine mv_start pX11_cell (some .int) [some (.int (nI t)), some (.int (nI p))] rfl rfl rfl rfl (fun V C => ?_)
  refine mv_iload_n C rfl rfl ?_
  refine mv_bipush C rfl ?_
  refine mv_imul C rfl ?_
  refine mv_top (pk_mul _ 24) ?_
  refine mv_iload_n C rfl rfl ?_
  refine mv_iadd C rfl ?_
  refine mv_top (nI_add _ _) ?_
  refine mv_ireturn C rfl mv_okI ?_ ?_
  all_goals rfl
def kot (u : hM) (r p : Nat) : Nat := if u 3 r = p then u 4 r + 1 else if u 4 r = p then u 3 r + 1 else 0
theorem r_other (z : mv_Z) (u : hM) (A : Nat → Bool) (r p : Nat) (hr : r < u 2 0) (hp : p < 100) (hi : hI u) (hz : mH u A z) : mv_Runs 1 132 [.ref 68, .int (nI r), .int (nI p)] (mv_E z) (some (.int (hst (kot u r p)))) (mv_E z) := by
  have h240 := hi.2.2.1
  have h24 := hi.1
  obtain ⟨q1, q2, q3, q4, q5⟩ := hi.2.2.2.1 r hr
  obtain ⟨y1, y2, y3, y4⟩ := hz.2.2.2.2.1 r
  unfold kot
  refine mv_start pX11_other (some .int) [some (.ref 68), some (.int (nI r)), some (.int (nI p))] rfl rfl rfl rfl (fun V C => ?_)
  refine mv_aload_n C rfl rfl ?_
  refine mv_getR C rfl rfl rfl ?_
  refine mv_iload_n C rfl rfl ?_
  refine mv_aldJ C rfl rfl rfl (by omega) y1 ?_
  refine mv_iload_n C rfl rfl ?_
  refine mv_icmp_ne C rfl (fun c7 => ?_) (fun c7 => ?_)
  · rw [nI_eq (by omega) (by omega)] at c7
    rw [if_neg c7] at C
    refine mv_aload_n C rfl rfl ?_
    refine mv_getR C rfl rfl rfl ?_
    refine mv_iload_n C rfl rfl ?_
    refine mv_aldJ C rfl rfl rfl (by omega) y2 ?_
    refine mv_iload_n C rfl rfl ?_
    refine mv_icmp_ne C rfl (fun c26 => ?_) (fun c26 => ?_)
    · rw [nI_eq (by omega) (by omega)] at c26
      rw [if_neg c26] at C
      refine mv_iconst C rfl ?_
      refine mv_ireturn C rfl mv_okI ?_ ?_
      all_goals rfl
    · rw [nI_eq (by omega) (by omega)] at c26
      rw [if_pos c26] at C
      refine mv_aload_n C rfl rfl ?_
      refine mv_getR C rfl rfl rfl ?_
      refine mv_iload_n C rfl rfl ?_
      refine mv_aldJ C rfl rfl rfl (by omega) y1 ?_
      refine mv_goto C rfl ?_
      refine mv_ireturn C rfl mv_okI ?_ ?_
      all_goals rfl
  · rw [nI_eq (by omega) (by omega)] at c7
    rw [if_pos c7] at C
    refine mv_aload_n C rfl rfl ?_
    refine mv_getR C rfl rfl rfl ?_
    refine mv_iload_n C rfl rfl ?_
    refine mv_aldJ C rfl rfl rfl (by omega) y2 ?_
    refine mv_goto C rfl ?_
    refine mv_ireturn C rfl mv_okI ?_ ?_
    all_goals rfl
end

