theorem mv_okI {x : Int32} : mv_rok (some .int) x := Or.inl rfl
theorem mv_okZ1 : mv_rok (some .boolean) 1 := Or.inr ⟨rfl, Or.inr rfl⟩
theorem mv_okZ0 : mv_rok (some .boolean) 0 := Or.inr ⟨rfl, Or.inl rfl⟩
theorem mv_okZi {c : Prop} [Decidable c] : mv_rok (some .boolean) (if c then 1 else 0) := Or.inr ⟨rfl, by by_cases h : c <;> simp [h]⟩
theorem mv_okZ {x : Int32} (h : x = 0 ∨ x = 1) : mv_rok (some .boolean) x := Or.inr ⟨rfl, h⟩
/-- more room for calls -/
theorem mv_Clo_mono {P : List (Nat × mv_I)} {rt : Option FieldType} {Rn Rm : Nat → List Value → mv_S → Option Value → mv_S → Prop} {nM sM : Nat} {r0 : Option Value} {S0 : mv_S} {V : Nat → mv_L → List Value → mv_S → Prop} (h0 : ∀ y as S r S1, Rn y as S r S1 → Rm y as S r S1) (C : mv_Clo P rt Rm nM sM r0 S0 V) : mv_Clo P rt Rn nM sM r0 S0 V := by
  exact ⟨C.1, C.2.1, C.2.2.1, C.2.2.2.1, C.2.2.2.2.1, C.2.2.2.2.2.1, C.2.2.2.2.2.2.1, C.2.2.2.2.2.2.2.1, C.2.2.2.2.2.2.2.2.1, C.2.2.2.2.2.2.2.2.2.1, C.2.2.2.2.2.2.2.2.2.2.1, C.2.2.2.2.2.2.2.2.2.2.2.1, C.2.2.2.2.2.2.2.2.2.2.2.2.1, C.2.2.2.2.2.2.2.2.2.2.2.2.2.1, C.2.2.2.2.2.2.2.2.2.2.2.2.2.2.1, C.2.2.2.2.2.2.2.2.2.2.2.2.2.2.2.1, C.2.2.2.2.2.2.2.2.2.2.2.2.2.2.2.2.1, C.2.2.2.2.2.2.2.2.2.2.2.2.2.2.2.2.2.1, C.2.2.2.2.2.2.2.2.2.2.2.2.2.2.2.2.2.2.1, C.2.2.2.2.2.2.2.2.2.2.2.2.2.2.2.2.2.2.2.1, C.2.2.2.2.2.2.2.2.2.2.2.2.2.2.2.2.2.2.2.2.1, C.2.2.2.2.2.2.2.2.2.2.2.2.2.2.2.2.2.2.2.2.2.1, C.2.2.2.2.2.2.2.2.2.2.2.2.2.2.2.2.2.2.2.2.2.2.1, C.2.2.2.2.2.2.2.2.2.2.2.2.2.2.2.2.2.2.2.2.2.2.2.1, C.2.2.2.2.2.2.2.2.2.2.2.2.2.2.2.2.2.2.2.2.2.2.2.2.1, C.2.2.2.2.2.2.2.2.2.2.2.2.2.2.2.2.2.2.2.2.2.2.2.2.2.1, C.2.2.2.2.2.2.2.2.2.2.2.2.2.2.2.2.2.2.2.2.2.2.2.2.2.2.1, C.2.2.2.2.2.2.2.2.2.2.2.2.2.2.2.2.2.2.2.2.2.2.2.2.2.2.2.1, C.2.2.2.2.2.2.2.2.2.2.2.2.2.2.2.2.2.2.2.2.2.2.2.2.2.2.2.2.1, C.2.2.2.2.2.2.2.2.2.2.2.2.2.2.2.2.2.2.2.2.2.2.2.2.2.2.2.2.2.1, C.2.2.2.2.2.2.2.2.2.2.2.2.2.2.2.2.2.2.2.2.2.2.2.2.2.2.2.2.2.2.1, C.2.2.2.2.2.2.2.2.2.2.2.2.2.2.2.2.2.2.2.2.2.2.2.2.2.2.2.2.2.2.2.1, C.2.2.2.2.2.2.2.2.2.2.2.2.2.2.2.2.2.2.2.2.2.2.2.2.2.2.2.2.2.2.2.2.1, C.2.2.2.2.2.2.2.2.2.2.2.2.2.2.2.2.2.2.2.2.2.2.2.2.2.2.2.2.2.2.2.2.2.1, C.2.2.2.2.2.2.2.2.2.2.2.2.2.2.2.2.2.2.2.2.2.2.2.2.2.2.2.2.2.2.2.2.2.2.1, C.2.2.2.2.2.2.2.2.2.2.2.2.2.2.2.2.2.2.2.2.2.2.2.2.2.2.2.2.2.2.2.2.2.2.2.1, C.2.2.2.2.2.2.2.2.2.2.2.2.2.2.2.2.2.2.2.2.2.2.2.2.2.2.2.2.2.2.2.2.2.2.2.2.1, C.2.2.2.2.2.2.2.2.2.2.2.2.2.2.2.2.2.2.2.2.2.2.2.2.2.2.2.2.2.2.2.2.2.2.2.2.2.1, C.2.2.2.2.2.2.2.2.2.2.2.2.2.2.2.2.2.2.2.2.2.2.2.2.2.2.2.2.2.2.2.2.2.2.2.2.2.2.1, C.2.2.2.2.2.2.2.2.2.2.2.2.2.2.2.2.2.2.2.2.2.2.2.2.2.2.2.2.2.2.2.2.2.2.2.2.2.2.2.1, C.2.2.2.2.2.2.2.2.2.2.2.2.2.2.2.2.2.2.2.2.2.2.2.2.2.2.2.2.2.2.2.2.2.2.2.2.2.2.2.2.1, C.2.2.2.2.2.2.2.2.2.2.2.2.2.2.2.2.2.2.2.2.2.2.2.2.2.2.2.2.2.2.2.2.2.2.2.2.2.2.2.2.2.1, C.2.2.2.2.2.2.2.2.2.2.2.2.2.2.2.2.2.2.2.2.2.2.2.2.2.2.2.2.2.2.2.2.2.2.2.2.2.2.2.2.2.2.1, C.2.2.2.2.2.2.2.2.2.2.2.2.2.2.2.2.2.2.2.2.2.2.2.2.2.2.2.2.2.2.2.2.2.2.2.2.2.2.2.2.2.2.2.1, C.2.2.2.2.2.2.2.2.2.2.2.2.2.2.2.2.2.2.2.2.2.2.2.2.2.2.2.2.2.2.2.2.2.2.2.2.2.2.2.2.2.2.2.2.1, C.2.2.2.2.2.2.2.2.2.2.2.2.2.2.2.2.2.2.2.2.2.2.2.2.2.2.2.2.2.2.2.2.2.2.2.2.2.2.2.2.2.2.2.2.2.1, C.2.2.2.2.2.2.2.2.2.2.2.2.2.2.2.2.2.2.2.2.2.2.2.2.2.2.2.2.2.2.2.2.2.2.2.2.2.2.2.2.2.2.2.2.2.2.1, C.2.2.2.2.2.2.2.2.2.2.2.2.2.2.2.2.2.2.2.2.2.2.2.2.2.2.2.2.2.2.2.2.2.2.2.2.2.2.2.2.2.2.2.2.2.2.2.1, C.2.2.2.2.2.2.2.2.2.2.2.2.2.2.2.2.2.2.2.2.2.2.2.2.2.2.2.2.2.2.2.2.2.2.2.2.2.2.2.2.2.2.2.2.2.2.2.2.1, C.2.2.2.2.2.2.2.2.2.2.2.2.2.2.2.2.2.2.2.2.2.2.2.2.2.2.2.2.2.2.2.2.2.2.2.2.2.2.2.2.2.2.2.2.2.2.2.2.2.1, C.2.2.2.2.2.2.2.2.2.2.2.2.2.2.2.2.2.2.2.2.2.2.2.2.2.2.2.2.2.2.2.2.2.2.2.2.2.2.2.2.2.2.2.2.2.2.2.2.2.2.1, C.2.2.2.2.2.2.2.2.2.2.2.2.2.2.2.2.2.2.2.2.2.2.2.2.2.2.2.2.2.2.2.2.2.2.2.2.2.2.2.2.2.2.2.2.2.2.2.2.2.2.2.1, C.2.2.2.2.2.2.2.2.2.2.2.2.2.2.2.2.2.2.2.2.2.2.2.2.2.2.2.2.2.2.2.2.2.2.2.2.2.2.2.2.2.2.2.2.2.2.2.2.2.2.2.2.1, C.2.2.2.2.2.2.2.2.2.2.2.2.2.2.2.2.2.2.2.2.2.2.2.2.2.2.2.2.2.2.2.2.2.2.2.2.2.2.2.2.2.2.2.2.2.2.2.2.2.2.2.2.2.1, C.2.2.2.2.2.2.2.2.2.2.2.2.2.2.2.2.2.2.2.2.2.2.2.2.2.2.2.2.2.2.2.2.2.2.2.2.2.2.2.2.2.2.2.2.2.2.2.2.2.2.2.2.2.2.1, C.2.2.2.2.2.2.2.2.2.2.2.2.2.2.2.2.2.2.2.2.2.2.2.2.2.2.2.2.2.2.2.2.2.2.2.2.2.2.2.2.2.2.2.2.2.2.2.2.2.2.2.2.2.2.2.1, C.2.2.2.2.2.2.2.2.2.2.2.2.2.2.2.2.2.2.2.2.2.2.2.2.2.2.2.2.2.2.2.2.2.2.2.2.2.2.2.2.2.2.2.2.2.2.2.2.2.2.2.2.2.2.2.2.1, C.2.2.2.2.2.2.2.2.2.2.2.2.2.2.2.2.2.2.2.2.2.2.2.2.2.2.2.2.2.2.2.2.2.2.2.2.2.2.2.2.2.2.2.2.2.2.2.2.2.2.2.2.2.2.2.2.2.1, C.2.2.2.2.2.2.2.2.2.2.2.2.2.2.2.2.2.2.2.2.2.2.2.2.2.2.2.2.2.2.2.2.2.2.2.2.2.2.2.2.2.2.2.2.2.2.2.2.2.2.2.2.2.2.2.2.2.2.1, C.2.2.2.2.2.2.2.2.2.2.2.2.2.2.2.2.2.2.2.2.2.2.2.2.2.2.2.2.2.2.2.2.2.2.2.2.2.2.2.2.2.2.2.2.2.2.2.2.2.2.2.2.2.2.2.2.2.2.2.1, C.2.2.2.2.2.2.2.2.2.2.2.2.2.2.2.2.2.2.2.2.2.2.2.2.2.2.2.2.2.2.2.2.2.2.2.2.2.2.2.2.2.2.2.2.2.2.2.2.2.2.2.2.2.2.2.2.2.2.2.2.1, C.2.2.2.2.2.2.2.2.2.2.2.2.2.2.2.2.2.2.2.2.2.2.2.2.2.2.2.2.2.2.2.2.2.2.2.2.2.2.2.2.2.2.2.2.2.2.2.2.2.2.2.2.2.2.2.2.2.2.2.2.2.1, C.2.2.2.2.2.2.2.2.2.2.2.2.2.2.2.2.2.2.2.2.2.2.2.2.2.2.2.2.2.2.2.2.2.2.2.2.2.2.2.2.2.2.2.2.2.2.2.2.2.2.2.2.2.2.2.2.2.2.2.2.2.2.1, C.2.2.2.2.2.2.2.2.2.2.2.2.2.2.2.2.2.2.2.2.2.2.2.2.2.2.2.2.2.2.2.2.2.2.2.2.2.2.2.2.2.2.2.2.2.2.2.2.2.2.2.2.2.2.2.2.2.2.2.2.2.2.2.1, C.2.2.2.2.2.2.2.2.2.2.2.2.2.2.2.2.2.2.2.2.2.2.2.2.2.2.2.2.2.2.2.2.2.2.2.2.2.2.2.2.2.2.2.2.2.2.2.2.2.2.2.2.2.2.2.2.2.2.2.2.2.2.2.2.1, C.2.2.2.2.2.2.2.2.2.2.2.2.2.2.2.2.2.2.2.2.2.2.2.2.2.2.2.2.2.2.2.2.2.2.2.2.2.2.2.2.2.2.2.2.2.2.2.2.2.2.2.2.2.2.2.2.2.2.2.2.2.2.2.2.2.1, C.2.2.2.2.2.2.2.2.2.2.2.2.2.2.2.2.2.2.2.2.2.2.2.2.2.2.2.2.2.2.2.2.2.2.2.2.2.2.2.2.2.2.2.2.2.2.2.2.2.2.2.2.2.2.2.2.2.2.2.2.2.2.2.2.2.2.1, C.2.2.2.2.2.2.2.2.2.2.2.2.2.2.2.2.2.2.2.2.2.2.2.2.2.2.2.2.2.2.2.2.2.2.2.2.2.2.2.2.2.2.2.2.2.2.2.2.2.2.2.2.2.2.2.2.2.2.2.2.2.2.2.2.2.2.2.1, C.2.2.2.2.2.2.2.2.2.2.2.2.2.2.2.2.2.2.2.2.2.2.2.2.2.2.2.2.2.2.2.2.2.2.2.2.2.2.2.2.2.2.2.2.2.2.2.2.2.2.2.2.2.2.2.2.2.2.2.2.2.2.2.2.2.2.2.2.1, C.2.2.2.2.2.2.2.2.2.2.2.2.2.2.2.2.2.2.2.2.2.2.2.2.2.2.2.2.2.2.2.2.2.2.2.2.2.2.2.2.2.2.2.2.2.2.2.2.2.2.2.2.2.2.2.2.2.2.2.2.2.2.2.2.2.2.2.2.2.1, C.2.2.2.2.2.2.2.2.2.2.2.2.2.2.2.2.2.2.2.2.2.2.2.2.2.2.2.2.2.2.2.2.2.2.2.2.2.2.2.2.2.2.2.2.2.2.2.2.2.2.2.2.2.2.2.2.2.2.2.2.2.2.2.2.2.2.2.2.2.2.1, C.2.2.2.2.2.2.2.2.2.2.2.2.2.2.2.2.2.2.2.2.2.2.2.2.2.2.2.2.2.2.2.2.2.2.2.2.2.2.2.2.2.2.2.2.2.2.2.2.2.2.2.2.2.2.2.2.2.2.2.2.2.2.2.2.2.2.2.2.2.2.2.1, C.2.2.2.2.2.2.2.2.2.2.2.2.2.2.2.2.2.2.2.2.2.2.2.2.2.2.2.2.2.2.2.2.2.2.2.2.2.2.2.2.2.2.2.2.2.2.2.2.2.2.2.2.2.2.2.2.2.2.2.2.2.2.2.2.2.2.2.2.2.2.2.2.1, C.2.2.2.2.2.2.2.2.2.2.2.2.2.2.2.2.2.2.2.2.2.2.2.2.2.2.2.2.2.2.2.2.2.2.2.2.2.2.2.2.2.2.2.2.2.2.2.2.2.2.2.2.2.2.2.2.2.2.2.2.2.2.2.2.2.2.2.2.2.2.2.2.2.1, C.2.2.2.2.2.2.2.2.2.2.2.2.2.2.2.2.2.2.2.2.2.2.2.2.2.2.2.2.2.2.2.2.2.2.2.2.2.2.2.2.2.2.2.2.2.2.2.2.2.2.2.2.2.2.2.2.2.2.2.2.2.2.2.2.2.2.2.2.2.2.2.2.2.2.1, C.2.2.2.2.2.2.2.2.2.2.2.2.2.2.2.2.2.2.2.2.2.2.2.2.2.2.2.2.2.2.2.2.2.2.2.2.2.2.2.2.2.2.2.2.2.2.2.2.2.2.2.2.2.2.2.2.2.2.2.2.2.2.2.2.2.2.2.2.2.2.2.2.2.2.2.1, C.2.2.2.2.2.2.2.2.2.2.2.2.2.2.2.2.2.2.2.2.2.2.2.2.2.2.2.2.2.2.2.2.2.2.2.2.2.2.2.2.2.2.2.2.2.2.2.2.2.2.2.2.2.2.2.2.2.2.2.2.2.2.2.2.2.2.2.2.2.2.2.2.2.2.2.2.1, C.2.2.2.2.2.2.2.2.2.2.2.2.2.2.2.2.2.2.2.2.2.2.2.2.2.2.2.2.2.2.2.2.2.2.2.2.2.2.2.2.2.2.2.2.2.2.2.2.2.2.2.2.2.2.2.2.2.2.2.2.2.2.2.2.2.2.2.2.2.2.2.2.2.2.2.2.2.1, C.2.2.2.2.2.2.2.2.2.2.2.2.2.2.2.2.2.2.2.2.2.2.2.2.2.2.2.2.2.2.2.2.2.2.2.2.2.2.2.2.2.2.2.2.2.2.2.2.2.2.2.2.2.2.2.2.2.2.2.2.2.2.2.2.2.2.2.2.2.2.2.2.2.2.2.2.2.2.1, C.2.2.2.2.2.2.2.2.2.2.2.2.2.2.2.2.2.2.2.2.2.2.2.2.2.2.2.2.2.2.2.2.2.2.2.2.2.2.2.2.2.2.2.2.2.2.2.2.2.2.2.2.2.2.2.2.2.2.2.2.2.2.2.2.2.2.2.2.2.2.2.2.2.2.2.2.2.2.2.1, C.2.2.2.2.2.2.2.2.2.2.2.2.2.2.2.2.2.2.2.2.2.2.2.2.2.2.2.2.2.2.2.2.2.2.2.2.2.2.2.2.2.2.2.2.2.2.2.2.2.2.2.2.2.2.2.2.2.2.2.2.2.2.2.2.2.2.2.2.2.2.2.2.2.2.2.2.2.2.2.2.1, fun pc nx a b v ls st S n as rest q ci fs r1 S1 h g0 g1 g2 g3 g4 g5 g6 => C.2.2.2.2.2.2.2.2.2.2.2.2.2.2.2.2.2.2.2.2.2.2.2.2.2.2.2.2.2.2.2.2.2.2.2.2.2.2.2.2.2.2.2.2.2.2.2.2.2.2.2.2.2.2.2.2.2.2.2.2.2.2.2.2.2.2.2.2.2.2.2.2.2.2.2.2.2.2.2.2.2.1 pc nx a b v ls st S n as rest q ci fs r1 S1 h g0 g1 g2 g3 g4 g5 (h0 _ _ _ _ _ g6), fun pc nx a b v ls st S n as rest r1 S1 h g0 g1 g2 g3 => C.2.2.2.2.2.2.2.2.2.2.2.2.2.2.2.2.2.2.2.2.2.2.2.2.2.2.2.2.2.2.2.2.2.2.2.2.2.2.2.2.2.2.2.2.2.2.2.2.2.2.2.2.2.2.2.2.2.2.2.2.2.2.2.2.2.2.2.2.2.2.2.2.2.2.2.2.2.2.2.2.2.2.1 pc nx a b v ls st S n as rest r1 S1 h g0 g1 g2 (h0 _ _ _ _ _ g3), fun pc nx a b v ls st S n as rest q r1 S1 h g0 g1 g2 g3 => C.2.2.2.2.2.2.2.2.2.2.2.2.2.2.2.2.2.2.2.2.2.2.2.2.2.2.2.2.2.2.2.2.2.2.2.2.2.2.2.2.2.2.2.2.2.2.2.2.2.2.2.2.2.2.2.2.2.2.2.2.2.2.2.2.2.2.2.2.2.2.2.2.2.2.2.2.2.2.2.2.2.2.2.1 pc nx a b v ls st S n as rest q r1 S1 h g0 g1 g2 (h0 _ _ _ _ _ g3), C.2.2.2.2.2.2.2.2.2.2.2.2.2.2.2.2.2.2.2.2.2.2.2.2.2.2.2.2.2.2.2.2.2.2.2.2.2.2.2.2.2.2.2.2.2.2.2.2.2.2.2.2.2.2.2.2.2.2.2.2.2.2.2.2.2.2.2.2.2.2.2.2.2.2.2.2.2.2.2.2.2.2.2.2.1, C.2.2.2.2.2.2.2.2.2.2.2.2.2.2.2.2.2.2.2.2.2.2.2.2.2.2.2.2.2.2.2.2.2.2.2.2.2.2.2.2.2.2.2.2.2.2.2.2.2.2.2.2.2.2.2.2.2.2.2.2.2.2.2.2.2.2.2.2.2.2.2.2.2.2.2.2.2.2.2.2.2.2.2.2.2.1, C.2.2.2.2.2.2.2.2.2.2.2.2.2.2.2.2.2.2.2.2.2.2.2.2.2.2.2.2.2.2.2.2.2.2.2.2.2.2.2.2.2.2.2.2.2.2.2.2.2.2.2.2.2.2.2.2.2.2.2.2.2.2.2.2.2.2.2.2.2.2.2.2.2.2.2.2.2.2.2.2.2.2.2.2.2.2.1, C.2.2.2.2.2.2.2.2.2.2.2.2.2.2.2.2.2.2.2.2.2.2.2.2.2.2.2.2.2.2.2.2.2.2.2.2.2.2.2.2.2.2.2.2.2.2.2.2.2.2.2.2.2.2.2.2.2.2.2.2.2.2.2.2.2.2.2.2.2.2.2.2.2.2.2.2.2.2.2.2.2.2.2.2.2.2.2⟩
theorem mv_Runs_mono : ∀ (d d1 : Nat), d ≤ d1 → ∀ (y : Nat) (as : List Value) (S : mv_S) (r : Option Value) (S1 : mv_S), mv_Runs d y as S r S1 → mv_Runs d1 y as S r S1
  | 0, _, _, _, _, _, _, _, h => absurd h id
  | d + 1, 0, hd, _, _, _, _, _, _ => absurd hd (by omega)
  | d + 1, d1 + 1, hd, y, as, S, r, S1, h => ⟨h.1, fun V C => h.2 V (mv_Clo_mono (mv_Runs_mono d d1 (by omega)) C)⟩
theorem mv_up {d d1 y : Nat} {as : List Value} {S : mv_S} {r : Option Value} {S1 : mv_S} (h : mv_Runs d y as S r S1) (hd : Nat.ble d d1 = true) : mv_Runs d1 y as S r S1 := mv_Runs_mono d d1 (Nat.le_of_ble_eq_true hd) y as S r S1 h
/-- numbers -/
theorem i32_lt {a b : Int32} : a < b ↔ a.toInt < b.toInt := Int32.lt_iff_toInt_lt
theorem i32_le {a b : Int32} : a ≤ b ↔ a.toInt ≤ b.toInt := Int32.le_iff_toInt_le
theorem i32_eq {a b : Int32} : a = b ↔ a.toInt = b.toInt := Int32.toInt_inj.symm
theorem i32_0 : (0 : Int32).toInt = 0 := rfl
theorem i32_1 : (1 : Int32).toInt = 1 := rfl
theorem i32_2 : (2 : Int32).toInt = 2 := rfl
theorem i32_3 : (3 : Int32).toInt = 3 := rfl
theorem i32_4 : (4 : Int32).toInt = 4 := rfl
theorem i32_5 : (5 : Int32).toInt = 5 := rfl
theorem i32_6 : (6 : Int32).toInt = 6 := rfl
theorem i32_7 : (7 : Int32).toInt = 7 := rfl
theorem i32_8 : (8 : Int32).toInt = 8 := rfl
theorem i32_10 : (10 : Int32).toInt = 10 := rfl
theorem i32_12 : (12 : Int32).toInt = 12 := rfl
theorem i32_23 : (23 : Int32).toInt = 23 := rfl
theorem i32_24 : (24 : Int32).toInt = 24 := rfl
theorem i32_30 : (30 : Int32).toInt = 30 := rfl
theorem i32_31 : (31 : Int32).toInt = 31 := rfl
theorem i32_32 : (32 : Int32).toInt = 32 := rfl
theorem i32_39 : (39 : Int32).toInt = 39 := rfl
theorem i32_40 : (40 : Int32).toInt = 40 := rfl
theorem i32_41 : (41 : Int32).toInt = 41 := rfl
theorem i32_46 : (46 : Int32).toInt = 46 := rfl
theorem i32_47 : (47 : Int32).toInt = 47 := rfl
theorem i32_48 : (48 : Int32).toInt = 48 := rfl
theorem i32_96 : (96 : Int32).toInt = 96 := rfl
theorem i32_99 : (99 : Int32).toInt = 99 := rfl
theorem i32_100 : (100 : Int32).toInt = 100 := rfl
theorem i32_255 : (255 : Int32).toInt = 255 := rfl
theorem i32_999 : (999 : Int32).toInt = 999 := rfl
theorem i32_2024 : (2024 : Int32).toInt = 2024 := rfl
theorem i32_32767 : (32767 : Int32).toInt = 32767 := rfl
theorem i32_1000000 : (1000000 : Int32).toInt = 1000000 := rfl
theorem i32_m1 : (-1 : Int32).toInt = -1 := rfl
theorem i32_m2 : (-2 : Int32).toInt = -2 := rfl
theorem i32_m3 : (-3 : Int32).toInt = -3 := rfl
section
variable {P : List (Nat × mv_I)} {rt : Option FieldType} {Rn : Nat → List Value → mv_S → Option Value → mv_S → Prop} {nM sM : Nat} {r0 : Option Value} {S0 : mv_S} {V : Nat → mv_L → List Value → mv_S → Prop}
theorem mv_getJ (C : mv_Clo P rt Rn nM sM r0 S0 V) {pc nx a b n q : Nat} {v : Value} {ls : mv_L} {st : List Value} {z : mv_Z} {fs : List (Option Nat)} {x : Int32} (h : mv_at P pc = some (.getfield n, nx, a, b, v)) (hk : mv_lay[q]? = some (.inr (a, fs))) (hf : fs[b]? = some none) (hv : z.1 q b = x) (kk : V nx ls (.int x :: st) (mv_E z)) : V pc ls (.ref q :: st) (mv_E z) := by
  subst hv; exact mv_getI C h hk hf kk
theorem mv_aldJ (C : mv_Clo P rt Rn nM sM r0 S0 V) {pc nx a b q len j : Nat} {v : Value} {ls : mv_L} {st : List Value} {z : mv_Z} {x y : Int32} (h : mv_at P pc = some (.iaload, nx, a, b, v)) (hk : mv_lay[q]? = some (.inl (0, len))) (hx : x = nI j) (hj : j < len) (hv : z.1 q j = y) (kk : V nx ls (.int y :: st) (mv_E z)) : V pc ls (.int x :: .ref q :: st) (mv_E z) := by
  subst hv; exact mv_ald C h hk hx hj kk
theorem mv_zldJ (C : mv_Clo P rt Rn nM sM r0 S0 V) {pc nx a b q len j : Nat} {v : Value} {ls : mv_L} {st : List Value} {z : mv_Z} {x y : Int32} (h : mv_at P pc = some (.baload, nx, a, b, v)) (hk : mv_lay[q]? = some (.inl (1, len))) (hx : x = nI j) (hj : j < len) (hv : z.1 q j = y) (kk : V nx ls (.int y :: st) (mv_E z)) : V pc ls (.int x :: .ref q :: st) (mv_E z) := by
  subst hv; exact mv_zld C h hk hx hj kk
theorem mv_lldJ (C : mv_Clo P rt Rn nM sM r0 S0 V) {pc nx a b q len j : Nat} {v : Value} {ls : mv_L} {st : List Value} {z : mv_Z} {x : Int32} {y : Int64} (h : mv_at P pc = some (.laload, nx, a, b, v)) (hk : mv_lay[q]? = some (.inl (2, len))) (hx : x = nI j) (hj : j < len) (hv : z.2 q j = y) (kk : V nx ls (.long y :: st) (mv_E z)) : V pc ls (.int x :: .ref q :: st) (mv_E z) := by
  subst hv; exact mv_lld C h hk hx hj kk
/-- another word for what stands on the stack, and for the state -/
theorem mv_top {pc : Nat} {ls : mv_L} {st : List Value} {S : mv_S} {x y : Int32} (h : x = y) (kk : V pc ls (.int y :: st) S) : V pc ls (.int x :: st) S := by rw [h]; exact kk
theorem mv_topL {pc : Nat} {ls : mv_L} {st : List Value} {S : mv_S} {x y : Int64} (h : x = y) (kk : V pc ls (.long y :: st) S) : V pc ls (.long x :: st) S := by rw [h]; exact kk
theorem mv_nd {pc : Nat} {ls : mv_L} {st : List Value} {S : mv_S} {x y w : Int32} (h : x = y) (kk : V pc ls (.int w :: .int y :: st) S) : V pc ls (.int w :: .int x :: st) S := by rw [h]; exact kk
theorem mv_sto {pc : Nat} {ls : mv_L} {st : List Value} {z z1 : mv_Z} (h : z = z1) (kk : V pc ls st (mv_E z1)) : V pc ls st (mv_E z) := by rw [h]; exact kk
end
theorem b01 {c : Prop} [Decidable c] : (if c then (1 : Int32) else 0) = 0 ↔ ¬ c := by by_cases h : c <;> simp [h]
theorem b10 {c : Prop} [Decidable c] : ¬ (if c then (1 : Int32) else 0) = 0 ↔ c := by by_cases h : c <;> simp [h]
theorem nI_nn {x : Int32} (h : 0 ≤ x) : x = nI x.toNatClampNeg := by
  obtain ⟨j, hj, rfl⟩ := nI_of (x := x) (by intro q; rw [i32_lt] at q; rw [i32_le] at h; omega)
  rw [nI_clamp hj]
/-- an int that is no less than 0 and less than n -/
theorem nI_rng {x : Int32} {n : Nat} (h : 0 ≤ x) (h1 : x < nI n) (hn : n < 2 ^ 31) : ∃ j, j < n ∧ x = nI j := by
  obtain ⟨j, hj, rfl⟩ := nI_of (x := x) (by intro q; rw [i32_lt] at q; rw [i32_le] at h; omega)
  exact ⟨j, (nI_ltI hj hn).mp h1, rfl⟩
theorem nI_rngc {x : Int32} {n : Nat} (h : 0 ≤ x) (h1 : x < nI n) (hn : n < 2 ^ 31) : x.toNatClampNeg < n ∧ x = nI x.toNatClampNeg := by
  obtain ⟨j, hj, rfl⟩ := nI_rng h h1 hn
  rw [nI_clamp (by omega)]; exact ⟨hj, rfl⟩
theorem nlit (n : Nat) : (OfNat.ofNat n : Int32) = nI n := rfl
theorem lit_0 : (0 : Int32) = nI 0 := rfl
theorem unl_0 : nI 0 = (0 : Int32) := rfl
theorem lit_1 : (1 : Int32) = nI 1 := rfl
theorem unl_1 : nI 1 = (1 : Int32) := rfl
theorem lit_2 : (2 : Int32) = nI 2 := rfl
theorem unl_2 : nI 2 = (2 : Int32) := rfl
theorem lit_3 : (3 : Int32) = nI 3 := rfl
theorem unl_3 : nI 3 = (3 : Int32) := rfl
theorem lit_4 : (4 : Int32) = nI 4 := rfl
theorem unl_4 : nI 4 = (4 : Int32) := rfl
theorem lit_5 : (5 : Int32) = nI 5 := rfl
theorem unl_5 : nI 5 = (5 : Int32) := rfl
theorem lit_6 : (6 : Int32) = nI 6 := rfl
theorem unl_6 : nI 6 = (6 : Int32) := rfl
theorem lit_7 : (7 : Int32) = nI 7 := rfl
theorem unl_7 : nI 7 = (7 : Int32) := rfl
theorem lit_8 : (8 : Int32) = nI 8 := rfl
theorem unl_8 : nI 8 = (8 : Int32) := rfl
theorem lit_9 : (9 : Int32) = nI 9 := rfl
theorem unl_9 : nI 9 = (9 : Int32) := rfl
theorem lit_10 : (10 : Int32) = nI 10 := rfl
theorem unl_10 : nI 10 = (10 : Int32) := rfl
theorem lit_11 : (11 : Int32) = nI 11 := rfl
theorem unl_11 : nI 11 = (11 : Int32) := rfl
theorem lit_12 : (12 : Int32) = nI 12 := rfl
theorem unl_12 : nI 12 = (12 : Int32) := rfl
theorem lit_23 : (23 : Int32) = nI 23 := rfl
theorem unl_23 : nI 23 = (23 : Int32) := rfl
theorem lit_24 : (24 : Int32) = nI 24 := rfl
theorem unl_24 : nI 24 = (24 : Int32) := rfl
theorem lit_30 : (30 : Int32) = nI 30 := rfl
theorem unl_30 : nI 30 = (30 : Int32) := rfl
theorem lit_31 : (31 : Int32) = nI 31 := rfl
theorem unl_31 : nI 31 = (31 : Int32) := rfl
theorem lit_32 : (32 : Int32) = nI 32 := rfl
theorem unl_32 : nI 32 = (32 : Int32) := rfl
theorem lit_39 : (39 : Int32) = nI 39 := rfl
theorem unl_39 : nI 39 = (39 : Int32) := rfl
theorem lit_40 : (40 : Int32) = nI 40 := rfl
theorem unl_40 : nI 40 = (40 : Int32) := rfl
theorem lit_41 : (41 : Int32) = nI 41 := rfl
theorem unl_41 : nI 41 = (41 : Int32) := rfl
theorem lit_46 : (46 : Int32) = nI 46 := rfl
theorem unl_46 : nI 46 = (46 : Int32) := rfl
theorem lit_47 : (47 : Int32) = nI 47 := rfl
theorem unl_47 : nI 47 = (47 : Int32) := rfl
theorem lit_48 : (48 : Int32) = nI 48 := rfl
theorem unl_48 : nI 48 = (48 : Int32) := rfl
theorem lit_96 : (96 : Int32) = nI 96 := rfl
theorem unl_96 : nI 96 = (96 : Int32) := rfl
theorem lit_99 : (99 : Int32) = nI 99 := rfl
theorem unl_99 : nI 99 = (99 : Int32) := rfl
theorem lit_100 : (100 : Int32) = nI 100 := rfl
theorem unl_100 : nI 100 = (100 : Int32) := rfl
theorem lit_255 : (255 : Int32) = nI 255 := rfl
theorem unl_255 : nI 255 = (255 : Int32) := rfl
theorem lit_999 : (999 : Int32) = nI 999 := rfl
theorem unl_999 : nI 999 = (999 : Int32) := rfl
theorem lit_1000 : (1000 : Int32) = nI 1000 := rfl
theorem unl_1000 : nI 1000 = (1000 : Int32) := rfl
theorem lit_2024 : (2024 : Int32) = nI 2024 := rfl
theorem unl_2024 : nI 2024 = (2024 : Int32) := rfl
theorem lit_32767 : (32767 : Int32) = nI 32767 := rfl
theorem unl_32767 : nI 32767 = (32767 : Int32) := rfl
theorem lit_1000000 : (1000000 : Int32) = nI 1000000 := rfl
theorem unl_1000000 : nI 1000000 = (1000000 : Int32) := rfl
theorem nI_nm1 {n : Nat} (hn : n < 2 ^ 31) : ¬ nI n = -1 := by rw [i32_eq, nI_toInt hn, i32_m1]; omega

theorem mv_le_rf (l : mv_L) : mv_le l l := ⟨rfl, fun _ _ h => h⟩
theorem mv_le_c {a : Option Value} {l1 l : mv_L} (h : mv_le l1 l) : mv_le (a :: l1) (a :: l) := ⟨by simp [h.1], fun i v hi => by
  cases i with
  | zero => simpa using hi
  | succ j => simpa using h.2 j v (by simpa using hi)⟩
theorem mv_le_n {a : Option Value} {l1 l : mv_L} (h : mv_le l1 l) : mv_le (none :: l1) (a :: l) := ⟨by simp [h.1], fun i v hi => by
  cases i with
  | zero => simp at hi
  | succ j => simpa using h.2 j v (by simpa using hi)⟩
theorem mv_le3 (a b c d : Option Value) : mv_le [a, b, c, none] [a, b, c, d] := mv_le_c (mv_le_c (mv_le_c (mv_le_n (mv_le_rf _))))

