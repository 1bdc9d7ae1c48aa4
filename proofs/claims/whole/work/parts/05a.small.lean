/-! ===== small conditions of the class, ORDER, SHEETS, STEPS ===== -/
/-- x is one of 0 .. n - 1 -/
def isN (x : Int32) (n : Nat) : Prop := ∃ k : Nat, k < n ∧ x = nI k
theorem isN_iff {x : Int32} {n : Nat} (hn : n < 2 ^ 31) : isN x n ↔ 0 ≤ x.toInt ∧ x.toInt < n := by
  constructor
  · rintro ⟨k, hk, rfl⟩
    rw [nI_toInt (by omega)]; omega
  · rintro ⟨h1, h2⟩
    refine ⟨x.toInt.toNat, by omega, ?_⟩
    apply Int32.toInt_inj.mp
    rw [nI_toInt (by omega)]; omega
/-- x is one of lo .. hi -/
def isB (x : Int32) (lo hi : Int) : Prop := lo ≤ x.toInt ∧ x.toInt ≤ hi
theorem ltm (x : Int32) (c : Int32) : x < c ↔ x.toInt < c.toInt := Int32.lt_iff_toInt_lt
theorem lem (x : Int32) (c : Int32) : x ≤ c ↔ x.toInt ≤ c.toInt := Int32.le_iff_toInt_le
theorem s_isSlot {V : GV} {d : Nat} {x : Int32} {X : XT} {FI AI : FT} {AL : LT} : G V m_Alg_isSlot d 0 [some (.int x)] [] X FI AI AL (P01 (isN x 6) X FI AI AL) := by
  rw [show isN x 6 = (0 ≤ x.toInt ∧ x.toInt < (6 : Nat)) from propext (isN_iff (by omega))]
  refine G_iload0 1 d_Alg_isSlot_0 rfl ?_
  first | refine G_ifltD 14 4 d_Alg_isSlot_1 rfl rfl (by omega) (fun h1 => ?_) (fun j h1 => ?_) | refine G_iflt 14 4 d_Alg_isSlot_1 rfl rfl (fun h1 => ?_) (fun h1 => ?_)
  · rw [lt0_iff] at h1
    refine G_iconstN 0 15 d_Alg_isSlot_14 rfl rfl ?_
    refine G_zret d_Alg_isSlot_15 rfl ?_ ?_
    · exact Or.inl rfl
    · exact P01.f (by omega)
  · rw [nlt0_iff] at h1
    refine G_iload0 5 d_Alg_isSlot_4 rfl ?_
    refine G_bipushN 6 7 d_Alg_isSlot_5 rfl rfl ?_
    first | refine G_icgeN 14 10 d_Alg_isSlot_7 rfl rfl (by omega) (by omega) (fun h7 => ?_) (fun h7 => ?_) | refine G_icge 14 10 d_Alg_isSlot_7 rfl rfl (fun h7 => ?_) (fun h7 => ?_)
    · rw [lec (by omega)] at h7
      refine G_iconstN 0 15 d_Alg_isSlot_14 rfl rfl ?_
      refine G_zret d_Alg_isSlot_15 rfl ?_ ?_
      · exact Or.inl rfl
      · exact P01.f (by omega)
    · rw [lec (by omega)] at h7
      refine G_iconstN 1 11 d_Alg_isSlot_10 rfl rfl ?_
      refine G_goto 15 d_Alg_isSlot_11 rfl ?_
      refine G_zret d_Alg_isSlot_15 rfl ?_ ?_
      · exact Or.inr rfl
      · exact P01.t (by omega)
theorem s_isSheet {V : GV} {d : Nat} {x : Int32} {X : XT} {FI AI : FT} {AL : LT} : G V m_Alg_isSheet d 0 [some (.int x)] [] X FI AI AL (P01 (isN x 4) X FI AI AL) := by
  rw [show isN x 4 = (0 ≤ x.toInt ∧ x.toInt < (4 : Nat)) from propext (isN_iff (by omega))]
  refine G_iload0 1 d_Alg_isSheet_0 rfl ?_
  first | refine G_ifltD 13 4 d_Alg_isSheet_1 rfl rfl (by omega) (fun h1 => ?_) (fun j h1 => ?_) | refine G_iflt 13 4 d_Alg_isSheet_1 rfl rfl (fun h1 => ?_) (fun h1 => ?_)
  · rw [lt0_iff] at h1
    refine G_iconstN 0 14 d_Alg_isSheet_13 rfl rfl ?_
    refine G_zret d_Alg_isSheet_14 rfl ?_ ?_
    · exact Or.inl rfl
    · exact P01.f (by omega)
  · rw [nlt0_iff] at h1
    refine G_iload0 5 d_Alg_isSheet_4 rfl ?_
    refine G_iconstN 4 6 d_Alg_isSheet_5 rfl rfl ?_
    first | refine G_icgeN 13 9 d_Alg_isSheet_6 rfl rfl (by omega) (by omega) (fun h6 => ?_) (fun h6 => ?_) | refine G_icge 13 9 d_Alg_isSheet_6 rfl rfl (fun h6 => ?_) (fun h6 => ?_)
    · rw [lec (by omega)] at h6
      refine G_iconstN 0 14 d_Alg_isSheet_13 rfl rfl ?_
      refine G_zret d_Alg_isSheet_14 rfl ?_ ?_
      · exact Or.inl rfl
      · exact P01.f (by omega)
    · rw [lec (by omega)] at h6
      refine G_iconstN 1 10 d_Alg_isSheet_9 rfl rfl ?_
      refine G_goto 14 d_Alg_isSheet_10 rfl ?_
      refine G_zret d_Alg_isSheet_14 rfl ?_ ?_
      · exact Or.inr rfl
      · exact P01.t (by omega)
theorem s_isTurn {V : GV} {d : Nat} {x : Int32} {X : XT} {FI AI : FT} {AL : LT} : G V m_Alg_isTurn d 0 [some (.int x)] [] X FI AI AL (P01 (isN x 6) X FI AI AL) := by
  rw [show isN x 6 = (0 ≤ x.toInt ∧ x.toInt < (6 : Nat)) from propext (isN_iff (by omega))]
  refine G_iload0 1 d_Alg_isTurn_0 rfl ?_
  first | refine G_ifltD 14 4 d_Alg_isTurn_1 rfl rfl (by omega) (fun h1 => ?_) (fun j h1 => ?_) | refine G_iflt 14 4 d_Alg_isTurn_1 rfl rfl (fun h1 => ?_) (fun h1 => ?_)
  · rw [lt0_iff] at h1
    refine G_iconstN 0 15 d_Alg_isTurn_14 rfl rfl ?_
    refine G_zret d_Alg_isTurn_15 rfl ?_ ?_
    · exact Or.inl rfl
    · exact P01.f (by omega)
  · rw [nlt0_iff] at h1
    refine G_iload0 5 d_Alg_isTurn_4 rfl ?_
    refine G_bipushN 6 7 d_Alg_isTurn_5 rfl rfl ?_
    first | refine G_icgeN 14 10 d_Alg_isTurn_7 rfl rfl (by omega) (by omega) (fun h7 => ?_) (fun h7 => ?_) | refine G_icge 14 10 d_Alg_isTurn_7 rfl rfl (fun h7 => ?_) (fun h7 => ?_)
    · rw [lec (by omega)] at h7
      refine G_iconstN 0 15 d_Alg_isTurn_14 rfl rfl ?_
      refine G_zret d_Alg_isTurn_15 rfl ?_ ?_
      · exact Or.inl rfl
      · exact P01.f (by omega)
    · rw [lec (by omega)] at h7
      refine G_iconstN 1 11 d_Alg_isTurn_10 rfl rfl ?_
      refine G_goto 15 d_Alg_isTurn_11 rfl ?_
      refine G_zret d_Alg_isTurn_15 rfl ?_ ?_
      · exact Or.inr rfl
      · exact P01.t (by omega)
theorem s_isFactor {V : GV} {d : Nat} {x : Int32} {X : XT} {FI AI : FT} {AL : LT} : G V m_Alg_isFactor d 0 [some (.int x)] [] X FI AI AL (P01 (isB x (-999) 999) X FI AI AL) := by
  refine G_iload0 1 d_Alg_isFactor_0 rfl ?_
  refine G_sipush (-999) 4 d_Alg_isFactor_1 rfl rfl ?_
  first | refine G_icltN 18 7 d_Alg_isFactor_4 rfl rfl (by omega) (by omega) (fun h4 => ?_) (fun h4 => ?_) | refine G_iclt 18 7 d_Alg_isFactor_4 rfl rfl (fun h4 => ?_) (fun h4 => ?_)
  · rw [ltm, show (-999 : Int32).toInt = -999 from rfl] at h4
    refine G_iconstN 0 19 d_Alg_isFactor_18 rfl rfl ?_
    refine G_zret d_Alg_isFactor_19 rfl ?_ ?_
    · exact Or.inl rfl
    · exact P01.f (fun h => by have := h.1; omega)
  · rw [ltm, show (-999 : Int32).toInt = -999 from rfl] at h4
    refine G_iload0 8 d_Alg_isFactor_7 rfl ?_
    refine G_sipushN 999 11 d_Alg_isFactor_8 rfl rfl ?_
    first | refine G_icgtN 18 14 d_Alg_isFactor_11 rfl rfl (by omega) (by omega) (fun h11 => ?_) (fun h11 => ?_) | refine G_icgt 18 14 d_Alg_isFactor_11 rfl rfl (fun h11 => ?_) (fun h11 => ?_)
    · rw [ltc (by omega)] at h11
      refine G_iconstN 0 19 d_Alg_isFactor_18 rfl rfl ?_
      refine G_zret d_Alg_isFactor_19 rfl ?_ ?_
      · exact Or.inl rfl
      · exact P01.f (fun h => by have := h.2; omega)
    · rw [ltc (by omega)] at h11
      refine G_iconstN 1 15 d_Alg_isFactor_14 rfl rfl ?_
      refine G_goto 19 d_Alg_isFactor_15 rfl ?_
      refine G_zret d_Alg_isFactor_19 rfl ?_ ?_
      · exact Or.inr rfl
      · exact P01.t ⟨by omega, by omega⟩
theorem s_isModulus {V : GV} {d : Nat} {x : Int32} {X : XT} {FI AI : FT} {AL : LT} : G V m_Alg_isModulus d 0 [some (.int x)] [] X FI AI AL (P01 (isB x 2 1000000) X FI AI AL) := by
  refine G_iload0 1 d_Alg_isModulus_0 rfl ?_
  refine G_iconstN 2 2 d_Alg_isModulus_1 rfl rfl ?_
  first | refine G_icltN 16 5 d_Alg_isModulus_2 rfl rfl (by omega) (by omega) (fun h2 => ?_) (fun h2 => ?_) | refine G_iclt 16 5 d_Alg_isModulus_2 rfl rfl (fun h2 => ?_) (fun h2 => ?_)
  · rw [ltc' (by omega)] at h2
    refine G_iconstN 0 17 d_Alg_isModulus_16 rfl rfl ?_
    refine G_zret d_Alg_isModulus_17 rfl ?_ ?_
    · exact Or.inl rfl
    · exact P01.f (fun h => by have := h.1; omega)
  · rw [ltc' (by omega)] at h2
    refine G_iload0 6 d_Alg_isModulus_5 rfl ?_
    refine G_ldcw 9 d_Alg_isModulus_6 rfl k_Alg_432 ?_
    first | refine G_icgtN 16 12 d_Alg_isModulus_9 rfl rfl (by omega) (by omega) (fun h9 => ?_) (fun h9 => ?_) | refine G_icgt 16 12 d_Alg_isModulus_9 rfl rfl (fun h9 => ?_) (fun h9 => ?_)
    · rw [ltm, show (1000000 : Int32).toInt = 1000000 from rfl] at h9
      refine G_iconstN 0 17 d_Alg_isModulus_16 rfl rfl ?_
      refine G_zret d_Alg_isModulus_17 rfl ?_ ?_
      · exact Or.inl rfl
      · exact P01.f (fun h => by have := h.2; omega)
    · rw [ltm, show (1000000 : Int32).toInt = 1000000 from rfl] at h9
      refine G_iconstN 1 13 d_Alg_isModulus_12 rfl rfl ?_
      refine G_goto 17 d_Alg_isModulus_13 rfl ?_
      refine G_zret d_Alg_isModulus_17 rfl ?_ ?_
      · exact Or.inr rfl
      · exact P01.t ⟨by omega, by omega⟩
theorem s_isBound {V : GV} {d : Nat} {x : Int32} {X : XT} {FI AI : FT} {AL : LT} : G V m_Alg_isBound d 0 [some (.int x)] [] X FI AI AL (P01 (isB x 1 6) X FI AI AL) := by
  refine G_iload0 1 d_Alg_isBound_0 rfl ?_
  refine G_iconstN 1 2 d_Alg_isBound_1 rfl rfl ?_
  first | refine G_icltN 15 5 d_Alg_isBound_2 rfl rfl (by omega) (by omega) (fun h2 => ?_) (fun h2 => ?_) | refine G_iclt 15 5 d_Alg_isBound_2 rfl rfl (fun h2 => ?_) (fun h2 => ?_)
  · rw [ltc' (by omega)] at h2
    refine G_iconstN 0 16 d_Alg_isBound_15 rfl rfl ?_
    refine G_zret d_Alg_isBound_16 rfl ?_ ?_
    · exact Or.inl rfl
    · exact P01.f (fun h => by have := h.1; omega)
  · rw [ltc' (by omega)] at h2
    refine G_iload0 6 d_Alg_isBound_5 rfl ?_
    refine G_bipushN 6 8 d_Alg_isBound_6 rfl rfl ?_
    first | refine G_icgtN 15 11 d_Alg_isBound_8 rfl rfl (by omega) (by omega) (fun h8 => ?_) (fun h8 => ?_) | refine G_icgt 15 11 d_Alg_isBound_8 rfl rfl (fun h8 => ?_) (fun h8 => ?_)
    · rw [ltc (by omega)] at h8
      refine G_iconstN 0 16 d_Alg_isBound_15 rfl rfl ?_
      refine G_zret d_Alg_isBound_16 rfl ?_ ?_
      · exact Or.inl rfl
      · exact P01.f (fun h => by have := h.2; omega)
    · rw [ltc (by omega)] at h8
      refine G_iconstN 1 12 d_Alg_isBound_11 rfl rfl ?_
      refine G_goto 16 d_Alg_isBound_12 rfl ?_
      refine G_zret d_Alg_isBound_16 rfl ?_ ?_
      · exact Or.inr rfl
      · exact P01.t ⟨by omega, by omega⟩
theorem s_isStepPart {V : GV} {d : Nat} {x : Int32} {X : XT} {FI AI : FT} {AL : LT} : G V m_Alg_isStepPart d 0 [some (.int x)] [] X FI AI AL (P01 (isB x (-1) 6) X FI AI AL) := by
  refine G_iload0 1 d_Alg_isStepPart_0 rfl ?_
  refine G_iconst (-1) 2 d_Alg_isStepPart_1 rfl rfl ?_
  first | refine G_icltN 15 5 d_Alg_isStepPart_2 rfl rfl (by omega) (by omega) (fun h2 => ?_) (fun h2 => ?_) | refine G_iclt 15 5 d_Alg_isStepPart_2 rfl rfl (fun h2 => ?_) (fun h2 => ?_)
  · rw [ltm, show (-1 : Int32).toInt = -1 from rfl] at h2
    refine G_iconstN 0 16 d_Alg_isStepPart_15 rfl rfl ?_
    refine G_zret d_Alg_isStepPart_16 rfl ?_ ?_
    · exact Or.inl rfl
    · exact P01.f (fun h => by have := h.1; omega)
  · rw [ltm, show (-1 : Int32).toInt = -1 from rfl] at h2
    refine G_iload0 6 d_Alg_isStepPart_5 rfl ?_
    refine G_bipushN 7 8 d_Alg_isStepPart_6 rfl rfl ?_
    first | refine G_icgeN 15 11 d_Alg_isStepPart_8 rfl rfl (by omega) (by omega) (fun h8 => ?_) (fun h8 => ?_) | refine G_icge 15 11 d_Alg_isStepPart_8 rfl rfl (fun h8 => ?_) (fun h8 => ?_)
    · rw [lec (by omega)] at h8
      refine G_iconstN 0 16 d_Alg_isStepPart_15 rfl rfl ?_
      refine G_zret d_Alg_isStepPart_16 rfl ?_ ?_
      · exact Or.inl rfl
      · exact P01.f (fun h => by have := h.2; omega)
    · rw [lec (by omega)] at h8
      refine G_iconstN 1 12 d_Alg_isStepPart_11 rfl rfl ?_
      refine G_goto 16 d_Alg_isStepPart_12 rfl ?_
      refine G_zret d_Alg_isStepPart_16 rfl ?_ ?_
      · exact Or.inr rfl
      · exact P01.t ⟨by omega, by omega⟩
/-- numbers of 0 or more, or -1 for all above -/
def sumA (a b : Int64) : Int64 := if a < 0 ∨ b < 0 ∨ 9223372036854775807 - b < a then -1 else a + b
def prodA (a b : Int64) : Int64 := if a = 0 ∨ b = 0 then 0 else if a < 0 ∨ b < 0 ∨ 9223372036854775807 / b < a then -1 else a * b
theorem s_sumA {V : GV} {d : Nat} {x y : Int64} {X : XT} {FI AI : FT} {AL : LT} : G V m_Alg_sumOrAbove d 0 [some (.long x), none, some (.long y), none] [] X FI AI AL (Pd (some (.long (sumA x y))) X FI AI AL) := by
  refine G_lload0 1 d_Alg_sumOrAbove_0 rfl ?_
  refine G_lconst 0 2 d_Alg_sumOrAbove_1 rfl rfl ?_
  refine G_lclt 22 6 d_Alg_sumOrAbove_2 d_Alg_sumOrAbove_3 rfl rfl (fun h2 => ?_) (fun h2 => ?_)
  · refine G_ldc2 25 d_Alg_sumOrAbove_22 rfl k_Alg_146 ?_
    refine G_lret d_Alg_sumOrAbove_25 rfl ?_
    exact ⟨by simp only [sumA, h2, true_or, if_true], rfl, rfl, rfl, rfl⟩
  · refine G_lload2 7 d_Alg_sumOrAbove_6 rfl ?_
    refine G_lconst 0 8 d_Alg_sumOrAbove_7 rfl rfl ?_
    refine G_lclt 22 12 d_Alg_sumOrAbove_8 d_Alg_sumOrAbove_9 rfl rfl (fun h8 => ?_) (fun h8 => ?_)
    · refine G_ldc2 25 d_Alg_sumOrAbove_22 rfl k_Alg_146 ?_
      refine G_lret d_Alg_sumOrAbove_25 rfl ?_
      exact ⟨by simp only [sumA, h8, true_or, or_true, if_true], rfl, rfl, rfl, rfl⟩
    · refine G_lload0 13 d_Alg_sumOrAbove_12 rfl ?_
      refine G_ldc2 16 d_Alg_sumOrAbove_13 rfl k_Alg_433 ?_
      refine G_lload2 17 d_Alg_sumOrAbove_16 rfl ?_
      refine G_lsub 18 d_Alg_sumOrAbove_17 rfl ?_
      refine G_lcle 26 22 d_Alg_sumOrAbove_18 d_Alg_sumOrAbove_19 rfl rfl (fun h18 => ?_) (fun h18 => ?_)
      · refine G_lload0 27 d_Alg_sumOrAbove_26 rfl ?_
        refine G_lload2 28 d_Alg_sumOrAbove_27 rfl ?_
        refine G_ladd 29 d_Alg_sumOrAbove_28 rfl ?_
        refine G_lret d_Alg_sumOrAbove_29 rfl ?_
        exact ⟨by simp only [sumA, h2, h8, h18, or_self, if_false], rfl, rfl, rfl, rfl⟩
      · refine G_ldc2 25 d_Alg_sumOrAbove_22 rfl k_Alg_146 ?_
        refine G_lret d_Alg_sumOrAbove_25 rfl ?_
        exact ⟨by simp only [sumA, h18, or_true, if_true], rfl, rfl, rfl, rfl⟩
theorem s_prodA {V : GV} {d : Nat} {x y : Int64} {X : XT} {FI AI : FT} {AL : LT} : G V m_Alg_productOrAbove d 0 [some (.long x), none, some (.long y), none] [] X FI AI AL (Pd (some (.long (prodA x y))) X FI AI AL) := by
  refine G_lload0 1 d_Alg_productOrAbove_0 rfl ?_
  refine G_lconst 0 2 d_Alg_productOrAbove_1 rfl rfl ?_
  refine G_lceq 12 6 d_Alg_productOrAbove_2 d_Alg_productOrAbove_3 rfl rfl (fun h2 => ?_) (fun h2 => ?_)
  · refine G_lconst 0 13 d_Alg_productOrAbove_12 rfl rfl ?_
    refine G_lret d_Alg_productOrAbove_13 rfl ?_
    exact ⟨by simp only [prodA, h2, true_or, if_true], rfl, rfl, rfl, rfl⟩
  · refine G_lload2 7 d_Alg_productOrAbove_6 rfl ?_
    refine G_lconst 0 8 d_Alg_productOrAbove_7 rfl rfl ?_
    refine G_lcne 14 12 d_Alg_productOrAbove_8 d_Alg_productOrAbove_9 rfl rfl (fun h8 => ?_) (fun h8 => ?_)
    · refine G_lload0 15 d_Alg_productOrAbove_14 rfl ?_
      refine G_lconst 0 16 d_Alg_productOrAbove_15 rfl rfl ?_
      refine G_lclt 36 20 d_Alg_productOrAbove_16 d_Alg_productOrAbove_17 rfl rfl (fun h16 => ?_) (fun h16 => ?_)
      · refine G_ldc2 39 d_Alg_productOrAbove_36 rfl k_Alg_146 ?_
        refine G_lret d_Alg_productOrAbove_39 rfl ?_
        exact ⟨by simp only [prodA, h2, h8, h16, or_self, true_or, if_true, if_false], rfl, rfl, rfl, rfl⟩
      · refine G_lload2 21 d_Alg_productOrAbove_20 rfl ?_
        refine G_lconst 0 22 d_Alg_productOrAbove_21 rfl rfl ?_
        refine G_lclt 36 26 d_Alg_productOrAbove_22 d_Alg_productOrAbove_23 rfl rfl (fun h22 => ?_) (fun h22 => ?_)
        · refine G_ldc2 39 d_Alg_productOrAbove_36 rfl k_Alg_146 ?_
          refine G_lret d_Alg_productOrAbove_39 rfl ?_
          exact ⟨by simp only [prodA, h2, h8, h22, or_self, true_or, or_true, if_true, if_false], rfl, rfl, rfl, rfl⟩
        · refine G_lload0 27 d_Alg_productOrAbove_26 rfl ?_
          refine G_ldc2 30 d_Alg_productOrAbove_27 rfl k_Alg_433 ?_
          refine G_lload2 31 d_Alg_productOrAbove_30 rfl ?_
          refine G_ldiv 32 d_Alg_productOrAbove_31 rfl h8 ?_
          refine G_lcle 40 36 d_Alg_productOrAbove_32 d_Alg_productOrAbove_33 rfl rfl (fun h32 => ?_) (fun h32 => ?_)
          · refine G_lload0 41 d_Alg_productOrAbove_40 rfl ?_
            refine G_lload2 42 d_Alg_productOrAbove_41 rfl ?_
            refine G_lmul 43 d_Alg_productOrAbove_42 rfl ?_
            refine G_lret d_Alg_productOrAbove_43 rfl ?_
            exact ⟨by simp only [prodA, h2, h8, h16, h22, h32, or_self, if_false], rfl, rfl, rfl, rfl⟩
          · refine G_ldc2 39 d_Alg_productOrAbove_36 rfl k_Alg_146 ?_
            refine G_lret d_Alg_productOrAbove_39 rfl ?_
            exact ⟨by simp only [prodA, h2, h8, h32, or_self, or_true, if_true, if_false], rfl, rfl, rfl, rfl⟩
    · refine G_lconst 0 13 d_Alg_productOrAbove_12 rfl rfl ?_
      refine G_lret d_Alg_productOrAbove_13 rfl ?_
      exact ⟨by simp only [prodA, h8, or_true, if_true], rfl, rfl, rfl, rfl⟩
/-! ORDER -/
def rkL : List (List Nat) := [[0, 3, 2, 1, 9, 8, 7, 6, 5, 4, 19, 18, 17, 16, 15, 14, 13, 12, 11, 10, 34, 33, 32, 31, 30, 29, 28, 27, 26, 25, 24, 23, 22, 21, 20, 55, 54, 53, 52, 51, 50, 49, 48, 47, 46, 45, 44, 43, 42, 41, 40, 39, 38, 37, 36, 35, 83, 82, 81, 80, 79, 78, 77, 76, 75, 74, 73, 72, 71, 70, 69, 68, 67, 66, 65, 64, 63, 62, 61, 60, 59, 58, 57, 56], [0, 3, 2, 1, 9, 8, 6, 7, 5, 4, 19, 18, 15, 17, 14, 12, 16, 13, 11, 10, 34, 33, 29, 32, 28, 25, 31, 27, 24, 22, 30, 26, 23, 21, 20, 55, 54, 49, 53, 48, 44, 52, 47, 43, 40, 51, 46, 42, 39, 37, 50, 45, 41, 38, 36, 35, 83, 82, 76, 81, 75, 70, 80, 74, 69, 65, 79, 73, 68, 64, 61, 78, 72, 67, 63, 60, 58, 77, 71, 66, 62, 59, 57, 56], [0, 1, 2, 3, 4, 5, 7, 6, 8, 9, 10, 11, 13, 16, 12, 14, 17, 15, 18, 19, 20, 21, 23, 26, 30, 22, 24, 27, 31, 25, 28, 32, 29, 33, 34, 35, 36, 38, 41, 45, 50, 37, 39, 42, 46, 51, 40, 43, 47, 52, 44, 48, 53, 49, 54, 55, 56, 57, 59, 62, 66, 71, 77, 58, 60, 63, 67, 72, 78, 61, 64, 68, 73, 79, 65, 69, 74, 80, 70, 75, 81, 76, 82, 83]]
/-- the TERM that stands at place k from the least up, by ORDER o; and where a TERM stands -/
def rk (o k : Nat) : Nat := (rkL.getD o []).getD k 0
def rnk (o t : Nat) : Nat := if o = 0 then eS (eD t + 1) - 1 - (eT (eY t + eZ t) + eZ t) else if o = 1 then eS (eD t) + (eT (eX t + eY t) + eX t) else eS (eD t + 1) - 1 - (eT (eX t + eY t) + eX t)
theorem rk_ok : ∀ o, o < 3 → ∀ t, t < 84 → rnk o t < 84 ∧ rk o (rnk o t) = t ∧ rk o t < 84 ∧ rnk o (rk o t) = t := by decide +kernel
theorem rk_b : ∀ t, t < 84 → 1 ≤ eS (eD t + 1) ∧ eT (eY t + eZ t) + eZ t ≤ eS (eD t + 1) - 1 ∧ eT (eX t + eY t) + eX t ≤ eS (eD t + 1) - 1 ∧ eS (eD t + 1) ≤ 84 := by decide +kernel
/-- the ORDER's object: its row of places -/
def RK (X : XT) (r fl : Nat) : Prop := x_sh X r = some (15, 2) ∧ x_FR X r 1 = some fl ∧ x_sh X fl = some (0, 84)
theorem s_rankBecome {V : GV} {d r fl o : Nat} {X : XT} {FI AI : FT} {AL : LT} (h : RK X r fl) (ho : o < 3) : G V m_Rank_become d 0 [some (.ref r), some (.int (nI o)), none, none, none, none, none, none] [] X FI AI AL (Pd none X (u2 FI r 0 (nI o)) (sr AI fl (fun k => nI (rk o k))) AL) := by
  obtain ⟨h1, h2, h3⟩ := h
  have L : ∀ t, t ≤ 84 → ∀ l3 l4 l5 l6 l7 : Option Value, G V m_Rank_become d 7 [some (.ref r), some (.int (nI o)), some (.int (nI t)), l3, l4, l5, l6, l7] [] X (u2 FI r 0 (nI o)) (sr AI fl (fun k => if rk o k < t then nI (rk o k) else AI fl k)) AL (Pd none X (u2 FI r 0 (nI o)) (sr AI fl (fun k => nI (rk o k))) AL) := by
    refine upto ?_ ?_
    · intro l3 l4 l5 l6 l7
      refine G_iload2 8 d_Rank_become_7 rfl ?_
      refine G_bipushN 84 10 d_Rank_become_8 rfl rfl ?_
      first | refine G_icgeN 125 13 d_Rank_become_10 rfl rfl (by omega) (by omega) (fun h10 => ?_) (fun h10 => ?_) | refine G_icge 125 13 d_Rank_become_10 rfl rfl (fun h10 => ?_) (fun h10 => ?_)
      · refine G.rowI (fun k => nI (rk o k)) h3 (fun j hj => by simp [(rk_ok o ho j hj).2.2.1]) ?_
        refine G_vret d_Rank_become_125 rfl ?_
        exact Pd.rf
      · omega
    · intro t ht ih l3 l4 l5 l6 l7
      have et := e_le ht
      obtain ⟨b1, b2, b3, b4⟩ := rk_b t ht
      obtain ⟨r1, r2, -, -⟩ := rk_ok o ho t ht
      have fin : ∀ l3 l4 l5 l6 l7 : Option Value, ncat l6 = true → G V m_Rank_become d 109 [some (.ref r), some (.int (nI o)), some (.int (nI t)), l3, l4, l5, l6, l7] [.int (nI (rnk o t))] X (u2 FI r 0 (nI o)) (sr AI fl (fun k => if rk o k < t then nI (rk o k) else AI fl k)) AL (Pd none X (u2 FI r 0 (nI o)) (sr AI fl (fun k => nI (rk o k))) AL) := by
        intro l3 l4 l5 l6 l7 hl6
        refine G_istore7 111 d_Rank_become_109 rfl (by decide) hl6 ?_
        refine G_aload0 112 d_Rank_become_111 rfl ?_
        refine G_getR 115 d_Rank_become_112 rfl f_Rank_15 rfl (by assumption) (by assumption) ?_
        refine G_iload7 117 d_Rank_become_115 rfl ?_
        refine G_iload2 118 d_Rank_become_117 rfl ?_
        refine G_iastore 119 d_Rank_become_118 rfl (by assumption) (ix_nI (by omega) (by omega)) ?_
        first | refine G_iincN2 122 d_Rank_become_119 rfl (by decide) rfl ?_ | refine G_iinc2 _ 122 d_Rank_become_119 rfl (by decide) rfl rfl ?_
        refine G_goto 7 d_Rank_become_122 rfl ?_
        rw [u2_sr]
        refine G.rowI _ h3 (fun j hj => ?_) (ih _ _ _ _ _)
        have hj2 := rk_ok o ho j hj
        by_cases e : j = rnk o t
        · subst e; simp [r2]
        · have e1 : ¬ rk o j = t := fun e1 => e (by rw [← e1]; exact hj2.2.2.2.symm)
          by_cases e2 : rk o j < t
          · simp [e, e2, Nat.lt_succ_of_lt e2]
          · simp [e, e2, show ¬ rk o j < t + 1 by omega]
      refine G_iload2 8 d_Rank_become_7 rfl ?_
      refine G_bipushN 84 10 d_Rank_become_8 rfl rfl ?_
      first | refine G_icgeN 125 13 d_Rank_become_10 rfl rfl (by omega) (by omega) (fun h10 => ?_) (fun h10 => ?_) | refine G_icge 125 13 d_Rank_become_10 rfl rfl (fun h10 => ?_) (fun h10 => ?_)
      · omega
      · refine G_gets 0 16 d_Rank_become_13 rfl rfl s_Rank_23 ?_
        refine G_iload2 17 d_Rank_become_16 rfl ?_
        refine G_st0 18 d_Rank_become_17 rfl (ix_nI (by omega) (by omega)) ?_
        refine G_istore3 19 d_Rank_become_18 rfl (by decide) rfl ?_
        refine G_gets 1 22 d_Rank_become_19 rfl rfl s_Rank_26 ?_
        refine G_iload3 23 d_Rank_become_22 rfl ?_
        refine G_iconstN 1 24 d_Rank_become_23 rfl rfl ?_
        first | refine G_iaddN 25 d_Rank_become_24 rfl ?_ | refine G_iadd 25 d_Rank_become_24 rfl ?_
        refine G_st1 26 d_Rank_become_25 rfl (ix_nI (by omega) (by omega)) ?_
        refine G_iconstN 1 27 d_Rank_become_26 rfl rfl ?_
        first | refine G_isubN 28 d_Rank_become_27 rfl (by omega) ?_ | refine G_isub 28 d_Rank_become_27 rfl ?_
        refine G_istore4 30 d_Rank_become_28 rfl (by decide) rfl ?_
        refine G_gets 2 33 d_Rank_become_30 rfl rfl s_Rank_29 ?_
        refine G_gets 3 36 d_Rank_become_33 rfl rfl s_Rank_32 ?_
        refine G_iload2 37 d_Rank_become_36 rfl ?_
        refine G_st3 38 d_Rank_become_37 rfl (ix_nI (by omega) (by omega)) ?_
        refine G_gets 4 41 d_Rank_become_38 rfl rfl s_Rank_35 ?_
        refine G_iload2 42 d_Rank_become_41 rfl ?_
        refine G_st4 43 d_Rank_become_42 rfl (ix_nI (by omega) (by omega)) ?_
        first | refine G_iaddN 44 d_Rank_become_43 rfl ?_ | refine G_iadd 44 d_Rank_become_43 rfl ?_
        refine G_st2 45 d_Rank_become_44 rfl (ix_nI (by omega) (by omega)) ?_
        refine G_gets 3 48 d_Rank_become_45 rfl rfl s_Rank_32 ?_
        refine G_iload2 49 d_Rank_become_48 rfl ?_
        refine G_st3 50 d_Rank_become_49 rfl (ix_nI (by omega) (by omega)) ?_
        first | refine G_iaddN 51 d_Rank_become_50 rfl ?_ | refine G_iadd 51 d_Rank_become_50 rfl ?_
        refine G_istore5 53 d_Rank_become_51 rfl (by decide) rfl ?_
        refine G_gets 2 56 d_Rank_become_53 rfl rfl s_Rank_29 ?_
        refine G_gets 4 59 d_Rank_become_56 rfl rfl s_Rank_35 ?_
        refine G_iload2 60 d_Rank_become_59 rfl ?_
        refine G_st4 61 d_Rank_become_60 rfl (ix_nI (by omega) (by omega)) ?_
        refine G_gets 5 64 d_Rank_become_61 rfl rfl s_Rank_38 ?_
        refine G_iload2 65 d_Rank_become_64 rfl ?_
        refine G_st5 66 d_Rank_become_65 rfl (ix_nI (by omega) (by omega)) ?_
        first | refine G_iaddN 67 d_Rank_become_66 rfl ?_ | refine G_iadd 67 d_Rank_become_66 rfl ?_
        refine G_st2 68 d_Rank_become_67 rfl (ix_nI (by omega) (by omega)) ?_
        refine G_gets 5 71 d_Rank_become_68 rfl rfl s_Rank_38 ?_
        refine G_iload2 72 d_Rank_become_71 rfl ?_
        refine G_st5 73 d_Rank_become_72 rfl (ix_nI (by omega) (by omega)) ?_
        first | refine G_iaddN 74 d_Rank_become_73 rfl ?_ | refine G_iadd 74 d_Rank_become_73 rfl ?_
        refine G_istore6 76 d_Rank_become_74 rfl (by decide) rfl ?_
        refine G_iload1 77 d_Rank_become_76 rfl ?_
        refine G_ifne 88 80 d_Rank_become_77 rfl rfl (fun h77 => ?_) (fun h77 => ?_)
        · have ho0 : ¬ o = 0 := fun e => h77 (by rw [e]; rfl)
          refine G_iload1 89 d_Rank_become_88 rfl ?_
          refine G_iconstN 1 90 d_Rank_become_89 rfl rfl ?_
          first | refine G_icneN 104 93 d_Rank_become_90 rfl rfl (by omega) (by omega) (fun h90 => ?_) (fun h90 => ?_) | refine G_icne 104 93 d_Rank_become_90 rfl rfl (fun h90 => ?_) (fun h90 => ?_)
          · refine G_iload4 106 d_Rank_become_104 rfl ?_
            refine G_iload5 108 d_Rank_become_106 rfl ?_
            first | refine G_isubN 109 d_Rank_become_108 rfl (by omega) ?_ | refine G_isub 109 d_Rank_become_108 rfl ?_
            have := fin (some (.int (nI (eD t)))) (some (.int (nI (eS (eD t + 1) - 1)))) (some (.int (nI (eT (eX t + eY t) + eX t)))) (some (.int (nI (eT (eY t + eZ t) + eZ t)))) l7 rfl
            rw [rnk, if_neg ho0, if_neg h90] at this
            exact this
          · refine G_gets 1 96 d_Rank_become_93 rfl rfl s_Rank_26 ?_
            refine G_iload3 97 d_Rank_become_96 rfl ?_
            refine G_st1 98 d_Rank_become_97 rfl (ix_nI (by omega) (by omega)) ?_
            refine G_iload5 100 d_Rank_become_98 rfl ?_
            first | refine G_iaddN 101 d_Rank_become_100 rfl ?_ | refine G_iadd 101 d_Rank_become_100 rfl ?_
            refine G_goto 109 d_Rank_become_101 rfl ?_
            have := fin (some (.int (nI (eD t)))) (some (.int (nI (eS (eD t + 1) - 1)))) (some (.int (nI (eT (eX t + eY t) + eX t)))) (some (.int (nI (eT (eY t + eZ t) + eZ t)))) l7 rfl
            rw [rnk, if_neg ho0, if_pos h90] at this
            exact this
        · have ho0 : o = 0 := (nI_eq (by omega) (by omega)).mp (h77.trans nI_0.symm)
          refine G_iload4 82 d_Rank_become_80 rfl ?_
          refine G_iload6 84 d_Rank_become_82 rfl ?_
          first | refine G_isubN 85 d_Rank_become_84 rfl (by omega) ?_ | refine G_isub 85 d_Rank_become_84 rfl ?_
          refine G_goto 109 d_Rank_become_85 rfl ?_
          have := fin (some (.int (nI (eD t)))) (some (.int (nI (eS (eD t + 1) - 1)))) (some (.int (nI (eT (eX t + eY t) + eX t)))) (some (.int (nI (eT (eY t + eZ t) + eZ t)))) l7 rfl
          rw [rnk, if_pos ho0] at this
          exact this
  refine G_aload0 1 d_Rank_become_0 rfl ?_
  refine G_iload1 2 d_Rank_become_1 rfl ?_
  refine G_putI 5 d_Rank_become_2 rfl f_Rank_7 rfl (by intro C T N h; cases h; rfl) (by assumption) rfl rfl ?_
  refine G_iconstN 0 6 d_Rank_become_5 rfl rfl ?_
  refine G_istore2 7 d_Rank_become_6 rfl (by decide) rfl ?_
  have := L 0 (by omega) none none none none none
  simp only [Nat.not_lt_zero, if_false, sr_self] at this
  exact this
/-- the LEADING TERM and 1; 0: there is none -/
def pld (f : Nat → Int64) (o : Nat) : Nat → Nat
  | 0 => 0
  | k + 1 => if f (rk o k) = 0 then pld f o k else rk o k + 1
def lead1 (f : Nat → Int64) (o : Nat) : Nat := pld f o 84
theorem pld_le (f : Nat → Int64) {o : Nat} (ho : o < 3) : ∀ k, k ≤ 84 → pld f o k ≤ 84
  | 0, _ => by simp [pld]
  | k + 1, h => by
    rw [pld]
    split
    · exact pld_le f ho k (by omega)
    · have := (rk_ok o ho k (by omega)).2.2.1
      omega
theorem s_leadOf {V : GV} {d r fl p q o : Nat} {X : XT} {FI AI : FT} {AL : LT} (h : RK X r fl) (hp : PO X p q) (ho : o < 3) (hf : ∀ k, k < 84 → AI fl k = nI (rk o k)) : G V m_Rank_leadOf d 0 [some (.ref r), some (.ref p), none] [] X FI AI AL (Pd (some (.int (dI (lead1 (AL q) o)))) X FI AI AL) := by
  obtain ⟨h1, h2, h3⟩ := h
  obtain ⟨g1, g2, g3⟩ := hp
  have L : ∀ k, k ≤ 84 → pld (AL q) o k = lead1 (AL q) o → G V m_Rank_leadOf d 3 [some (.ref r), some (.ref p), some (.int (dI k))] [] X FI AI AL (Pd (some (.int (dI (lead1 (AL q) o)))) X FI AI AL) := by
    refine downto ?_ ?_
    · intro _ hk
      refine G_iload2 4 d_Rank_leadOf_3 rfl ?_
      first | refine G_ifltD 36 7 d_Rank_leadOf_4 rfl rfl (by omega) (fun h4 => ?_) (fun j h4 => ?_) | refine G_iflt 36 7 d_Rank_leadOf_4 rfl rfl (fun h4 => ?_) (fun h4 => ?_)
      · refine G_iconst (-1) 37 d_Rank_leadOf_36 rfl rfl ?_
        refine G_iret d_Rank_leadOf_37 rfl ?_
        exact ⟨by rw [← hk]; rfl, rfl, rfl, rfl, rfl⟩
      · omega
    · intro k ih hk hd
      rw [dI_s]
      have hr := (rk_ok o ho k (by omega)).2.2.1
      refine G_iload2 4 d_Rank_leadOf_3 rfl ?_
      first | refine G_ifltD 36 7 d_Rank_leadOf_4 rfl rfl (by omega) (fun h4 => ?_) (fun j h4 => ?_) | refine G_iflt 36 7 d_Rank_leadOf_4 rfl rfl (fun h4 => ?_) (fun h4 => ?_)
      · exact absurd h4 (nI_pos (by omega))
      · refine G_aload1 8 d_Rank_leadOf_7 rfl ?_
        refine G_getR 11 d_Rank_leadOf_8 rfl f_Rank_41 rfl (by assumption) (by assumption) ?_
        refine G_aload0 12 d_Rank_leadOf_11 rfl ?_
        refine G_getR 15 d_Rank_leadOf_12 rfl f_Rank_15 rfl (by assumption) (by assumption) ?_
        refine G_iload2 16 d_Rank_leadOf_15 rfl ?_
        refine G_iaload 17 d_Rank_leadOf_16 rfl (by assumption) (ix_nI (by omega) (by omega)) ?_
        rw [hf k (by omega)]
        refine G_laload 18 d_Rank_leadOf_17 rfl (by assumption) (ix_nI (by omega) (by omega)) ?_
        refine G_lconst 0 19 d_Rank_leadOf_18 rfl rfl ?_
        refine G_lceq 30 23 d_Rank_leadOf_19 d_Rank_leadOf_20 rfl rfl (fun h19 => ?_) (fun h19 => ?_)
        · first | refine G_iinc2 _ 33 d_Rank_leadOf_30 rfl (by decide) rfl (dI_m1 _) ?_ | refine G_iinc2 _ 33 d_Rank_leadOf_30 rfl (by decide) rfl rfl ?_
          refine G_goto 3 d_Rank_leadOf_33 rfl ?_
          refine ih (by omega) ?_
          simp only [pld, h19, if_true] at hd
          exact hd
        · refine G_aload0 24 d_Rank_leadOf_23 rfl ?_
          refine G_getR 27 d_Rank_leadOf_24 rfl f_Rank_15 rfl (by assumption) (by assumption) ?_
          refine G_iload2 28 d_Rank_leadOf_27 rfl ?_
          refine G_iaload 29 d_Rank_leadOf_28 rfl (by assumption) (ix_nI (by omega) (by omega)) ?_
          rw [hf k (by omega)]
          refine G_iret d_Rank_leadOf_29 rfl ?_
          refine ⟨?_, rfl, rfl, rfl, rfl⟩
          simp only [pld, h19, if_false] at hd
          rw [← hd, dI_s]
  refine G_bipushN 83 2 d_Rank_leadOf_0 rfl rfl ?_
  refine G_istore2 3 d_Rank_leadOf_2 rfl (by decide) rfl ?_
  have := L 84 (by omega) rfl
  rw [dI_s] at this
  exact this
/-! SHEETS -/
def SH (X : XT) (s c : Nat) : Prop := x_sh X s = some (18, 3) ∧ x_FR X s 2 = some c ∧ x_sh X c = some (0, 40)
theorem s_sheetBecome {V : GV} {d s c : Nat} {so n : Int32} {X : XT} {FI AI : FT} {AL : LT} (h : SH X s c) : G V m_Sheet_become (d + 1) 0 [some (.ref s), some (.int so), some (.int n)] [] X FI AI AL (Pd none X (u2 (u2 FI s 0 so) s 1 n) (sr AI c (fun _ => 0)) AL) := by
  obtain ⟨h1, h2, h3⟩ := h
  refine G_aload0 1 d_Sheet_become_0 rfl ?_
  refine G_iload1 2 d_Sheet_become_1 rfl ?_
  refine G_putI 5 d_Sheet_become_2 rfl f_Sheet_9 rfl (by intro C T N h; cases h; rfl) (by assumption) rfl rfl ?_
  refine G_aload0 6 d_Sheet_become_5 rfl ?_
  refine G_iload2 7 d_Sheet_become_6 rfl ?_
  refine G_putI 10 d_Sheet_become_7 rfl f_Sheet_13 rfl (by intro C T N h; cases h; rfl) (by assumption) rfl rfl ?_
  refine G_aload0 11 d_Sheet_become_10 rfl ?_
  refine G_getR 14 d_Sheet_become_11 rfl f_Sheet_16 rfl (by assumption) (by assumption) ?_
  refine G_iconstN 0 15 d_Sheet_become_14 rfl rfl ?_
  refine G_invS2v 18 d_Sheet_become_15 rfl e_Sheet_20 M_Arr_fill_AIIV (Nat.le_of_ble_eq_true rfl) (Nat.le_of_ble_eq_true rfl) rfl (s_fillI (by assumption) (by omega)) ?_
  refine G_vret d_Sheet_become_18 rfl ?_
  exact Pd.rf
theorem s_isMissing {V : GV} {d s c : Nat} {X : XT} {FI AI : FT} {AL : LT} (h : SH X s c) : G V m_Sheet_isMissing d 0 [some (.ref s)] [] X FI AI AL (P01 (FI s 0 = -1) X FI AI AL) := by
  have h1 := h.1
  refine G_aload0 1 d_Sheet_isMissing_0 rfl ?_
  refine G_getI 4 d_Sheet_isMissing_1 rfl f_Sheet_9 rfl (by assumption) ?_
  refine G_iconst (-1) 5 d_Sheet_isMissing_4 rfl rfl ?_
  first | refine G_icneN 12 8 d_Sheet_isMissing_5 rfl rfl (by omega) (by omega) (fun h5 => ?_) (fun h5 => ?_) | refine G_icne 12 8 d_Sheet_isMissing_5 rfl rfl (fun h5 => ?_) (fun h5 => ?_)
  · refine G_iconstN 0 13 d_Sheet_isMissing_12 rfl rfl ?_
    refine G_zret d_Sheet_isMissing_13 rfl ?_ ?_
    · exact Or.inl rfl
    · exact P01.f h5
  · refine G_iconstN 1 9 d_Sheet_isMissing_8 rfl rfl ?_
    refine G_goto 13 d_Sheet_isMissing_9 rfl ?_
    refine G_zret d_Sheet_isMissing_13 rfl ?_ ?_
    · exact Or.inr rfl
    · exact P01.t h5
/-- what a SHEET of a sort keeps -/
def low (so : Int32) (v : Int64) : Int32 := if so = 0 then v.toInt32.toInt8.toInt32 else v.toInt32
theorem s_sheetPut {V : GV} {d s c k : Nat} {v : Int64} {X : XT} {FI AI : FT} {AL : LT} (h : SH X s c) (hk : k < 40) : G V m_Sheet_put d 0 [some (.ref s), some (.int (nI k)), some (.long v), none] [] X FI AI AL (Pd none X FI (u2 AI c k (low (FI s 0) v)) AL) := by
  obtain ⟨h1, h2, h3⟩ := h
  refine G_aload0 1 d_Sheet_put_0 rfl ?_
  refine G_getR 4 d_Sheet_put_1 rfl f_Sheet_16 rfl (by assumption) (by assumption) ?_
  refine G_iload1 5 d_Sheet_put_4 rfl ?_
  refine G_aload0 6 d_Sheet_put_5 rfl ?_
  refine G_getI 9 d_Sheet_put_6 rfl f_Sheet_9 rfl (by assumption) ?_
  refine G_ifne 18 12 d_Sheet_put_9 rfl rfl (fun h9 => ?_) (fun h9 => ?_)
  · refine G_lload2 19 d_Sheet_put_18 rfl ?_
    refine G_l2i 20 d_Sheet_put_19 rfl ?_
    refine G_iastore 21 d_Sheet_put_20 rfl (by assumption) (ix_nI (by omega) (by omega)) ?_
    refine G_vret d_Sheet_put_21 rfl ?_
    exact ⟨rfl, rfl, rfl, by simp only [low, h9, if_false], rfl⟩
  · refine G_lload2 13 d_Sheet_put_12 rfl ?_
    refine G_l2i 14 d_Sheet_put_13 rfl ?_
    refine G_i2b 15 d_Sheet_put_14 rfl ?_
    refine G_goto 20 d_Sheet_put_15 rfl ?_
    refine G_iastore 21 d_Sheet_put_20 rfl (by assumption) (ix_nI (by omega) (by omega)) ?_
    refine G_vret d_Sheet_put_21 rfl ?_
    exact ⟨rfl, rfl, rfl, by simp only [low, h9, if_true], rfl⟩
/-! STEPS -/
def STp (X : XT) (s c w : Nat) : Prop := x_sh X s = some (19, 3) ∧ x_FR X s 1 = some c ∧ x_FR X s 2 = some w ∧ x_sh X c = some (1, 84) ∧ x_sh X w = some (0, 84)
theorem s_stepsAppend {V : GV} {d s c w n : Nat} {v : Int64} {row : Int32} {X : XT} {FI AI : FT} {AL : LT} (h : STp X s c w) (hn : FI s 0 = nI n) (hn2 : n < 84) : G V m_Steps_append d 0 [some (.ref s), some (.long v), none, some (.int row)] [] X FI AI AL (Pd none X (u2 FI s 0 (nI (n + 1))) (u2 AI w n row) (u2 AL c n v)) := by
  obtain ⟨h1, h2, h3, h4, h5⟩ := h
  refine G_aload0 1 d_Steps_append_0 rfl ?_
  refine G_getI 4 d_Steps_append_1 rfl f_Steps_7 rfl (by assumption) ?_
  rw [hn]
  refine G_bipushN 84 6 d_Steps_append_4 rfl rfl ?_
  first | refine G_icgeN 39 9 d_Steps_append_6 rfl rfl (by omega) (by omega) (fun h6 => ?_) (fun h6 => ?_) | refine G_icge 39 9 d_Steps_append_6 rfl rfl (fun h6 => ?_) (fun h6 => ?_)
  · omega
  · refine G_aload0 10 d_Steps_append_9 rfl ?_
    refine G_getR 13 d_Steps_append_10 rfl f_Steps_15 rfl (by assumption) (by assumption) ?_
    refine G_aload0 14 d_Steps_append_13 rfl ?_
    refine G_getI 17 d_Steps_append_14 rfl f_Steps_7 rfl (by assumption) ?_
    rw [hn]
    refine G_lload1 18 d_Steps_append_17 rfl ?_
    refine G_lastore 19 d_Steps_append_18 rfl (by assumption) (ix_nI (by omega) (by omega)) ?_
    refine G_aload0 20 d_Steps_append_19 rfl ?_
    refine G_getR 23 d_Steps_append_20 rfl f_Steps_19 rfl (by assumption) (by assumption) ?_
    refine G_aload0 24 d_Steps_append_23 rfl ?_
    refine G_getI 27 d_Steps_append_24 rfl f_Steps_7 rfl (by assumption) ?_
    rw [hn]
    refine G_iload3 28 d_Steps_append_27 rfl ?_
    refine G_iastore 29 d_Steps_append_28 rfl (by assumption) (ix_nI (by omega) (by omega)) ?_
    refine G_aload0 30 d_Steps_append_29 rfl ?_
    refine G_dup 31 d_Steps_append_30 rfl rfl ?_
    refine G_getI 34 d_Steps_append_31 rfl f_Steps_7 rfl (by assumption) ?_
    rw [hn]
    refine G_iconstN 1 35 d_Steps_append_34 rfl rfl ?_
    first | refine G_iaddN 36 d_Steps_append_35 rfl ?_ | refine G_iadd 36 d_Steps_append_35 rfl ?_
    refine G_putI 39 d_Steps_append_36 rfl f_Steps_7 rfl (by intro C T N h; cases h; rfl) (by assumption) rfl rfl ?_
    refine G_vret d_Steps_append_39 rfl ?_
    exact Pd.rf
