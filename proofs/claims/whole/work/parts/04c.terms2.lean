/-! ===== TERMS of the class ===== -/
def isE (x : Int32) : Prop := 0 ≤ x.toInt ∧ x.toInt ≤ 6
theorem isE_of {x : Int32} : isE x ↔ ∃ j : Nat, j ≤ 6 ∧ x = nI j := by
  constructor
  · intro h
    refine ⟨x.toInt.toNat, by have := h.1; have := h.2; omega, ?_⟩
    apply Int32.toInt_inj.mp
    rw [nI_toInt (by have := h.2; omega)]
    have := h.1
    omega
  · rintro ⟨j, hj, rfl⟩
    unfold isE
    rw [nI_toInt (by omega)]
    omega
theorem lt0_iff (x : Int32) : x < 0 ↔ x.toInt < 0 := by rw [Int32.lt_iff_toInt_lt]; rfl
theorem nlt0_iff (x : Int32) : ¬ x < 0 ↔ 0 ≤ x.toInt := by rw [lt0_iff]; omega
theorem ltc {x : Int32} {n : Nat} (hn : n < 2 ^ 31) : nI n < x ↔ (n : Int) < x.toInt := by rw [Int32.lt_iff_toInt_lt, nI_toInt hn]
theorem ltc' {x : Int32} {n : Nat} (hn : n < 2 ^ 31) : x < nI n ↔ x.toInt < (n : Int) := by rw [Int32.lt_iff_toInt_lt, nI_toInt hn]
theorem lec {x : Int32} {n : Nat} (hn : n < 2 ^ 31) : nI n ≤ x ↔ (n : Int) ≤ x.toInt := by rw [Int32.le_iff_toInt_le, nI_toInt hn]
theorem lec' {x : Int32} {n : Nat} (hn : n < 2 ^ 31) : x ≤ nI n ↔ x.toInt ≤ (n : Int) := by rw [Int32.le_iff_toInt_le, nI_toInt hn]
/-- 1 or 0 -/
def bI (p : Prop) [Decidable p] : Int32 := if p then 1 else 0
theorem bI_01 (p : Prop) [Decidable p] : bI p = 0 ∨ bI p = 1 := by unfold bI; split <;> simp
theorem bI_t {p : Prop} [Decidable p] (h : p) : bI p = 1 := if_pos h
theorem bI_f {p : Prop} [Decidable p] (h : ¬ p) : bI p = 0 := if_neg h
theorem bI_0 {p : Prop} [Decidable p] : bI p = 0 ↔ ¬ p := by unfold bI; split <;> simp [*]
theorem s_isExponent {V : GV} {d : Nat} {x : Int32} {X : XT} {FI AI : FT} {AL : LT} : G V m_Terms_isExponent d 0 [some (.int x)] [] X FI AI AL (P01 (isE x) X FI AI AL) := by
  refine G_iload0 1 d_Terms_isExponent_0 rfl ?_
  first | refine G_ifltD 14 4 d_Terms_isExponent_1 rfl rfl (by omega) (fun h1 => ?_) (fun j h1 => ?_) | refine G_iflt 14 4 d_Terms_isExponent_1 rfl rfl (fun h1 => ?_) (fun h1 => ?_)
  · refine G_iconstN 0 15 d_Terms_isExponent_14 rfl rfl ?_
    refine G_zret d_Terms_isExponent_15 rfl ?_ ?_
    · exact Or.inl rfl
    · exact P01.f (fun h => by have := h.1; rw [lt0_iff] at h1; omega)
  · refine G_iload0 5 d_Terms_isExponent_4 rfl ?_
    refine G_bipushN 6 7 d_Terms_isExponent_5 rfl rfl ?_
    first | refine G_icgtN 14 10 d_Terms_isExponent_7 rfl rfl (by omega) (by omega) (fun h7 => ?_) (fun h7 => ?_) | refine G_icgt 14 10 d_Terms_isExponent_7 rfl rfl (fun h7 => ?_) (fun h7 => ?_)
    · refine G_iconstN 0 15 d_Terms_isExponent_14 rfl rfl ?_
      refine G_zret d_Terms_isExponent_15 rfl ?_ ?_
      · exact Or.inl rfl
      · exact P01.f (fun h => by have := h.2; rw [ltc (by omega)] at h7; omega)
    · refine G_iconstN 1 11 d_Terms_isExponent_10 rfl rfl ?_
      refine G_goto 15 d_Terms_isExponent_11 rfl ?_
      refine G_zret d_Terms_isExponent_15 rfl ?_ ?_
      · exact Or.inr rfl
      · exact P01.t (by rw [ltc (by omega)] at h7; rw [nlt0_iff] at h1; exact ⟨h1, by omega⟩)
/-- x, y, z tell a TERM -/
def isT (x y z : Int32) : Prop := ∃ a b c : Nat, a + b + c ≤ 6 ∧ x = nI a ∧ y = nI b ∧ z = nI c
theorem s_isTerm {V : GV} {d : Nat} {x y z : Int32} {X : XT} {FI AI : FT} {AL : LT} : G V m_Terms_isTerm (d + 1) 0 [some (.int x), some (.int y), some (.int z)] [] X FI AI AL (P01 (isT x y z) X FI AI AL) := by
  have no : ∀ {w : Int32}, ¬ isE w → (w = x ∨ w = y ∨ w = z) → ¬ isT x y z := by
    rintro w hw he ⟨a, b, c, hs, rfl, rfl, rfl⟩
    apply hw
    rcases he with rfl | rfl | rfl
    · exact isE_of.mpr ⟨a, by omega, rfl⟩
    · exact isE_of.mpr ⟨b, by omega, rfl⟩
    · exact isE_of.mpr ⟨c, by omega, rfl⟩
  have fin : ∀ h : ¬ isT x y z, G V m_Terms_isTerm (d + 1) 35 [some (.int x), some (.int y), some (.int z)] [] X FI AI AL (P01 (isT x y z) X FI AI AL) := by
    intro h
    refine G_iconstN 0 36 d_Terms_isTerm_35 rfl rfl ?_
    refine G_zret d_Terms_isTerm_36 rfl ?_ ?_
    · exact Or.inl rfl
    · exact P01.f h
  refine G_iload0 1 d_Terms_isTerm_0 rfl ?_
  refine G_invS1b 4 d_Terms_isTerm_1 rfl e_Terms_7 M_Terms_isExponent (Nat.le_of_ble_eq_true rfl) (Nat.le_of_ble_eq_true rfl) rfl (s_isExponent) (fun h1 => G_ifeq1 7 d_Terms_isTerm_4 35 rfl rfl ?_) (fun h1 => G_ifeq0 7 d_Terms_isTerm_4 35 rfl rfl ?_)
  rotate_left
  · exact fin (no h1 (Or.inl rfl))
  refine G_iload1 8 d_Terms_isTerm_7 rfl ?_
  refine G_invS1b 11 d_Terms_isTerm_8 rfl e_Terms_7 M_Terms_isExponent (Nat.le_of_ble_eq_true rfl) (Nat.le_of_ble_eq_true rfl) rfl (s_isExponent) (fun h8 => G_ifeq1 14 d_Terms_isTerm_11 35 rfl rfl ?_) (fun h8 => G_ifeq0 14 d_Terms_isTerm_11 35 rfl rfl ?_)
  rotate_left
  · exact fin (no h8 (Or.inr (Or.inl rfl)))
  refine G_iload2 15 d_Terms_isTerm_14 rfl ?_
  refine G_invS1b 18 d_Terms_isTerm_15 rfl e_Terms_7 M_Terms_isExponent (Nat.le_of_ble_eq_true rfl) (Nat.le_of_ble_eq_true rfl) rfl (s_isExponent) (fun h15 => G_ifeq1 21 d_Terms_isTerm_18 35 rfl rfl ?_) (fun h15 => G_ifeq0 21 d_Terms_isTerm_18 35 rfl rfl ?_)
  rotate_left
  · exact fin (no h15 (Or.inr (Or.inr rfl)))
  obtain ⟨a, ha, rfl⟩ := isE_of.mp h1
  obtain ⟨b, hb, rfl⟩ := isE_of.mp h8
  obtain ⟨c, hc, rfl⟩ := isE_of.mp h15
  refine G_iload0 22 d_Terms_isTerm_21 rfl ?_
  refine G_iload1 23 d_Terms_isTerm_22 rfl ?_
  first | refine G_iaddN 24 d_Terms_isTerm_23 rfl ?_ | refine G_iadd 24 d_Terms_isTerm_23 rfl ?_
  refine G_iload2 25 d_Terms_isTerm_24 rfl ?_
  first | refine G_iaddN 26 d_Terms_isTerm_25 rfl ?_ | refine G_iadd 26 d_Terms_isTerm_25 rfl ?_
  refine G_bipushN 6 28 d_Terms_isTerm_26 rfl rfl ?_
  first | refine G_icgtN 35 31 d_Terms_isTerm_28 rfl rfl (by omega) (by omega) (fun h28 => ?_) (fun h28 => ?_) | refine G_icgt 35 31 d_Terms_isTerm_28 rfl rfl (fun h28 => ?_) (fun h28 => ?_)
  · refine fin ?_
    rintro ⟨a', b', c', hs, e1, e2, e3⟩
    have e1 := (nI_eq (by omega) (by omega)).mp e1
    have e2 := (nI_eq (by omega) (by omega)).mp e2
    have e3 := (nI_eq (by omega) (by omega)).mp e3
    omega
  · refine G_iconstN 1 32 d_Terms_isTerm_31 rfl rfl ?_
    refine G_goto 36 d_Terms_isTerm_32 rfl ?_
    refine G_zret d_Terms_isTerm_36 rfl ?_ ?_
    · exact Or.inr rfl
    · exact P01.t ⟨a, b, c, by omega, rfl, rfl, rfl⟩
theorem s_placeOf {V : GV} {d x y z : Nat} {X : XT} {FI AI : FT} {AL : LT} (h : x + y + z ≤ 6) : G V m_Terms_placeOf d 0 [some (.int (nI x)), some (.int (nI y)), some (.int (nI z))] [] X FI AI AL (Pd (some (.int (nI (pl x y z)))) X FI AI AL) := by
  refine G_gets 1 3 d_Terms_placeOf_0 rfl rfl s_Terms_13 ?_
  refine G_iload0 4 d_Terms_placeOf_3 rfl ?_
  refine G_iload1 5 d_Terms_placeOf_4 rfl ?_
  first | refine G_iaddN 6 d_Terms_placeOf_5 rfl ?_ | refine G_iadd 6 d_Terms_placeOf_5 rfl ?_
  refine G_iload2 7 d_Terms_placeOf_6 rfl ?_
  first | refine G_iaddN 8 d_Terms_placeOf_7 rfl ?_ | refine G_iadd 8 d_Terms_placeOf_7 rfl ?_
  refine G_st1 9 d_Terms_placeOf_8 rfl (ix_nI (by omega) (by omega)) ?_
  refine G_gets 2 12 d_Terms_placeOf_9 rfl rfl s_Terms_17 ?_
  refine G_iload1 13 d_Terms_placeOf_12 rfl ?_
  refine G_iload2 14 d_Terms_placeOf_13 rfl ?_
  first | refine G_iaddN 15 d_Terms_placeOf_14 rfl ?_ | refine G_iadd 15 d_Terms_placeOf_14 rfl ?_
  refine G_st2 16 d_Terms_placeOf_15 rfl (ix_nI (by omega) (by omega)) ?_
  first | refine G_iaddN 17 d_Terms_placeOf_16 rfl ?_ | refine G_iadd 17 d_Terms_placeOf_16 rfl ?_
  refine G_iload2 18 d_Terms_placeOf_17 rfl ?_
  first | refine G_iaddN 19 d_Terms_placeOf_18 rfl ?_ | refine G_iadd 19 d_Terms_placeOf_18 rfl ?_
  refine G_iret d_Terms_placeOf_19 rfl ?_
  exact Pd.rf
/-- the exponent of a letter -/
def ex (t i : Nat) : Nat := if i = 0 then eX t else if i = 1 then eY t else eZ t
theorem s_exponent {V : GV} {d t i : Nat} {X : XT} {FI AI : FT} {AL : LT} (h : t < 84) (hi : i < 2 ^ 31) : G V m_Terms_exponent d 0 [some (.int (nI t)), some (.int (nI i))] [] X FI AI AL (Pd (some (.int (nI (ex t i)))) X FI AI AL) := by
  refine G_iload1 1 d_Terms_exponent_0 rfl ?_
  refine G_ifne 12 4 d_Terms_exponent_1 rfl rfl (fun h1 => ?_) (fun h1 => ?_)
  · refine G_iload1 13 d_Terms_exponent_12 rfl ?_
    refine G_iconstN 1 14 d_Terms_exponent_13 rfl rfl ?_
    first | refine G_icneN 25 17 d_Terms_exponent_14 rfl rfl (by omega) (by omega) (fun h14 => ?_) (fun h14 => ?_) | refine G_icne 25 17 d_Terms_exponent_14 rfl rfl (fun h14 => ?_) (fun h14 => ?_)
    · refine G_gets 5 28 d_Terms_exponent_25 rfl rfl s_Terms_26 ?_
      refine G_iload0 29 d_Terms_exponent_28 rfl ?_
      refine G_st5 30 d_Terms_exponent_29 rfl (ix_nI (by omega) (by omega)) ?_
      refine G_iret d_Terms_exponent_30 rfl ?_
      have : ¬ i = 0 := fun e => h1 (by rw [e]; rfl)
      exact ⟨by simp [ex, this, h14], rfl, rfl, rfl, rfl⟩
    · refine G_gets 4 20 d_Terms_exponent_17 rfl rfl s_Terms_23 ?_
      refine G_iload0 21 d_Terms_exponent_20 rfl ?_
      refine G_st4 22 d_Terms_exponent_21 rfl (ix_nI (by omega) (by omega)) ?_
      refine G_goto 30 d_Terms_exponent_22 rfl ?_
      refine G_iret d_Terms_exponent_30 rfl ?_
      exact ⟨by simp [ex, h14], rfl, rfl, rfl, rfl⟩
  · refine G_gets 3 7 d_Terms_exponent_4 rfl rfl s_Terms_20 ?_
    refine G_iload0 8 d_Terms_exponent_7 rfl ?_
    refine G_st3 9 d_Terms_exponent_8 rfl (ix_nI (by omega) (by omega)) ?_
    refine G_goto 30 d_Terms_exponent_9 rfl ?_
    refine G_iret d_Terms_exponent_30 rfl ?_
    have : i = 0 := (nI_eq hi (by omega)).mp (h1.trans nI_0.symm)
    exact ⟨by simp [ex, this], rfl, rfl, rfl, rfl⟩
theorem ex_le {t i : Nat} (h : t < 84) : ex t i ≤ 6 := by
  have := e_le h
  unfold ex
  split
  · omega
  · split <;> omega
/-- where a TERM comes by a TURN -/
def tpl (t k : Nat) : Nat := pl (ex t (eU (3 * k))) (ex t (eU (3 * k + 1))) (ex t (eU (3 * k + 2)))
theorem tpl_ok : ∀ k, k < 6 → ∀ t, t < 84 → ex t (eU (3 * k)) + ex t (eU (3 * k + 1)) + ex t (eU (3 * k + 2)) ≤ 6 ∧ eU (3 * k) < 3 ∧ eU (3 * k + 1) < 3 ∧ eU (3 * k + 2) < 3 := by decide +kernel
theorem s_turnedPlace {V : GV} {d t k : Nat} {X : XT} {FI AI : FT} {AL : LT} (h : t < 84) (hk : k < 6) : G V m_Terms_turnedPlace (d + 1) 0 [some (.int (nI t)), some (.int (nI k)), none, none, none] [] X FI AI AL (Pd (some (.int (nI (tpl t k)))) X FI AI AL) := by
  obtain ⟨h1, h2, h3, h4⟩ := tpl_ok k hk t h
  refine G_iload0 1 d_Terms_turnedPlace_0 rfl ?_
  refine G_gets 6 4 d_Terms_turnedPlace_1 rfl rfl s_Terms_29 ?_
  refine G_iconstN 3 5 d_Terms_turnedPlace_4 rfl rfl ?_
  refine G_iload1 6 d_Terms_turnedPlace_5 rfl ?_
  first | refine G_imulN 7 d_Terms_turnedPlace_6 rfl ?_ | refine G_imul 7 d_Terms_turnedPlace_6 rfl ?_
  refine G_st6 8 d_Terms_turnedPlace_7 rfl (ix_nI (by omega) (by omega)) ?_
  refine G_invS2d 11 d_Terms_turnedPlace_8 rfl e_Terms_32 M_Terms_exponent (Nat.le_of_ble_eq_true rfl) (Nat.le_of_ble_eq_true rfl) rfl (s_exponent (by omega) (by omega)) ?_
  refine G_istore2 12 d_Terms_turnedPlace_11 rfl (by decide) rfl ?_
  refine G_iload0 13 d_Terms_turnedPlace_12 rfl ?_
  refine G_gets 6 16 d_Terms_turnedPlace_13 rfl rfl s_Terms_29 ?_
  refine G_iconstN 3 17 d_Terms_turnedPlace_16 rfl rfl ?_
  refine G_iload1 18 d_Terms_turnedPlace_17 rfl ?_
  first | refine G_imulN 19 d_Terms_turnedPlace_18 rfl ?_ | refine G_imul 19 d_Terms_turnedPlace_18 rfl ?_
  refine G_iconstN 1 20 d_Terms_turnedPlace_19 rfl rfl ?_
  first | refine G_iaddN 21 d_Terms_turnedPlace_20 rfl ?_ | refine G_iadd 21 d_Terms_turnedPlace_20 rfl ?_
  refine G_st6 22 d_Terms_turnedPlace_21 rfl (ix_nI (by omega) (by omega)) ?_
  refine G_invS2d 25 d_Terms_turnedPlace_22 rfl e_Terms_32 M_Terms_exponent (Nat.le_of_ble_eq_true rfl) (Nat.le_of_ble_eq_true rfl) rfl (s_exponent (by omega) (by omega)) ?_
  refine G_istore3 26 d_Terms_turnedPlace_25 rfl (by decide) rfl ?_
  refine G_iload0 27 d_Terms_turnedPlace_26 rfl ?_
  refine G_gets 6 30 d_Terms_turnedPlace_27 rfl rfl s_Terms_29 ?_
  refine G_iconstN 3 31 d_Terms_turnedPlace_30 rfl rfl ?_
  refine G_iload1 32 d_Terms_turnedPlace_31 rfl ?_
  first | refine G_imulN 33 d_Terms_turnedPlace_32 rfl ?_ | refine G_imul 33 d_Terms_turnedPlace_32 rfl ?_
  refine G_iconstN 2 34 d_Terms_turnedPlace_33 rfl rfl ?_
  first | refine G_iaddN 35 d_Terms_turnedPlace_34 rfl ?_ | refine G_iadd 35 d_Terms_turnedPlace_34 rfl ?_
  refine G_st6 36 d_Terms_turnedPlace_35 rfl (ix_nI (by omega) (by omega)) ?_
  refine G_invS2d 39 d_Terms_turnedPlace_36 rfl e_Terms_32 M_Terms_exponent (Nat.le_of_ble_eq_true rfl) (Nat.le_of_ble_eq_true rfl) rfl (s_exponent (by omega) (by omega)) ?_
  refine G_istore4 41 d_Terms_turnedPlace_39 rfl (by decide) rfl ?_
  refine G_iload2 42 d_Terms_turnedPlace_41 rfl ?_
  refine G_iload3 43 d_Terms_turnedPlace_42 rfl ?_
  refine G_iload4 45 d_Terms_turnedPlace_43 rfl ?_
  refine G_invS3d 48 d_Terms_turnedPlace_45 rfl e_Terms_36 M_Terms_placeOf (Nat.le_of_ble_eq_true rfl) (Nat.le_of_ble_eq_true rfl) rfl (s_placeOf (by omega)) ?_
  refine G_iret d_Terms_turnedPlace_48 rfl ?_
  exact Pd.rf
