/-! ===== the reference: numbers, TERMS, what is read of POLYNOMIALS ===== -/
/-- the POLYNOMIAL at a place -/
def mp (AL : LT) (b p t : Nat) : Int64 := if t < 84 then AL (b + 1) (84 * p + t) else 0
theorem mp_at {AL : LT} {b p t : Nat} (h : t < 84) : mp AL b p t = AL (b + 1) (84 * p + t) := if_pos h
/-- another one comes to a place -/
def sp (AL : LT) (b p : Nat) (f : Nat → Int64) : LT := sr AL (b + 1) (fun j => if 84 * p ≤ j ∧ j < 84 * p + 84 then f (j - 84 * p) else AL (b + 1) j)
def cu (f : Nat → Int64) : Nat → Int64 := fun t => if t < 84 then f t else 0
theorem cu_at {f : Nat → Int64} {t : Nat} (h : t < 84) : cu f t = f t := if_pos h
theorem cu_eq {f g : Nat → Int64} (h : ∀ t, t < 84 → f t = g t) : cu f = cu g := by
  funext t; unfold cu; split
  · exact h t (by assumption)
  · rfl
theorem cu_cu (f : Nat → Int64) : cu (cu f) = cu f := cu_eq (fun t h => cu_at h)
theorem mp_sp (AL : LT) (b p : Nat) (f : Nat → Int64) : mp (sp AL b p f) b p = cu f := by
  funext t; unfold mp cu sp; split
  · rw [sr_at, if_pos (by omega), show 84 * p + t - 84 * p = t by omega]
  · rfl
theorem mp_spn {AL : LT} {b p q : Nat} {f : Nat → Int64} (h : q ≠ p) : mp (sp AL b p f) b q = mp AL b q := by
  funext t; unfold mp sp; split
  · rw [sr_at, if_neg (by omega)]
  · rfl
theorem mp_cu (AL : LT) (b p : Nat) : cu (mp AL b p) = mp AL b p := by
  funext t; unfold cu mp; split <;> rfl
theorem sp_off {AL : LT} {b p q : Nat} {f : Nat → Int64} (h : q ≠ b + 1) : sp AL b p f q = AL q := sr_ne _ _ h
/-- the tables of the reference -/
def MTb (AI : FT) (b : Nat) : Prop := (∀ t, t < 84 → AI (b + 3) t = nI (eX t) ∧ AI (b + 4) t = nI (eY t) ∧ AI (b + 5) t = nI (eZ t)) ∧ ∀ x y z, x + y + z ≤ 6 → AI (b + 6) (49 * x + 7 * y + z) = nI (pl x y z)
theorem s_mIn {V : GV} {d : Nat} {x y z : Int64} {X : XT} {FI AI : FT} {AL : LT} : G V m_Mod_in d 0 [some (.long x), none, some (.long y), none, some (.long z), none] [] X FI AI AL (P01 (y.toInt ≤ x.toInt ∧ x.toInt ≤ z.toInt) X FI AI AL) := by
  refine G_lload0 1 d_Mod_in_0 rfl ?_
  refine G_lload2 2 d_Mod_in_1 rfl ?_
  refine G_lclt 17 6 d_Mod_in_2 d_Mod_in_3 rfl rfl (fun h2 => ?_) (fun h2 => ?_)
  · rw [Int64.lt_iff_toInt_lt] at h2
    refine G_iconstN 0 18 d_Mod_in_17 rfl rfl ?_
    refine G_zret d_Mod_in_18 rfl ?_ ?_
    · first | exact Or.inl rfl | exact Or.inr rfl
    · first | exact P01.t (by omega) | exact P01.f (by omega)
  · rw [Int64.lt_iff_toInt_lt] at h2
    refine G_lload0 7 d_Mod_in_6 rfl ?_
    refine G_lload4 9 d_Mod_in_7 rfl ?_
    refine G_lcgt 17 13 d_Mod_in_9 d_Mod_in_10 rfl rfl (fun h9 => ?_) (fun h9 => ?_)
    · rw [Int64.lt_iff_toInt_lt] at h9
      refine G_iconstN 0 18 d_Mod_in_17 rfl rfl ?_
      refine G_zret d_Mod_in_18 rfl ?_ ?_
      · first | exact Or.inl rfl | exact Or.inr rfl
      · first | exact P01.t (by omega) | exact P01.f (by omega)
    · rw [Int64.lt_iff_toInt_lt] at h9
      refine G_iconstN 1 14 d_Mod_in_13 rfl rfl ?_
      refine G_goto 18 d_Mod_in_14 rfl ?_
      refine G_zret d_Mod_in_18 rfl ?_ ?_
      · first | exact Or.inl rfl | exact Or.inr rfl
      · first | exact P01.t (by omega) | exact P01.f (by omega)
theorem s_mIsSlot {V : GV} {d : Nat} {x : Int32} {X : XT} {FI AI : FT} {AL : LT} : G V m_Mod_isSlot d 0 [some (.int x)] [] X FI AI AL (P01 (isN x 6) X FI AI AL) := by
  rw [show isN x 6 = (0 ≤ x.toInt ∧ x.toInt < (6 : Nat)) from propext (isN_iff (by omega))]
  refine G_iload0 1 d_Mod_isSlot_0 rfl ?_
  first | refine G_ifltD 14 4 d_Mod_isSlot_1 rfl rfl (by omega) (fun h1 => ?_) (fun j h1 => ?_) | refine G_iflt 14 4 d_Mod_isSlot_1 rfl rfl (fun h1 => ?_) (fun h1 => ?_)
  · rw [lt0_iff] at h1
    refine G_iconstN 0 15 d_Mod_isSlot_14 rfl rfl ?_
    refine G_zret d_Mod_isSlot_15 rfl ?_ ?_
    · first | exact Or.inl rfl | exact Or.inr rfl
    · first | exact P01.t (by omega) | exact P01.f (by omega)
  · rw [nlt0_iff] at h1
    refine G_iload0 5 d_Mod_isSlot_4 rfl ?_
    refine G_bipushN 6 7 d_Mod_isSlot_5 rfl rfl ?_
    first | refine G_icgeN 14 10 d_Mod_isSlot_7 rfl rfl (by omega) (by omega) (fun h7 => ?_) (fun h7 => ?_) | refine G_icge 14 10 d_Mod_isSlot_7 rfl rfl (fun h7 => ?_) (fun h7 => ?_)
    · rw [lec (by omega)] at h7
      refine G_iconstN 0 15 d_Mod_isSlot_14 rfl rfl ?_
      refine G_zret d_Mod_isSlot_15 rfl ?_ ?_
      · first | exact Or.inl rfl | exact Or.inr rfl
      · first | exact P01.t (by omega) | exact P01.f (by omega)
    · rw [lec (by omega)] at h7
      refine G_iconstN 1 11 d_Mod_isSlot_10 rfl rfl ?_
      refine G_goto 15 d_Mod_isSlot_11 rfl ?_
      refine G_zret d_Mod_isSlot_15 rfl ?_ ?_
      · first | exact Or.inl rfl | exact Or.inr rfl
      · first | exact P01.t (by omega) | exact P01.f (by omega)
theorem s_mIsSheet {V : GV} {d : Nat} {x : Int32} {X : XT} {FI AI : FT} {AL : LT} : G V m_Mod_isSheet d 0 [some (.int x)] [] X FI AI AL (P01 (isN x 4) X FI AI AL) := by
  rw [show isN x 4 = (0 ≤ x.toInt ∧ x.toInt < (4 : Nat)) from propext (isN_iff (by omega))]
  refine G_iload0 1 d_Mod_isSheet_0 rfl ?_
  first | refine G_ifltD 13 4 d_Mod_isSheet_1 rfl rfl (by omega) (fun h1 => ?_) (fun j h1 => ?_) | refine G_iflt 13 4 d_Mod_isSheet_1 rfl rfl (fun h1 => ?_) (fun h1 => ?_)
  · rw [lt0_iff] at h1
    refine G_iconstN 0 14 d_Mod_isSheet_13 rfl rfl ?_
    refine G_zret d_Mod_isSheet_14 rfl ?_ ?_
    · first | exact Or.inl rfl | exact Or.inr rfl
    · first | exact P01.t (by omega) | exact P01.f (by omega)
  · rw [nlt0_iff] at h1
    refine G_iload0 5 d_Mod_isSheet_4 rfl ?_
    refine G_iconstN 4 6 d_Mod_isSheet_5 rfl rfl ?_
    first | refine G_icgeN 13 9 d_Mod_isSheet_6 rfl rfl (by omega) (by omega) (fun h6 => ?_) (fun h6 => ?_) | refine G_icge 13 9 d_Mod_isSheet_6 rfl rfl (fun h6 => ?_) (fun h6 => ?_)
    · rw [lec (by omega)] at h6
      refine G_iconstN 0 14 d_Mod_isSheet_13 rfl rfl ?_
      refine G_zret d_Mod_isSheet_14 rfl ?_ ?_
      · first | exact Or.inl rfl | exact Or.inr rfl
      · first | exact P01.t (by omega) | exact P01.f (by omega)
    · rw [lec (by omega)] at h6
      refine G_iconstN 1 10 d_Mod_isSheet_9 rfl rfl ?_
      refine G_goto 14 d_Mod_isSheet_10 rfl ?_
      refine G_zret d_Mod_isSheet_14 rfl ?_ ?_
      · first | exact Or.inl rfl | exact Or.inr rfl
      · first | exact P01.t (by omega) | exact P01.f (by omega)
theorem s_mIsGenerator {V : GV} {d b n : Nat} {x : Int32} {X : XT} {FI AI : FT} {AL : LT} (h : MO X b) (hn : FI b 9 = nI n) (hn7 : n ≤ 7) : G V m_Mod_isGenerator d 0 [some (.ref b), some (.int x)] [] X FI AI AL (P01 (isN x n) X FI AI AL) := by
  rw [show isN x n = (0 ≤ x.toInt ∧ x.toInt < (n : Nat)) from propext (isN_iff (by omega))]
  refine G_iload1 1 d_Mod_isGenerator_0 rfl ?_
  first | refine G_ifltD 16 4 d_Mod_isGenerator_1 rfl rfl (by omega) (fun h1 => ?_) (fun j h1 => ?_) | refine G_iflt 16 4 d_Mod_isGenerator_1 rfl rfl (fun h1 => ?_) (fun h1 => ?_)
  · rw [lt0_iff] at h1
    refine G_iconstN 0 17 d_Mod_isGenerator_16 rfl rfl ?_
    refine G_zret d_Mod_isGenerator_17 rfl ?_ ?_
    · first | exact Or.inl rfl | exact Or.inr rfl
    · first | exact P01.t (by omega) | exact P01.f (by omega)
  · rw [nlt0_iff] at h1
    refine G_iload1 5 d_Mod_isGenerator_4 rfl ?_
    refine G_aload0 6 d_Mod_isGenerator_5 rfl ?_
    refine G_getIv 9 d_Mod_isGenerator_6 rfl f_Mod_133 rfl h.sh hn ?_
    first | refine G_icgeN 16 12 d_Mod_isGenerator_9 rfl rfl (by omega) (by omega) (fun h9 => ?_) (fun h9 => ?_) | refine G_icge 16 12 d_Mod_isGenerator_9 rfl rfl (fun h9 => ?_) (fun h9 => ?_)
    · rw [lec (by omega)] at h9
      refine G_iconstN 0 17 d_Mod_isGenerator_16 rfl rfl ?_
      refine G_zret d_Mod_isGenerator_17 rfl ?_ ?_
      · first | exact Or.inl rfl | exact Or.inr rfl
      · first | exact P01.t (by omega) | exact P01.f (by omega)
    · rw [lec (by omega)] at h9
      refine G_iconstN 1 13 d_Mod_isGenerator_12 rfl rfl ?_
      refine G_goto 17 d_Mod_isGenerator_13 rfl ?_
      refine G_zret d_Mod_isGenerator_17 rfl ?_ ?_
      · first | exact Or.inl rfl | exact Or.inr rfl
      · first | exact P01.t (by omega) | exact P01.f (by omega)
theorem s_mTermOf {V : GV} {d b x y z : Nat} {X : XT} {FI AI : FT} {AL : LT} (h : MO X b) (hT : MTb AI b) (hs : x + y + z ≤ 6) : G V m_Mod_termOf d 0 [some (.ref b), some (.int (nI x)), some (.int (nI y)), some (.int (nI z))] [] X FI AI AL (Pd (some (.int (nI (pl x y z)))) X FI AI AL) := by
  refine G_aload0 1 d_Mod_termOf_0 rfl ?_
  refine G_getR 4 d_Mod_termOf_1 rfl f_Mod_28 rfl h.sh h.f5 ?_
  refine G_bipushN 49 6 d_Mod_termOf_4 rfl rfl ?_
  refine G_iload1 7 d_Mod_termOf_6 rfl ?_
  first | refine G_imulN 8 d_Mod_termOf_7 rfl ?_ | refine G_imul 8 d_Mod_termOf_7 rfl ?_
  refine G_bipushN 7 10 d_Mod_termOf_8 rfl rfl ?_
  refine G_iload2 11 d_Mod_termOf_10 rfl ?_
  first | refine G_imulN 12 d_Mod_termOf_11 rfl ?_ | refine G_imul 12 d_Mod_termOf_11 rfl ?_
  first | refine G_iaddN 13 d_Mod_termOf_12 rfl ?_ | refine G_iadd 13 d_Mod_termOf_12 rfl ?_
  refine G_iload3 14 d_Mod_termOf_13 rfl ?_
  first | refine G_iaddN 15 d_Mod_termOf_14 rfl ?_ | refine G_iadd 15 d_Mod_termOf_14 rfl ?_
  refine G_ialoadv 16 d_Mod_termOf_15 rfl h.s5 (ix_nI (by omega) (by omega)) (hT.2 x y z hs) ?_
  refine G_iret d_Mod_termOf_16 rfl ?_
  exact Pd.rf
theorem s_mDegreeOf {V : GV} {d b t : Nat} {X : XT} {FI AI : FT} {AL : LT} (h : MO X b) (hT : MTb AI b) (ht : t < 84) : G V m_Mod_degreeOf d 0 [some (.ref b), some (.int (nI t))] [] X FI AI AL (Pd (some (.int (nI (eD t)))) X FI AI AL) := by
  have e := e_le ht
  rw [← e.2.2.2.2]
  refine G_aload0 1 d_Mod_degreeOf_0 rfl ?_
  refine G_getR 4 d_Mod_degreeOf_1 rfl f_Mod_18 rfl h.sh h.f2 ?_
  refine G_iload1 5 d_Mod_degreeOf_4 rfl ?_
  refine G_ialoadv 6 d_Mod_degreeOf_5 rfl h.s2 (ix_nI (by omega) (by omega)) (hT.1 t ht).1 ?_
  refine G_aload0 7 d_Mod_degreeOf_6 rfl ?_
  refine G_getR 10 d_Mod_degreeOf_7 rfl f_Mod_22 rfl h.sh h.f3 ?_
  refine G_iload1 11 d_Mod_degreeOf_10 rfl ?_
  refine G_ialoadv 12 d_Mod_degreeOf_11 rfl h.s3 (ix_nI (by omega) (by omega)) (hT.1 t ht).2.1 ?_
  first | refine G_iaddN 13 d_Mod_degreeOf_12 rfl ?_ | refine G_iadd 13 d_Mod_degreeOf_12 rfl ?_
  refine G_aload0 14 d_Mod_degreeOf_13 rfl ?_
  refine G_getR 17 d_Mod_degreeOf_14 rfl f_Mod_25 rfl h.sh h.f4 ?_
  refine G_iload1 18 d_Mod_degreeOf_17 rfl ?_
  refine G_ialoadv 19 d_Mod_degreeOf_18 rfl h.s4 (ix_nI (by omega) (by omega)) (hT.1 t ht).2.2 ?_
  first | refine G_iaddN 20 d_Mod_degreeOf_19 rfl ?_ | refine G_iadd 20 d_Mod_degreeOf_19 rfl ?_
  refine G_iret d_Mod_degreeOf_20 rfl ?_
  exact Pd.rf
theorem s_mSize {V : GV} {d : Nat} {x : Int64} {X : XT} {FI AI : FT} {AL : LT} : G V m_Mod_size d 0 [some (.long x), none] [] X FI AI AL (Pd (some (.long (labs x))) X FI AI AL) := by
  refine G_lload0 1 d_Mod_size_0 rfl ?_
  refine G_lconst 0 2 d_Mod_size_1 rfl rfl ?_
  refine G_lcge 11 6 d_Mod_size_2 d_Mod_size_3 rfl rfl (fun h2 => ?_) (fun h2 => ?_)
  · refine G_lload0 12 d_Mod_size_11 rfl ?_
    refine G_lret d_Mod_size_12 rfl ?_
    exact ⟨by unfold labs; simp [h2], rfl, rfl, rfl, rfl⟩
  · refine G_lload0 7 d_Mod_size_6 rfl ?_
    refine G_lneg 8 d_Mod_size_7 rfl ?_
    refine G_goto 12 d_Mod_size_8 rfl ?_
    refine G_lret d_Mod_size_12 rfl ?_
    exact ⟨by unfold labs; simp [h2], rfl, rfl, rfl, rfl⟩
theorem s_mPlusUp {V : GV} {d : Nat} {x y : Int64} {X : XT} {FI AI : FT} {AL : LT} : G V m_Mod_plusUp d 0 [some (.long x), none, some (.long y), none] [] X FI AI AL (Pd (some (.long (sumA x y))) X FI AI AL) := by
  refine G_lload0 1 d_Mod_plusUp_0 rfl ?_
  refine G_lconst 0 2 d_Mod_plusUp_1 rfl rfl ?_
  refine G_lclt 22 6 d_Mod_plusUp_2 d_Mod_plusUp_3 rfl rfl (fun h2 => ?_) (fun h2 => ?_)
  · refine G_ldc2 25 d_Mod_plusUp_22 rfl k_Mod_145 ?_
    refine G_goto 31 d_Mod_plusUp_25 rfl ?_
    refine G_lret d_Mod_plusUp_31 rfl ?_
    exact ⟨by unfold sumA; simp [*], rfl, rfl, rfl, rfl⟩
  · refine G_lload2 7 d_Mod_plusUp_6 rfl ?_
    refine G_lconst 0 8 d_Mod_plusUp_7 rfl rfl ?_
    refine G_lclt 22 12 d_Mod_plusUp_8 d_Mod_plusUp_9 rfl rfl (fun h8 => ?_) (fun h8 => ?_)
    · refine G_ldc2 25 d_Mod_plusUp_22 rfl k_Mod_145 ?_
      refine G_goto 31 d_Mod_plusUp_25 rfl ?_
      refine G_lret d_Mod_plusUp_31 rfl ?_
      exact ⟨by unfold sumA; simp [*], rfl, rfl, rfl, rfl⟩
    · refine G_lload0 13 d_Mod_plusUp_12 rfl ?_
      refine G_ldc2 16 d_Mod_plusUp_13 rfl k_Mod_143 ?_
      refine G_lload2 17 d_Mod_plusUp_16 rfl ?_
      refine G_lsub 18 d_Mod_plusUp_17 rfl ?_
      refine G_lcle 28 22 d_Mod_plusUp_18 d_Mod_plusUp_19 rfl rfl (fun h18 => ?_) (fun h18 => ?_)
      · refine G_lload0 29 d_Mod_plusUp_28 rfl ?_
        refine G_lload2 30 d_Mod_plusUp_29 rfl ?_
        refine G_ladd 31 d_Mod_plusUp_30 rfl ?_
        refine G_lret d_Mod_plusUp_31 rfl ?_
        exact ⟨by unfold sumA; simp [*], rfl, rfl, rfl, rfl⟩
      · refine G_ldc2 25 d_Mod_plusUp_22 rfl k_Mod_145 ?_
        refine G_goto 31 d_Mod_plusUp_25 rfl ?_
        refine G_lret d_Mod_plusUp_31 rfl ?_
        exact ⟨by unfold sumA; simp [*], rfl, rfl, rfl, rfl⟩
theorem s_mTimesUp {V : GV} {d : Nat} {x y : Int64} {X : XT} {FI AI : FT} {AL : LT} : G V m_Mod_timesUp d 0 [some (.long x), none, some (.long y), none] [] X FI AI AL (Pd (some (.long (prodA x y))) X FI AI AL) := by
  refine G_lload0 1 d_Mod_timesUp_0 rfl ?_
  refine G_lconst 0 2 d_Mod_timesUp_1 rfl rfl ?_
  refine G_lceq 12 6 d_Mod_timesUp_2 d_Mod_timesUp_3 rfl rfl (fun h2 => ?_) (fun h2 => ?_)
  · refine G_lconst 0 13 d_Mod_timesUp_12 rfl rfl ?_
    refine G_lret d_Mod_timesUp_13 rfl ?_
    exact ⟨by unfold prodA; simp [*], rfl, rfl, rfl, rfl⟩
  · refine G_lload2 7 d_Mod_timesUp_6 rfl ?_
    refine G_lconst 0 8 d_Mod_timesUp_7 rfl rfl ?_
    refine G_lcne 14 12 d_Mod_timesUp_8 d_Mod_timesUp_9 rfl rfl (fun h8 => ?_) (fun h8 => ?_)
    · refine G_lload0 15 d_Mod_timesUp_14 rfl ?_
      refine G_lconst 0 16 d_Mod_timesUp_15 rfl rfl ?_
      refine G_lclt 36 20 d_Mod_timesUp_16 d_Mod_timesUp_17 rfl rfl (fun h16 => ?_) (fun h16 => ?_)
      · refine G_ldc2 39 d_Mod_timesUp_36 rfl k_Mod_145 ?_
        refine G_goto 45 d_Mod_timesUp_39 rfl ?_
        refine G_lret d_Mod_timesUp_45 rfl ?_
        exact ⟨by unfold prodA; simp [*], rfl, rfl, rfl, rfl⟩
      · refine G_lload2 21 d_Mod_timesUp_20 rfl ?_
        refine G_lconst 0 22 d_Mod_timesUp_21 rfl rfl ?_
        refine G_lclt 36 26 d_Mod_timesUp_22 d_Mod_timesUp_23 rfl rfl (fun h22 => ?_) (fun h22 => ?_)
        · refine G_ldc2 39 d_Mod_timesUp_36 rfl k_Mod_145 ?_
          refine G_goto 45 d_Mod_timesUp_39 rfl ?_
          refine G_lret d_Mod_timesUp_45 rfl ?_
          exact ⟨by unfold prodA; simp [*], rfl, rfl, rfl, rfl⟩
        · refine G_lload0 27 d_Mod_timesUp_26 rfl ?_
          refine G_ldc2 30 d_Mod_timesUp_27 rfl k_Mod_143 ?_
          refine G_lload2 31 d_Mod_timesUp_30 rfl ?_
          refine G_ldiv 32 d_Mod_timesUp_31 rfl (by assumption) ?_
          refine G_lcle 42 36 d_Mod_timesUp_32 d_Mod_timesUp_33 rfl rfl (fun h32 => ?_) (fun h32 => ?_)
          · refine G_lload0 43 d_Mod_timesUp_42 rfl ?_
            refine G_lload2 44 d_Mod_timesUp_43 rfl ?_
            refine G_lmul 45 d_Mod_timesUp_44 rfl ?_
            refine G_lret d_Mod_timesUp_45 rfl ?_
            exact ⟨by unfold prodA; simp [*], rfl, rfl, rfl, rfl⟩
          · refine G_ldc2 39 d_Mod_timesUp_36 rfl k_Mod_145 ?_
            refine G_goto 45 d_Mod_timesUp_39 rfl ?_
            refine G_lret d_Mod_timesUp_45 rfl ?_
            exact ⟨by unfold prodA; simp [*], rfl, rfl, rfl, rfl⟩
    · refine G_lconst 0 13 d_Mod_timesUp_12 rfl rfl ?_
      refine G_lret d_Mod_timesUp_13 rfl ?_
      exact ⟨by unfold prodA; simp [*], rfl, rfl, rfl, rfl⟩
theorem s_mNorm {V : GV} {d b p : Nat} {X : XT} {FI AI : FT} {AL : LT} (h : MO X b) (hp : p < 20) : G V m_Mod_normOf (d + 1) 0 [some (.ref b), some (.int (nI p)), none, none, none] [] X FI AI AL (Pd (some (.long (norm (mp AL b p)))) X FI AI AL) := by
  have L : ∀ k, k ≤ 84 → G V m_Mod_normOf (d + 1) 5 [some (.ref b), some (.int (nI p)), some (.long (psum (mp AL b p) k)), none, some (.int (nI k))] [] X FI AI AL (Pd (some (.long (norm (mp AL b p)))) X FI AI AL) := by
    refine upto ?_ ?_
    · refine G_iload4 7 d_Mod_normOf_5 rfl ?_
      refine G_bipushN 84 9 d_Mod_normOf_7 rfl rfl ?_
      first | refine G_icgeN 36 12 d_Mod_normOf_9 rfl rfl (by omega) (by omega) (fun h9 => ?_) (fun h9 => ?_) | refine G_icge 36 12 d_Mod_normOf_9 rfl rfl (fun h9 => ?_) (fun h9 => ?_)
      · refine G_lload2 37 d_Mod_normOf_36 rfl ?_
        refine G_lret d_Mod_normOf_37 rfl ?_
        exact Pd.rf
      · omega
    · intro k hk ih
      rw [psum, mp_at hk] at ih
      refine G_iload4 7 d_Mod_normOf_5 rfl ?_
      refine G_bipushN 84 9 d_Mod_normOf_7 rfl rfl ?_
      first | refine G_icgeN 36 12 d_Mod_normOf_9 rfl rfl (by omega) (by omega) (fun h9 => ?_) (fun h9 => ?_) | refine G_icge 36 12 d_Mod_normOf_9 rfl rfl (fun h9 => ?_) (fun h9 => ?_)
      · omega
      · refine G_lload2 13 d_Mod_normOf_12 rfl ?_
        refine G_aload0 14 d_Mod_normOf_13 rfl ?_
        refine G_getR 17 d_Mod_normOf_14 rfl f_Mod_9 rfl h.sh h.f0 ?_
        refine G_bipushN 84 19 d_Mod_normOf_17 rfl rfl ?_
        refine G_iload1 20 d_Mod_normOf_19 rfl ?_
        first | refine G_imulN 21 d_Mod_normOf_20 rfl ?_ | refine G_imul 21 d_Mod_normOf_20 rfl ?_
        refine G_iload4 23 d_Mod_normOf_21 rfl ?_
        first | refine G_iaddN 24 d_Mod_normOf_23 rfl ?_ | refine G_iadd 24 d_Mod_normOf_23 rfl ?_
        refine G_laload 25 d_Mod_normOf_24 rfl h.s0 (ix_nI (by omega) (by omega)) ?_
        refine G_invS1d 28 d_Mod_normOf_25 rfl e_Mod_158 M_Mod_size (Nat.le_of_ble_eq_true rfl) (Nat.le_of_ble_eq_true rfl) rfl (s_mSize) ?_
        refine G_ladd 29 d_Mod_normOf_28 rfl ?_
        refine G_lstore2 30 d_Mod_normOf_29 rfl (by decide) rfl ?_
        first | refine G_iincN4 33 d_Mod_normOf_30 rfl (by decide) rfl ?_ | refine G_iinc4 _ 33 d_Mod_normOf_30 rfl (by decide) rfl rfl ?_
        refine G_goto 5 d_Mod_normOf_33 rfl ?_
        exact ih
  refine G_lconst 0 1 d_Mod_normOf_0 rfl rfl ?_
  refine G_lstore2 2 d_Mod_normOf_1 rfl (by decide) rfl ?_
  refine G_iconstN 0 3 d_Mod_normOf_2 rfl rfl ?_
  refine G_istore4 5 d_Mod_normOf_3 rfl (by decide) rfl ?_
  exact L 0 (by omega)
theorem s_mTerms {V : GV} {d b p : Nat} {X : XT} {FI AI : FT} {AL : LT} (h : MO X b) (hp : p < 20) : G V m_Mod_termsIn d 0 [some (.ref b), some (.int (nI p)), none, none] [] X FI AI AL (Pd (some (.int (nI (cnt (mp AL b p))))) X FI AI AL) := by
  have L : ∀ k, k ≤ 84 → G V m_Mod_termsIn d 4 [some (.ref b), some (.int (nI p)), some (.int (nI (pcnt (mp AL b p) k))), some (.int (nI k))] [] X FI AI AL (Pd (some (.int (nI (cnt (mp AL b p))))) X FI AI AL) := by
    refine upto ?_ ?_
    · refine G_iload3 5 d_Mod_termsIn_4 rfl ?_
      refine G_bipushN 84 7 d_Mod_termsIn_5 rfl rfl ?_
      first | refine G_icgeN 40 10 d_Mod_termsIn_7 rfl rfl (by omega) (by omega) (fun h7 => ?_) (fun h7 => ?_) | refine G_icge 40 10 d_Mod_termsIn_7 rfl rfl (fun h7 => ?_) (fun h7 => ?_)
      · refine G_iload2 41 d_Mod_termsIn_40 rfl ?_
        refine G_iret d_Mod_termsIn_41 rfl ?_
        exact Pd.rf
      · omega
    · intro k hk ih
      rw [pcnt, mp_at hk] at ih
      refine G_iload3 5 d_Mod_termsIn_4 rfl ?_
      refine G_bipushN 84 7 d_Mod_termsIn_5 rfl rfl ?_
      first | refine G_icgeN 40 10 d_Mod_termsIn_7 rfl rfl (by omega) (by omega) (fun h7 => ?_) (fun h7 => ?_) | refine G_icge 40 10 d_Mod_termsIn_7 rfl rfl (fun h7 => ?_) (fun h7 => ?_)
      · omega
      · refine G_iload2 11 d_Mod_termsIn_10 rfl ?_
        refine G_aload0 12 d_Mod_termsIn_11 rfl ?_
        refine G_getR 15 d_Mod_termsIn_12 rfl f_Mod_9 rfl h.sh h.f0 ?_
        refine G_bipushN 84 17 d_Mod_termsIn_15 rfl rfl ?_
        refine G_iload1 18 d_Mod_termsIn_17 rfl ?_
        first | refine G_imulN 19 d_Mod_termsIn_18 rfl ?_ | refine G_imul 19 d_Mod_termsIn_18 rfl ?_
        refine G_iload3 20 d_Mod_termsIn_19 rfl ?_
        first | refine G_iaddN 21 d_Mod_termsIn_20 rfl ?_ | refine G_iadd 21 d_Mod_termsIn_20 rfl ?_
        refine G_laload 22 d_Mod_termsIn_21 rfl h.s0 (ix_nI (by omega) (by omega)) ?_
        refine G_lconst 0 23 d_Mod_termsIn_22 rfl rfl ?_
        refine G_lceq 31 27 d_Mod_termsIn_23 d_Mod_termsIn_24 rfl rfl (fun h23 => ?_) (fun h23 => ?_)
        · rw [if_pos h23] at ih
          refine G_iconstN 0 32 d_Mod_termsIn_31 rfl rfl ?_
          first | refine G_iaddN 33 d_Mod_termsIn_32 rfl ?_ | refine G_iadd 33 d_Mod_termsIn_32 rfl ?_
          refine G_istore2 34 d_Mod_termsIn_33 rfl (by decide) rfl ?_
          first | refine G_iincN3 37 d_Mod_termsIn_34 rfl (by decide) rfl ?_ | refine G_iinc3 _ 37 d_Mod_termsIn_34 rfl (by decide) rfl rfl ?_
          refine G_goto 4 d_Mod_termsIn_37 rfl ?_
          exact ih
        · rw [if_neg h23] at ih
          refine G_iconstN 1 28 d_Mod_termsIn_27 rfl rfl ?_
          refine G_goto 32 d_Mod_termsIn_28 rfl ?_
          first | refine G_iaddN 33 d_Mod_termsIn_32 rfl ?_ | refine G_iadd 33 d_Mod_termsIn_32 rfl ?_
          refine G_istore2 34 d_Mod_termsIn_33 rfl (by decide) rfl ?_
          first | refine G_iincN3 37 d_Mod_termsIn_34 rfl (by decide) rfl ?_ | refine G_iinc3 _ 37 d_Mod_termsIn_34 rfl (by decide) rfl rfl ?_
          refine G_goto 4 d_Mod_termsIn_37 rfl ?_
          exact ih
  refine G_iconstN 0 1 d_Mod_termsIn_0 rfl rfl ?_
  refine G_istore2 2 d_Mod_termsIn_1 rfl (by decide) rfl ?_
  refine G_iconstN 0 3 d_Mod_termsIn_2 rfl rfl ?_
  refine G_istore3 4 d_Mod_termsIn_3 rfl (by decide) rfl ?_
  exact L 0 (by omega)
theorem s_mLeading {V : GV} {d b p o : Nat} {X : XT} {FI AI : FT} {AL : LT} (h : MO X b) (hp : p < 20) (ho : o < 3) (hf : ∀ k, k < 84 → AI (b + 7) k = nI (rk o k)) : G V m_Mod_leading d 0 [some (.ref b), some (.int (nI p)), none] [] X FI AI AL (Pd (some (.int (dI (lead1 (mp AL b p) o)))) X FI AI AL) := by
  have L : ∀ k, k ≤ 84 → pld (mp AL b p) o k = lead1 (mp AL b p) o → G V m_Mod_leading d 3 [some (.ref b), some (.int (nI p)), some (.int (dI k))] [] X FI AI AL (Pd (some (.int (dI (lead1 (mp AL b p) o)))) X FI AI AL) := by
    refine downto ?_ ?_
    · intro _ hk
      refine G_iload2 4 d_Mod_leading_3 rfl ?_
      first | refine G_ifltD 41 7 d_Mod_leading_4 rfl rfl (by omega) (fun h4 => ?_) (fun j h4 => ?_) | refine G_iflt 41 7 d_Mod_leading_4 rfl rfl (fun h4 => ?_) (fun h4 => ?_)
      · refine G_iconst (-1) 42 d_Mod_leading_41 rfl rfl ?_
        refine G_iret d_Mod_leading_42 rfl ?_
        exact ⟨by rw [← hk]; rfl, rfl, rfl, rfl, rfl⟩
      · omega
    · intro k ih hk hd
      have e1 := hf k (by omega)
      have e2 := (rk_ok o ho k (by omega)).2.2.1
      rw [pld, mp_at e2] at hd
      rw [dI_s]
      refine G_iload2 4 d_Mod_leading_3 rfl ?_
      first | refine G_ifltD 41 7 d_Mod_leading_4 rfl rfl (by omega) (fun h4 => ?_) (fun j h4 => ?_) | refine G_iflt 41 7 d_Mod_leading_4 rfl rfl (fun h4 => ?_) (fun h4 => ?_)
      · exact absurd h4 (nI_pos (by omega))
      · refine G_aload0 8 d_Mod_leading_7 rfl ?_
        refine G_getR 11 d_Mod_leading_8 rfl f_Mod_9 rfl h.sh h.f0 ?_
        refine G_bipushN 84 13 d_Mod_leading_11 rfl rfl ?_
        refine G_iload1 14 d_Mod_leading_13 rfl ?_
        first | refine G_imulN 15 d_Mod_leading_14 rfl ?_ | refine G_imul 15 d_Mod_leading_14 rfl ?_
        refine G_aload0 16 d_Mod_leading_15 rfl ?_
        refine G_getR 19 d_Mod_leading_16 rfl f_Mod_31 rfl h.sh h.f6 ?_
        refine G_iload2 20 d_Mod_leading_19 rfl ?_
        refine G_ialoadv 21 d_Mod_leading_20 rfl h.s6 (ix_nI (by omega) (by omega)) e1 ?_
        first | refine G_iaddN 22 d_Mod_leading_21 rfl ?_ | refine G_iadd 22 d_Mod_leading_21 rfl ?_
        refine G_laload 23 d_Mod_leading_22 rfl h.s0 (ix_nI (by omega) (by omega)) ?_
        refine G_lconst 0 24 d_Mod_leading_23 rfl rfl ?_
        refine G_lceq 35 28 d_Mod_leading_24 d_Mod_leading_25 rfl rfl (fun h24 => ?_) (fun h24 => ?_)
        · rw [if_pos h24] at hd
          first | refine G_iinc2 _ 38 d_Mod_leading_35 rfl (by decide) rfl (dI_m1 _) ?_ | refine G_iinc2 _ 38 d_Mod_leading_35 rfl (by decide) rfl rfl ?_
          refine G_goto 3 d_Mod_leading_38 rfl ?_
          exact ih (by omega) hd
        · rw [if_neg h24] at hd
          refine G_aload0 29 d_Mod_leading_28 rfl ?_
          refine G_getR 32 d_Mod_leading_29 rfl f_Mod_31 rfl h.sh h.f6 ?_
          refine G_iload2 33 d_Mod_leading_32 rfl ?_
          refine G_ialoadv 34 d_Mod_leading_33 rfl h.s6 (ix_nI (by omega) (by omega)) e1 ?_
          refine G_iret d_Mod_leading_34 rfl ?_
          exact ⟨by rw [← hd, dI_s], rfl, rfl, rfl, rfl⟩
  refine G_bipushN 83 2 d_Mod_leading_0 rfl rfl ?_
  refine G_istore2 3 d_Mod_leading_2 rfl (by decide) rfl ?_
  have := L 84 (by omega) rfl
  rw [dI_s] at this
  exact this
