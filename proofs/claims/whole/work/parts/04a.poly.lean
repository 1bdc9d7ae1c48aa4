/-! ===== Math, and the POLYNOMIALS of the class ===== -/
def labs (x : Int64) : Int64 := if x < 0 then -x else x
def iabs (x : Int32) : Int32 := if x < 0 then -x else x
theorem s_labs {V : GV} {d : Nat} {x : Int64} {X : XT} {FI AI : FT} {AL : LT} : G V m_Math_abs_JJ d 0 [some (.long x), none] [] X FI AI AL (Pd (some (.long (labs x))) X FI AI AL) := by
  refine G_lload0 1 d_Math_abs_JJ_0 rfl ?_
  refine G_lconst 0 2 d_Math_abs_JJ_1 rfl rfl ?_
  refine G_lcge 11 6 d_Math_abs_JJ_2 d_Math_abs_JJ_3 rfl rfl (fun h2 => ?_) (fun h2 => ?_)
  · refine G_lload0 12 d_Math_abs_JJ_11 rfl ?_
    refine G_lret d_Math_abs_JJ_12 rfl ?_
    exact ⟨by simp only [labs, h2, if_false], rfl, rfl, rfl, rfl⟩
  · refine G_lload0 7 d_Math_abs_JJ_6 rfl ?_
    refine G_lneg 8 d_Math_abs_JJ_7 rfl ?_
    refine G_goto 12 d_Math_abs_JJ_8 rfl ?_
    refine G_lret d_Math_abs_JJ_12 rfl ?_
    exact ⟨by simp only [labs, h2, if_true], rfl, rfl, rfl, rfl⟩
/-- NORM, as both sides add it up -/
def psum (f : Nat → Int64) : Nat → Int64
  | 0 => 0
  | k + 1 => psum f k + labs (f k)
def norm (f : Nat → Int64) : Int64 := psum f 84
theorem s_norm {V : GV} {d p q : Nat} {X : XT} {FI AI : FT} {AL : LT} (h1 : x_sh X p = some (14, 1)) (h2 : x_FR X p 0 = some q) (h3 : x_sh X q = some (1, 84)) : G V m_Poly_normNow (d + 1) 0 [some (.ref p), none, none, none] [] X FI AI AL (Pd (some (.long (norm (AL q)))) X FI AI AL) := by
  have L : ∀ k, k ≤ 84 → G V m_Poly_normNow (d + 1) 4 [some (.ref p), some (.long (psum (AL q) k)), none, some (.int (nI k))] [] X FI AI AL (Pd (some (.long (norm (AL q)))) X FI AI AL) := by
    refine upto ?_ ?_
    · refine G_iload3 5 d_Poly_normNow_4 rfl ?_
      refine G_bipushN 84 7 d_Poly_normNow_5 rfl rfl ?_
      first | refine G_icgeN 28 10 d_Poly_normNow_7 rfl rfl (by omega) (by omega) (fun h7 => ?_) (fun h7 => ?_) | refine G_icge 28 10 d_Poly_normNow_7 rfl rfl (fun h7 => ?_) (fun h7 => ?_)
      · refine G_lload1 29 d_Poly_normNow_28 rfl ?_
        refine G_lret d_Poly_normNow_29 rfl ?_
        exact Pd.rf
      · omega
    · intro k hk ih
      refine G_iload3 5 d_Poly_normNow_4 rfl ?_
      refine G_bipushN 84 7 d_Poly_normNow_5 rfl rfl ?_
      first | refine G_icgeN 28 10 d_Poly_normNow_7 rfl rfl (by omega) (by omega) (fun h7 => ?_) (fun h7 => ?_) | refine G_icge 28 10 d_Poly_normNow_7 rfl rfl (fun h7 => ?_) (fun h7 => ?_)
      · omega
      · refine G_lload1 11 d_Poly_normNow_10 rfl ?_
        refine G_aload0 12 d_Poly_normNow_11 rfl ?_
        refine G_getR 15 d_Poly_normNow_12 rfl f_Poly_9 rfl (by assumption) (by assumption) ?_
        refine G_iload3 16 d_Poly_normNow_15 rfl ?_
        refine G_laload 17 d_Poly_normNow_16 rfl (by assumption) (ix_nI (by omega) (by omega)) ?_
        refine G_invS1d 20 d_Poly_normNow_17 rfl e_Poly_39 M_Math_abs_JJ (Nat.le_of_ble_eq_true rfl) (Nat.le_of_ble_eq_true rfl) rfl (s_labs) ?_
        refine G_ladd 21 d_Poly_normNow_20 rfl ?_
        refine G_lstore1 22 d_Poly_normNow_21 rfl (by decide) rfl ?_
        first | refine G_iincN3 25 d_Poly_normNow_22 rfl (by decide) rfl ?_ | refine G_iinc3 _ 25 d_Poly_normNow_22 rfl (by decide) rfl rfl ?_
        refine G_goto 4 d_Poly_normNow_25 rfl ?_
        exact ih
  refine G_lconst 0 1 d_Poly_normNow_0 rfl rfl ?_
  refine G_lstore1 2 d_Poly_normNow_1 rfl (by decide) rfl ?_
  refine G_iconstN 0 3 d_Poly_normNow_2 rfl rfl ?_
  refine G_istore3 4 d_Poly_normNow_3 rfl (by decide) rfl ?_
  exact L 0 (by omega)
