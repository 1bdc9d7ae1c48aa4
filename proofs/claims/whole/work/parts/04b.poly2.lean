/-! ===== POLYNOMIALS of the class, further ===== -/
/-- a POLYNOMIAL object p with its row q -/
def PO (X : XT) (p q : Nat) : Prop := x_sh X p = some (14, 1) ∧ x_FR X p 0 = some q ∧ x_sh X q = some (1, 84)
theorem s_norm' {V : GV} {d p q : Nat} {X : XT} {FI AI : FT} {AL : LT} (h : PO X p q) : G V m_Poly_normNow (d + 1) 0 [some (.ref p), none, none, none] [] X FI AI AL (Pd (some (.long (norm (AL q)))) X FI AI AL) := s_norm h.1 h.2.1 h.2.2
theorem s_becomeZero {V : GV} {d p q : Nat} {X : XT} {FI AI : FT} {AL : LT} (h : PO X p q) : G V m_Poly_becomeZero (d + 1) 0 [some (.ref p)] [] X FI AI AL (Pd none X FI AI (sr AL q (fun _ => 0))) := by
  obtain ⟨h1, h2, h3⟩ := h
  refine G_aload0 1 d_Poly_becomeZero_0 rfl ?_
  refine G_getR 4 d_Poly_becomeZero_1 rfl f_Poly_9 rfl (by assumption) (by assumption) ?_
  refine G_lconst 0 5 d_Poly_becomeZero_4 rfl rfl ?_
  refine G_invS2v 8 d_Poly_becomeZero_5 rfl e_Poly_15 M_Arr_fill_AJJV (Nat.le_of_ble_eq_true rfl) (Nat.le_of_ble_eq_true rfl) rfl (s_fillL (by assumption) (by omega)) ?_
  refine G_vret d_Poly_becomeZero_8 rfl ?_
  exact Pd.rf
theorem s_becomeLike {V : GV} {d p q p2 q2 : Nat} {X : XT} {FI AI : FT} {AL : LT} (h : PO X p q) (h' : PO X p2 q2) : G V m_Poly_becomeLike (d + 1) 0 [some (.ref p), some (.ref p2)] [] X FI AI AL (Pd none X FI AI (sr AL q (AL q2))) := by
  obtain ⟨h1, h2, h3⟩ := h
  obtain ⟨g1, g2, g3⟩ := h'
  refine G_aload1 1 d_Poly_becomeLike_0 rfl ?_
  refine G_getR 4 d_Poly_becomeLike_1 rfl f_Poly_9 rfl (by assumption) (by assumption) ?_
  refine G_iconstN 0 5 d_Poly_becomeLike_4 rfl rfl ?_
  refine G_aload0 6 d_Poly_becomeLike_5 rfl ?_
  refine G_getR 9 d_Poly_becomeLike_6 rfl f_Poly_9 rfl (by assumption) (by assumption) ?_
  refine G_iconstN 0 10 d_Poly_becomeLike_9 rfl rfl ?_
  refine G_bipushN 84 12 d_Poly_becomeLike_10 rfl rfl ?_
  refine G_copyL 15 d_Poly_becomeLike_12 rfl e_Poly_21 g3 h3 (by omega) (by omega) (by omega) (by omega) (Nat.le_of_ble_eq_true rfl) ?_
  refine G.al (sr AL q (AL q2)) (fun a n ha j hj => ?_) ?_
  · by_cases e : a = q
    · subst e
      rw [h3] at ha
      cases ha
      rw [cp2_row, sr_at]
      simp [va_cpy, hj]
    · rw [cp2_off _ e, sr_ne _ _ e]
  refine G_vret d_Poly_becomeLike_15 rfl ?_
  exact Pd.rf
def like (f g : Nat → Int64) : Prop := ∀ j, j < 84 → f j = g j
theorem s_isLike {V : GV} {d p q p2 q2 : Nat} {X : XT} {FI AI : FT} {AL : LT} (h : PO X p q) (h' : PO X p2 q2) : G V m_Poly_isLike d 0 [some (.ref p), some (.ref p2), none] [] X FI AI AL (fun r X' FI' AI' AL' => ∃ b : Bool, Pd (some (.int (if b then 1 else 0))) X FI AI AL r X' FI' AI' AL' ∧ (b = true ↔ like (AL q) (AL q2))) := by
  obtain ⟨h1, h2, h3⟩ := h
  obtain ⟨g1, g2, g3⟩ := h'
  have L : ∀ k, k ≤ 84 → (∀ j, j < k → AL q j = AL q2 j) → G V m_Poly_isLike d 2 [some (.ref p), some (.ref p2), some (.int (nI k))] [] X FI AI AL (fun r X' FI' AI' AL' => ∃ b : Bool, Pd (some (.int (if b then 1 else 0))) X FI AI AL r X' FI' AI' AL' ∧ (b = true ↔ like (AL q) (AL q2))) := by
    refine upto ?_ ?_
    · intro hA
      refine G_iload2 3 d_Poly_isLike_2 rfl ?_
      refine G_bipushN 84 5 d_Poly_isLike_3 rfl rfl ?_
      first | refine G_icgeN 32 8 d_Poly_isLike_5 rfl rfl (by omega) (by omega) (fun h5 => ?_) (fun h5 => ?_) | refine G_icge 32 8 d_Poly_isLike_5 rfl rfl (fun h5 => ?_) (fun h5 => ?_)
      · refine G_iconstN 1 33 d_Poly_isLike_32 rfl rfl ?_
        refine G_zret d_Poly_isLike_33 rfl ?_ ?_
        · exact Or.inr rfl
        · exact ⟨true, Pd.rf, ⟨fun _ => hA, fun _ => rfl⟩⟩
      · omega
    · intro k hk ih hA
      refine G_iload2 3 d_Poly_isLike_2 rfl ?_
      refine G_bipushN 84 5 d_Poly_isLike_3 rfl rfl ?_
      first | refine G_icgeN 32 8 d_Poly_isLike_5 rfl rfl (by omega) (by omega) (fun h5 => ?_) (fun h5 => ?_) | refine G_icge 32 8 d_Poly_isLike_5 rfl rfl (fun h5 => ?_) (fun h5 => ?_)
      · omega
      · refine G_aload0 9 d_Poly_isLike_8 rfl ?_
        refine G_getR 12 d_Poly_isLike_9 rfl f_Poly_9 rfl (by assumption) (by assumption) ?_
        refine G_iload2 13 d_Poly_isLike_12 rfl ?_
        refine G_laload 14 d_Poly_isLike_13 rfl (by assumption) (ix_nI (by omega) (by omega)) ?_
        refine G_aload1 15 d_Poly_isLike_14 rfl ?_
        refine G_getR 18 d_Poly_isLike_15 rfl f_Poly_9 rfl (by assumption) (by assumption) ?_
        refine G_iload2 19 d_Poly_isLike_18 rfl ?_
        refine G_laload 20 d_Poly_isLike_19 rfl (by assumption) (ix_nI (by omega) (by omega)) ?_
        refine G_lceq 26 24 d_Poly_isLike_20 d_Poly_isLike_21 rfl rfl (fun h20 => ?_) (fun h20 => ?_)
        · first | refine G_iincN2 29 d_Poly_isLike_26 rfl (by decide) rfl ?_ | refine G_iinc2 _ 29 d_Poly_isLike_26 rfl (by decide) rfl rfl ?_
          refine G_goto 2 d_Poly_isLike_29 rfl ?_
          refine ih (fun j hj => ?_)
          by_cases e : j = k
          · subst e; exact h20
          · exact hA j (by omega)
        · refine G_iconstN 0 25 d_Poly_isLike_24 rfl rfl ?_
          refine G_zret d_Poly_isLike_25 rfl ?_ ?_
          · exact Or.inl rfl
          · exact ⟨false, Pd.rf, ⟨fun h => (by cases h), fun h => absurd (h k hk) h20⟩⟩
  refine G_iconstN 0 1 d_Poly_isLike_0 rfl rfl ?_
  refine G_istore2 2 d_Poly_isLike_1 rfl (by decide) rfl ?_
  exact L 0 (by omega) (fun j hj => absurd hj (by omega))
/-- how many TERMS -/
def pcnt (f : Nat → Int64) : Nat → Nat
  | 0 => 0
  | k + 1 => pcnt f k + (if f k = 0 then 0 else 1)
def cnt (f : Nat → Int64) : Nat := pcnt f 84
theorem s_termCount {V : GV} {d p q : Nat} {X : XT} {FI AI : FT} {AL : LT} (h : PO X p q) : G V m_Poly_termCount d 0 [some (.ref p), none, none] [] X FI AI AL (Pd (some (.int (nI (cnt (AL q))))) X FI AI AL) := by
  obtain ⟨h1, h2, h3⟩ := h
  have L : ∀ k, k ≤ 84 → G V m_Poly_termCount d 4 [some (.ref p), some (.int (nI (pcnt (AL q) k))), some (.int (nI k))] [] X FI AI AL (Pd (some (.int (nI (cnt (AL q))))) X FI AI AL) := by
    refine upto ?_ ?_
    · refine G_iload2 5 d_Poly_termCount_4 rfl ?_
      refine G_bipushN 84 7 d_Poly_termCount_5 rfl rfl ?_
      first | refine G_icgeN 30 10 d_Poly_termCount_7 rfl rfl (by omega) (by omega) (fun h7 => ?_) (fun h7 => ?_) | refine G_icge 30 10 d_Poly_termCount_7 rfl rfl (fun h7 => ?_) (fun h7 => ?_)
      · refine G_iload1 31 d_Poly_termCount_30 rfl ?_
        refine G_iret d_Poly_termCount_31 rfl ?_
        exact Pd.rf
      · omega
    · intro k hk ih
      refine G_iload2 5 d_Poly_termCount_4 rfl ?_
      refine G_bipushN 84 7 d_Poly_termCount_5 rfl rfl ?_
      first | refine G_icgeN 30 10 d_Poly_termCount_7 rfl rfl (by omega) (by omega) (fun h7 => ?_) (fun h7 => ?_) | refine G_icge 30 10 d_Poly_termCount_7 rfl rfl (fun h7 => ?_) (fun h7 => ?_)
      · omega
      · refine G_aload0 11 d_Poly_termCount_10 rfl ?_
        refine G_getR 14 d_Poly_termCount_11 rfl f_Poly_9 rfl (by assumption) (by assumption) ?_
        refine G_iload2 15 d_Poly_termCount_14 rfl ?_
        refine G_laload 16 d_Poly_termCount_15 rfl (by assumption) (ix_nI (by omega) (by omega)) ?_
        refine G_lconst 0 17 d_Poly_termCount_16 rfl rfl ?_
        refine G_lceq 24 21 d_Poly_termCount_17 d_Poly_termCount_18 rfl rfl (fun h17 => ?_) (fun h17 => ?_)
        · first | refine G_iincN2 27 d_Poly_termCount_24 rfl (by decide) rfl ?_ | refine G_iinc2 _ 27 d_Poly_termCount_24 rfl (by decide) rfl rfl ?_
          refine G_goto 4 d_Poly_termCount_27 rfl ?_
          simp only [pcnt, h17, if_true, Nat.add_zero] at ih
          exact ih
        · first | refine G_iincN1 24 d_Poly_termCount_21 rfl (by decide) rfl ?_ | refine G_iinc1 _ 24 d_Poly_termCount_21 rfl (by decide) rfl rfl ?_
          first | refine G_iincN2 27 d_Poly_termCount_24 rfl (by decide) rfl ?_ | refine G_iinc2 _ 27 d_Poly_termCount_24 rfl (by decide) rfl rfl ?_
          refine G_goto 4 d_Poly_termCount_27 rfl ?_
          simp only [pcnt, h17, if_false] at ih
          exact ih
  refine G_iconstN 0 1 d_Poly_termCount_0 rfl rfl ?_
  refine G_istore1 2 d_Poly_termCount_1 rfl (by decide) rfl ?_
  refine G_iconstN 0 3 d_Poly_termCount_2 rfl rfl ?_
  refine G_istore2 4 d_Poly_termCount_3 rfl (by decide) rfl ?_
  exact L 0 (by omega)
theorem s_scaleBy {V : GV} {d p q : Nat} {c : Int64} {X : XT} {FI AI : FT} {AL : LT} (h : PO X p q) : G V m_Poly_scaleBy d 0 [some (.ref p), some (.long c), none, none] [] X FI AI AL (Pd none X FI AI (sr AL q (fun j => AL q j * c))) := by
  obtain ⟨h1, h2, h3⟩ := h
  have L : ∀ k, k ≤ 84 → G V m_Poly_scaleBy d 2 [some (.ref p), some (.long c), none, some (.int (nI k))] [] X FI AI (sr AL q (fun j => if j < k then AL q j * c else AL q j)) (Pd none X FI AI (sr AL q (fun j => AL q j * c))) := by
    refine upto ?_ ?_
    · refine G_iload3 3 d_Poly_scaleBy_2 rfl ?_
      refine G_bipushN 84 5 d_Poly_scaleBy_3 rfl rfl ?_
      first | refine G_icgeN 24 8 d_Poly_scaleBy_5 rfl rfl (by omega) (by omega) (fun h5 => ?_) (fun h5 => ?_) | refine G_icge 24 8 d_Poly_scaleBy_5 rfl rfl (fun h5 => ?_) (fun h5 => ?_)
      · refine G.row (fun j => AL q j * c) h3 (fun j hj => by simp [hj]) ?_
        refine G_vret d_Poly_scaleBy_24 rfl ?_
        exact Pd.rf
      · omega
    · intro k hk ih
      refine G_iload3 3 d_Poly_scaleBy_2 rfl ?_
      refine G_bipushN 84 5 d_Poly_scaleBy_3 rfl rfl ?_
      first | refine G_icgeN 24 8 d_Poly_scaleBy_5 rfl rfl (by omega) (by omega) (fun h5 => ?_) (fun h5 => ?_) | refine G_icge 24 8 d_Poly_scaleBy_5 rfl rfl (fun h5 => ?_) (fun h5 => ?_)
      · omega
      · refine G_aload0 9 d_Poly_scaleBy_8 rfl ?_
        refine G_getR 12 d_Poly_scaleBy_9 rfl f_Poly_9 rfl (by assumption) (by assumption) ?_
        refine G_iload3 13 d_Poly_scaleBy_12 rfl ?_
        refine G_dup2 14 d_Poly_scaleBy_13 rfl rfl rfl ?_
        refine G_laload 15 d_Poly_scaleBy_14 rfl (by assumption) (ix_nI (by omega) (by omega)) ?_
        refine G_lload1 16 d_Poly_scaleBy_15 rfl ?_
        refine G_lmul 17 d_Poly_scaleBy_16 rfl ?_
        refine G_lastore 18 d_Poly_scaleBy_17 rfl (by assumption) (ix_nI (by omega) (by omega)) ?_
        first | refine G_iincN3 21 d_Poly_scaleBy_18 rfl (by decide) rfl ?_ | refine G_iinc3 _ 21 d_Poly_scaleBy_18 rfl (by decide) rfl rfl ?_
        refine G_goto 2 d_Poly_scaleBy_21 rfl ?_
        rw [u2_sr, sr_at]
        refine G.row _ h3 (fun j hj => ?_) ih
        by_cases e : j = k
        · subst e; simp
        · by_cases e2 : j < k
          · simp [e, e2, Nat.lt_succ_of_lt e2]
          · simp [e, e2, show ¬ j < k + 1 by omega]
  refine G_iconstN 0 1 d_Poly_scaleBy_0 rfl rfl ?_
  refine G_istore3 2 d_Poly_scaleBy_1 rfl (by decide) rfl ?_
  have := L 0 (by omega)
  simp only [Nat.not_lt_zero, if_false, sr_self] at this
  exact this
theorem s_addMultiple {V : GV} {d p q p2 q2 : Nat} {c : Int64} {X : XT} {FI AI : FT} {AL : LT} (h : PO X p q) (h' : PO X p2 q2) : G V m_Poly_addMultiple d 0 [some (.ref p), some (.ref p2), some (.long c), none, none] [] X FI AI AL (Pd none X FI AI (sr AL q (fun j => AL q j + c * AL q2 j))) := by
  obtain ⟨h1, h2, h3⟩ := h
  obtain ⟨g1, g2, g3⟩ := h'
  have L : ∀ k, k ≤ 84 → G V m_Poly_addMultiple d 3 [some (.ref p), some (.ref p2), some (.long c), none, some (.int (nI k))] [] X FI AI (sr AL q (fun j => if j < k then AL q j + c * AL q2 j else AL q j)) (Pd none X FI AI (sr AL q (fun j => AL q j + c * AL q2 j))) := by
    refine upto ?_ ?_
    · refine G_iload4 5 d_Poly_addMultiple_3 rfl ?_
      refine G_bipushN 84 7 d_Poly_addMultiple_5 rfl rfl ?_
      first | refine G_icgeN 35 10 d_Poly_addMultiple_7 rfl rfl (by omega) (by omega) (fun h7 => ?_) (fun h7 => ?_) | refine G_icge 35 10 d_Poly_addMultiple_7 rfl rfl (fun h7 => ?_) (fun h7 => ?_)
      · refine G.row (fun j => AL q j + c * AL q2 j) h3 (fun j hj => by simp [hj]) ?_
        refine G_vret d_Poly_addMultiple_35 rfl ?_
        exact Pd.rf
      · omega
    · intro k hk ih
      refine G_iload4 5 d_Poly_addMultiple_3 rfl ?_
      refine G_bipushN 84 7 d_Poly_addMultiple_5 rfl rfl ?_
      first | refine G_icgeN 35 10 d_Poly_addMultiple_7 rfl rfl (by omega) (by omega) (fun h7 => ?_) (fun h7 => ?_) | refine G_icge 35 10 d_Poly_addMultiple_7 rfl rfl (fun h7 => ?_) (fun h7 => ?_)
      · omega
      · refine G_aload0 11 d_Poly_addMultiple_10 rfl ?_
        refine G_getR 14 d_Poly_addMultiple_11 rfl f_Poly_9 rfl (by assumption) (by assumption) ?_
        refine G_iload4 16 d_Poly_addMultiple_14 rfl ?_
        refine G_dup2 17 d_Poly_addMultiple_16 rfl rfl rfl ?_
        refine G_laload 18 d_Poly_addMultiple_17 rfl (by assumption) (ix_nI (by omega) (by omega)) ?_
        refine G_lload2 19 d_Poly_addMultiple_18 rfl ?_
        refine G_aload1 20 d_Poly_addMultiple_19 rfl ?_
        refine G_getR 23 d_Poly_addMultiple_20 rfl f_Poly_9 rfl (by assumption) (by assumption) ?_
        refine G_iload4 25 d_Poly_addMultiple_23 rfl ?_
        refine G_laload 26 d_Poly_addMultiple_25 rfl (by assumption) (ix_nI (by omega) (by omega)) ?_
        refine G_lmul 27 d_Poly_addMultiple_26 rfl ?_
        refine G_ladd 28 d_Poly_addMultiple_27 rfl ?_
        refine G_lastore 29 d_Poly_addMultiple_28 rfl (by assumption) (ix_nI (by omega) (by omega)) ?_
        first | refine G_iincN4 32 d_Poly_addMultiple_29 rfl (by decide) rfl ?_ | refine G_iinc4 _ 32 d_Poly_addMultiple_29 rfl (by decide) rfl rfl ?_
        refine G_goto 3 d_Poly_addMultiple_32 rfl ?_
        have e0 : sr AL q (fun j => if j < k then AL q j + c * AL q2 j else AL q j) q2 k = AL q2 k := by
          by_cases e : q2 = q
          · subst e; rw [sr_at]; simp
          · rw [sr_ne _ _ e]
        rw [u2_sr, sr_at, e0]
        refine G.row _ h3 (fun j hj => ?_) ih
        by_cases e : j = k
        · subst e; simp
        · by_cases e2 : j < k
          · simp [e, e2, Nat.lt_succ_of_lt e2]
          · simp [e, e2, show ¬ j < k + 1 by omega]
  refine G_iconstN 0 1 d_Poly_addMultiple_0 rfl rfl ?_
  refine G_istore4 3 d_Poly_addMultiple_1 rfl (by decide) rfl ?_
  have := L 0 (by omega)
  simp only [Nat.not_lt_zero, if_false, sr_self] at this
  exact this
/-- DEGREE and 1, 0 of the POLYNOMIAL 0; from the places below k -/
def pdeg (f : Nat → Int64) : Nat → Nat
  | 0 => 0
  | k + 1 => if f k = 0 then pdeg f k else eD k + 1
def deg1 (f : Nat → Int64) : Nat := pdeg f 84
theorem pdeg_le (f : Nat → Int64) : ∀ k, k ≤ 84 → pdeg f k ≤ 7
  | 0, _ => by simp [pdeg]
  | k + 1, h => by
    rw [pdeg]
    split
    · exact pdeg_le f k (by omega)
    · have := e_le (k := k) (by omega)
      omega
theorem s_degree {V : GV} {d p q : Nat} {X : XT} {FI AI : FT} {AL : LT} (h : PO X p q) : G V m_Poly_degree d 0 [some (.ref p), none] [] X FI AI AL (Pd (some (.int (dI (deg1 (AL q))))) X FI AI AL) := by
  obtain ⟨h1, h2, h3⟩ := h
  have L : ∀ k, k ≤ 84 → pdeg (AL q) k = deg1 (AL q) → G V m_Poly_degree d 3 [some (.ref p), some (.int (dI k))] [] X FI AI AL (Pd (some (.int (dI (deg1 (AL q))))) X FI AI AL) := by
    refine downto ?_ ?_
    · intro _ hk
      refine G_iload1 4 d_Poly_degree_3 rfl ?_
      first | refine G_ifltD 30 7 d_Poly_degree_4 rfl rfl (by omega) (fun h4 => ?_) (fun j h4 => ?_) | refine G_iflt 30 7 d_Poly_degree_4 rfl rfl (fun h4 => ?_) (fun h4 => ?_)
      · refine G_iconst (-1) 31 d_Poly_degree_30 rfl rfl ?_
        refine G_iret d_Poly_degree_31 rfl ?_
        exact ⟨by rw [← hk]; rfl, rfl, rfl, rfl, rfl⟩
      · omega
    · intro k ih hk hd
      rw [dI_s]
      refine G_iload1 4 d_Poly_degree_3 rfl ?_
      first | refine G_ifltD 30 7 d_Poly_degree_4 rfl rfl (by omega) (fun h4 => ?_) (fun j h4 => ?_) | refine G_iflt 30 7 d_Poly_degree_4 rfl rfl (fun h4 => ?_) (fun h4 => ?_)
      · exact absurd h4 (nI_pos (by omega))
      · refine G_aload0 8 d_Poly_degree_7 rfl ?_
        refine G_getR 11 d_Poly_degree_8 rfl f_Poly_9 rfl (by assumption) (by assumption) ?_
        refine G_iload1 12 d_Poly_degree_11 rfl ?_
        refine G_laload 13 d_Poly_degree_12 rfl (by assumption) (ix_nI (by omega) (by omega)) ?_
        refine G_lconst 0 14 d_Poly_degree_13 rfl rfl ?_
        refine G_lceq 24 18 d_Poly_degree_14 d_Poly_degree_15 rfl rfl (fun h14 => ?_) (fun h14 => ?_)
        · first | refine G_iinc1 _ 27 d_Poly_degree_24 rfl (by decide) rfl (dI_m1 _) ?_ | refine G_iinc1 _ 27 d_Poly_degree_24 rfl (by decide) rfl rfl ?_
          refine G_goto 3 d_Poly_degree_27 rfl ?_
          refine ih (by omega) ?_
          simp only [pdeg, h14, if_true] at hd
          exact hd
        · refine G_gets 0 21 d_Poly_degree_18 rfl rfl s_Poly_35 ?_
          refine G_iload1 22 d_Poly_degree_21 rfl ?_
          refine G_st0 23 d_Poly_degree_22 rfl (ix_nI (by omega) (by omega)) ?_
          refine G_iret d_Poly_degree_23 rfl ?_
          refine ⟨?_, rfl, rfl, rfl, rfl⟩
          simp only [pdeg, h14, if_false] at hd
          rw [← hd, dI_s]
  refine G_bipushN 83 2 d_Poly_degree_0 rfl rfl ?_
  refine G_istore1 3 d_Poly_degree_2 rfl (by decide) rfl ?_
  have := L 84 (by omega) rfl
  rw [dI_s] at this
  exact this
theorem s_isZero {V : GV} {d p q : Nat} {X : XT} {FI AI : FT} {AL : LT} (h : PO X p q) : G V m_Poly_isZero (d + 1) 0 [some (.ref p)] [] X FI AI AL (Pd (some (.int (if deg1 (AL q) = 0 then 1 else 0))) X FI AI AL) := by
  have h1 := h.1
  have hle := pdeg_le (AL q) 84 (by omega)
  refine G_aload0 1 d_Poly_isZero_0 rfl ?_
  refine G_invV0d 4 d_Poly_isZero_1 rfl e_Poly_31 M_Poly_degree rfl (by assumption) (Nat.le_of_ble_eq_true rfl) (Nat.le_of_ble_eq_true rfl) rfl (s_degree (by assumption)) ?_
  refine G_ifge 11 7 d_Poly_isZero_4 rfl rfl (fun h4 => ?_) (fun h4 => ?_)
  · refine G_iconstN 0 12 d_Poly_isZero_11 rfl rfl ?_
    refine G_zret d_Poly_isZero_12 rfl ?_ ?_
    · exact Or.inl rfl
    · refine ⟨?_, rfl, rfl, rfl, rfl⟩
      by_cases e : deg1 (AL q) = 0
      · rw [e] at h4; exact absurd h4 (by decide)
      · simp [e, nI_0]
  · refine G_iconstN 1 8 d_Poly_isZero_7 rfl rfl ?_
    refine G_goto 12 d_Poly_isZero_8 rfl ?_
    refine G_zret d_Poly_isZero_12 rfl ?_ ?_
    · exact Or.inr rfl
    · refine ⟨?_, rfl, rfl, rfl, rfl⟩
      by_cases e : deg1 (AL q) = 0
      · simp [e]; rfl
      · obtain ⟨j, hj⟩ : ∃ j, deg1 (AL q) = j + 1 := ⟨deg1 (AL q) - 1, by omega⟩
        rw [hj, dI_s] at h4
        exact absurd (nI_pos' (by unfold deg1 at hj; omega)) h4
