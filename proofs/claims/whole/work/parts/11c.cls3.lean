/-! ===== the class: calls on POLYNOMIALS ===== -/
theorem iabs_l {c : Int32} (h : isB c (-999) 999) : (iabs c).toInt64 = labs c.toInt64 := by
  obtain ⟨h1, h2⟩ := h
  apply Int64.toInt_inj.mp
  have e : c.toInt64.toInt = c.toInt := Int32.toInt_toInt64 c
  unfold iabs labs
  by_cases k : c < 0
  · have k2 : c.toInt64 < 0 := by rw [Int64.lt_iff_toInt_lt, e]; rw [Int32.lt_iff_toInt_lt] at k; exact k
    rw [if_pos k, if_pos k2, Int32.toInt_toInt64, Int32.toInt_neg, Int64.toInt_neg, e, Int.bmod_eq_of_le_mul_two (by omega) (by omega), Int.bmod_eq_of_le_mul_two (by omega) (by omega)]
  · have k2 : ¬ c.toInt64 < 0 := by rw [Int64.lt_iff_toInt_lt, e]; rw [Int32.lt_iff_toInt_lt] at k; exact k
    rw [if_neg k, if_neg k2]
theorem c_clear {V : GV} {d lo C E : Nat} {S : ST} {x : Int32} {X : XT} {FI AI : FT} {AL : LT} (h : CO X lo) (hI : CIv C E S X FI AI AL lo) (hW : WS S) : G V m_Alg_clear (d + 2) 0 [some (.ref lo), some (.int x), none] [] X FI AI AL (fun r X' FI' AI' AL' => r = some (.int (fClear S x).1) ∧ CO X' lo ∧ CIv C E (fClear S x).2 X' FI' AI' AL' lo ∧ cF X X' FI FI' AI AI' AL AL' lo) := by
  refine G_iload1 1 d_Alg_clear_0 rfl ?_
  refine G_invS1b 4 d_Alg_clear_1 rfl e_Alg_119 M_Alg_isSlot (Nat.le_of_ble_eq_true rfl) (Nat.le_of_ble_eq_true rfl) rfl (s_isSlot) (fun h1 => G_ifne1 7 d_Alg_clear_4 9 rfl rfl ?_) (fun h1 => G_ifne0 7 d_Alg_clear_4 9 rfl rfl ?_)
  · obtain ⟨k, hk, rfl⟩ := h1
    have qk := bN_t hk (show 6 < 2 ^ 31 by omega)
    have zk := ni_nI (show k < 2 ^ 31 by omega)
    obtain ⟨ark, pok⟩ := h.sl hk
    have psk := pok.1
    have ek := hI.1 k hk
    simp only [fClear, qk, zk, if_true]
    refine G_aload0 10 d_Alg_clear_9 rfl ?_
    refine G_getR 13 d_Alg_clear_10 rfl f_Alg_13 rfl h.sh h.f0 ?_
    refine G_iload1 14 d_Alg_clear_13 rfl ?_
    refine G_aaload 15 d_Alg_clear_14 rfl h.s0 (by decide) (by decide) (ix_nI (by omega) (by omega)) (by assumption) ?_
    refine G_invV0d 18 d_Alg_clear_15 rfl e_Alg_156 M_Poly_termCount rfl (by assumption) (Nat.le_of_ble_eq_true rfl) (Nat.le_of_ble_eq_true rfl) rfl (s_termCount (by assumption)) ?_
    refine G_istore2 19 d_Alg_clear_18 rfl (by decide) rfl ?_
    refine G_aload0 20 d_Alg_clear_19 rfl ?_
    refine G_getR 23 d_Alg_clear_20 rfl f_Alg_13 rfl h.sh h.f0 ?_
    refine G_iload1 24 d_Alg_clear_23 rfl ?_
    refine G_aaload 25 d_Alg_clear_24 rfl h.s0 (by decide) (by decide) (ix_nI (by omega) (by omega)) (by assumption) ?_
    refine G_invV0v 28 d_Alg_clear_25 rfl e_Alg_160 M_Poly_becomeZero rfl (by assumption) (Nat.le_of_ble_eq_true rfl) (Nat.le_of_ble_eq_true rfl) rfl (s_becomeZero (by assumption)) ?_
    refine G_iload2 29 d_Alg_clear_28 rfl ?_
    refine G_iret d_Alg_clear_29 rfl ?_
    exact ⟨by rw [ek], h, hI.s1 hW hk (fun c _ _ hc => sr_ne _ _ hc) (sr_at _ _ _), cF.al (fun c hc => sr_ne _ _ (by omega))⟩
  · have q1 := bN_f h1 (show 6 < 2 ^ 31 by omega)
    simp only [fClear, q1, Bool.false_and, Bool.and_false, Bool.false_eq_true, if_false]
    refine G_iconst (-1) 8 d_Alg_clear_7 rfl rfl ?_
    refine G_iret d_Alg_clear_8 rfl ?_
    exact ⟨rfl, h, hI, cF.rf⟩
theorem c_norm {V : GV} {d lo C E : Nat} {S : ST} {x : Int32} {X : XT} {FI AI : FT} {AL : LT} (h : CO X lo) (hI : CIv C E S X FI AI AL lo) (hW : WS S) : G V m_Alg_norm (d + 2) 0 [some (.ref lo), some (.int x)] [] X FI AI AL (fun r X' FI' AI' AL' => r = some (.long (fNorm S x).1) ∧ CO X' lo ∧ CIv C E (fNorm S x).2 X' FI' AI' AL' lo ∧ cF X X' FI FI' AI AI' AL AL' lo) := by
  refine G_iload1 1 d_Alg_norm_0 rfl ?_
  refine G_invS1b 4 d_Alg_norm_1 rfl e_Alg_119 M_Alg_isSlot (Nat.le_of_ble_eq_true rfl) (Nat.le_of_ble_eq_true rfl) rfl (s_isSlot) (fun h1 => G_ifeq1 7 d_Alg_norm_4 19 rfl rfl ?_) (fun h1 => G_ifeq0 7 d_Alg_norm_4 19 rfl rfl ?_)
  · obtain ⟨k, hk, rfl⟩ := h1
    have qk := bN_t hk (show 6 < 2 ^ 31 by omega)
    have zk := ni_nI (show k < 2 ^ 31 by omega)
    obtain ⟨ark, pok⟩ := h.sl hk
    have psk := pok.1
    have ek := hI.1 k hk
    simp only [fNorm, qk, zk, if_true]
    refine G_aload0 8 d_Alg_norm_7 rfl ?_
    refine G_getR 11 d_Alg_norm_8 rfl f_Alg_13 rfl h.sh h.f0 ?_
    refine G_iload1 12 d_Alg_norm_11 rfl ?_
    refine G_aaload 13 d_Alg_norm_12 rfl h.s0 (by decide) (by decide) (ix_nI (by omega) (by omega)) (by assumption) ?_
    refine G_invV0d 16 d_Alg_norm_13 rfl e_Alg_132 M_Poly_normNow rfl (by assumption) (Nat.le_of_ble_eq_true rfl) (Nat.le_of_ble_eq_true rfl) rfl (s_norm' (by assumption)) ?_
    refine G_goto 22 d_Alg_norm_16 rfl ?_
    refine G_lret d_Alg_norm_22 rfl ?_
    exact ⟨by rw [ek], h, hI, cF.rf⟩
  · have q1 := bN_f h1 (show 6 < 2 ^ 31 by omega)
    simp only [fNorm, q1, Bool.false_and, Bool.and_false, Bool.false_eq_true, if_false]
    refine G_ldc2 22 d_Alg_norm_19 rfl k_Alg_194 ?_
    refine G_lret d_Alg_norm_22 rfl ?_
    exact ⟨rfl, h, hI, cF.rf⟩
theorem c_coefficient {V : GV} {d lo C E : Nat} {S : ST} {s x y z : Int32} {X : XT} {FI AI : FT} {AL : LT} (h : CO X lo) (hI : CIv C E S X FI AI AL lo) (hW : WS S) : G V m_Alg_coefficient (d + 2) 0 [some (.ref lo), some (.int s), some (.int x), some (.int y), some (.int z)] [] X FI AI AL (fun r X' FI' AI' AL' => r = some (.long (fCoef S s x y z).1) ∧ CO X' lo ∧ CIv C E (fCoef S s x y z).2 X' FI' AI' AL' lo ∧ cF X X' FI FI' AI AI' AL AL' lo) := by
  refine G_iload1 1 d_Alg_coefficient_0 rfl ?_
  refine G_invS1b 4 d_Alg_coefficient_1 rfl e_Alg_119 M_Alg_isSlot (Nat.le_of_ble_eq_true rfl) (Nat.le_of_ble_eq_true rfl) rfl (s_isSlot) (fun h1 => G_ifeq1 7 d_Alg_coefficient_4 17 rfl rfl ?_) (fun h1 => G_ifeq0 7 d_Alg_coefficient_4 17 rfl rfl ?_)
  · obtain ⟨k, hk, rfl⟩ := h1
    have qk := bN_t hk (show 6 < 2 ^ 31 by omega)
    have zk := ni_nI (show k < 2 ^ 31 by omega)
    obtain ⟨ark, pok⟩ := h.sl hk
    have psk := pok.1
    have ek := hI.1 k hk
    have pk1 := pok.2.1
    have pk2 := pok.2.2
    refine G_iload2 8 d_Alg_coefficient_7 rfl ?_
    refine G_iload3 9 d_Alg_coefficient_8 rfl ?_
    refine G_iload4 11 d_Alg_coefficient_9 rfl ?_
    refine G_invS3b 14 d_Alg_coefficient_11 rfl e_Alg_126 M_Terms_isTerm (Nat.le_of_ble_eq_true rfl) (Nat.le_of_ble_eq_true rfl) rfl (s_isTerm) (fun h11 => G_ifne1 17 d_Alg_coefficient_14 21 rfl rfl ?_) (fun h11 => G_ifne0 17 d_Alg_coefficient_14 21 rfl rfl ?_)
    · obtain ⟨a, b, c, ht, rfl, rfl, rfl⟩ := h11
      have q2 := bT_t ht
      have hp := pl_lt ht
      simp only [fCoef, qk, zk, q2, ni_nI (show a < 2 ^ 31 by omega), ni_nI (show b < 2 ^ 31 by omega), ni_nI (show c < 2 ^ 31 by omega), Bool.and_self, if_true]
      refine G_aload0 22 d_Alg_coefficient_21 rfl ?_
      refine G_getR 25 d_Alg_coefficient_22 rfl f_Alg_13 rfl h.sh h.f0 ?_
      refine G_iload1 26 d_Alg_coefficient_25 rfl ?_
      refine G_aaload 27 d_Alg_coefficient_26 rfl h.s0 (by decide) (by decide) (ix_nI (by omega) (by omega)) (by assumption) ?_
      refine G_getR 30 d_Alg_coefficient_27 rfl f_Alg_148 rfl (by assumption) (by assumption) ?_
      refine G_iload2 31 d_Alg_coefficient_30 rfl ?_
      refine G_iload3 32 d_Alg_coefficient_31 rfl ?_
      refine G_iload4 34 d_Alg_coefficient_32 rfl ?_
      refine G_invS3d 37 d_Alg_coefficient_34 rfl e_Alg_152 M_Terms_placeOf (Nat.le_of_ble_eq_true rfl) (Nat.le_of_ble_eq_true rfl) rfl (s_placeOf (by omega)) ?_
      refine G_laload 38 d_Alg_coefficient_37 rfl (by assumption) (ix_nI (by omega) (by omega)) ?_
      refine G_lret d_Alg_coefficient_38 rfl ?_
      exact ⟨by rw [ek], h, hI, cF.rf⟩
    · have q2 := bT_f h11
      simp only [fCoef, q2, Bool.false_and, Bool.and_false, Bool.false_eq_true, if_false]
      refine G_ldc2 20 d_Alg_coefficient_17 rfl k_Alg_194 ?_
      refine G_lret d_Alg_coefficient_20 rfl ?_
      exact ⟨rfl, h, hI, cF.rf⟩
  · have q1 := bN_f h1 (show 6 < 2 ^ 31 by omega)
    simp only [fCoef, q1, Bool.false_and, Bool.and_false, Bool.false_eq_true, if_false]
    refine G_ldc2 20 d_Alg_coefficient_17 rfl k_Alg_194 ?_
    refine G_lret d_Alg_coefficient_20 rfl ?_
    exact ⟨rfl, h, hI, cF.rf⟩
theorem c_term {V : GV} {d lo C E : Nat} {S : ST} {s c x y z : Int32} {X : XT} {FI AI : FT} {AL : LT} (h : CO X lo) (hI : CIv C E S X FI AI AL lo) (hW : WS S) : G V m_Alg_term (d + 2) 0 [some (.ref lo), some (.int s), some (.int c), some (.int x), some (.int y), some (.int z)] [] X FI AI AL (fun r X' FI' AI' AL' => r = some (.int (fTerm S s c x y z).1) ∧ CO X' lo ∧ CIv C E (fTerm S s c x y z).2 X' FI' AI' AL' lo ∧ cF X X' FI FI' AI AI' AL AL' lo) := by
  refine G_iload1 1 d_Alg_term_0 rfl ?_
  refine G_invS1b 4 d_Alg_term_1 rfl e_Alg_119 M_Alg_isSlot (Nat.le_of_ble_eq_true rfl) (Nat.le_of_ble_eq_true rfl) rfl (s_isSlot) (fun h1 => G_ifeq1 7 d_Alg_term_4 25 rfl rfl ?_) (fun h1 => G_ifeq0 7 d_Alg_term_4 25 rfl rfl ?_)
  · obtain ⟨k, hk, rfl⟩ := h1
    have qk := bN_t hk (show 6 < 2 ^ 31 by omega)
    have zk := ni_nI (show k < 2 ^ 31 by omega)
    obtain ⟨ark, pok⟩ := h.sl hk
    have psk := pok.1
    have ek := hI.1 k hk
    have pk1 := pok.2.1
    have pk2 := pok.2.2
    refine G_iload2 8 d_Alg_term_7 rfl ?_
    refine G_invS1b 11 d_Alg_term_8 rfl e_Alg_123 M_Alg_isFactor (Nat.le_of_ble_eq_true rfl) (Nat.le_of_ble_eq_true rfl) rfl (s_isFactor) (fun h8 => G_ifeq1 14 d_Alg_term_11 25 rfl rfl ?_) (fun h8 => G_ifeq0 14 d_Alg_term_11 25 rfl rfl ?_)
    · have q3 := bB_iff.mpr h8
      have ia := iabs_l h8
      refine G_iload3 15 d_Alg_term_14 rfl ?_
      refine G_iload4 17 d_Alg_term_15 rfl ?_
      refine G_iload5 19 d_Alg_term_17 rfl ?_
      refine G_invS3b 22 d_Alg_term_19 rfl e_Alg_126 M_Terms_isTerm (Nat.le_of_ble_eq_true rfl) (Nat.le_of_ble_eq_true rfl) rfl (s_isTerm) (fun h19 => G_ifne1 25 d_Alg_term_22 27 rfl rfl ?_) (fun h19 => G_ifne0 25 d_Alg_term_22 27 rfl rfl ?_)
      · obtain ⟨a, b, c', ht, rfl, rfl, rfl⟩ := h19
        have q2 := bT_t ht
        have hp := pl_lt ht
        simp only [fTerm, qk, zk, q2, q3, ni_nI (show a < 2 ^ 31 by omega), ni_nI (show b < 2 ^ 31 by omega), ni_nI (show c' < 2 ^ 31 by omega), Bool.and_self, if_true]
        refine G_aload0 28 d_Alg_term_27 rfl ?_
        refine G_getR 31 d_Alg_term_28 rfl f_Alg_13 rfl h.sh h.f0 ?_
        refine G_iload1 32 d_Alg_term_31 rfl ?_
        refine G_aaload 33 d_Alg_term_32 rfl h.s0 (by decide) (by decide) (ix_nI (by omega) (by omega)) (by assumption) ?_
        refine G_invV0d 36 d_Alg_term_33 rfl e_Alg_132 M_Poly_normNow rfl (by assumption) (Nat.le_of_ble_eq_true rfl) (Nat.le_of_ble_eq_true rfl) rfl (s_norm' (by assumption)) ?_
        refine G_iload2 37 d_Alg_term_36 rfl ?_
        refine G_invS1d 40 d_Alg_term_37 rfl e_Alg_136 M_Math_abs_II (Nat.le_of_ble_eq_true rfl) (Nat.le_of_ble_eq_true rfl) rfl (s_iabs) ?_
        refine G_i2l 41 d_Alg_term_40 rfl ?_
        refine G_invS2d 44 d_Alg_term_41 rfl e_Alg_142 M_Alg_sumOrAbove (Nat.le_of_ble_eq_true rfl) (Nat.le_of_ble_eq_true rfl) rfl (s_sumA) ?_
        refine G_ldc2 47 d_Alg_term_44 rfl k_Alg_146 ?_
        refine G_lcne 54 51 d_Alg_term_47 d_Alg_term_48 rfl rfl (fun h47 => ?_) (fun h47 => ?_)
        · rw [ia, ek, ← sumA_neg] at h47
          rw [if_neg h47]
          refine G_aload0 55 d_Alg_term_54 rfl ?_
          refine G_getR 58 d_Alg_term_55 rfl f_Alg_13 rfl h.sh h.f0 ?_
          refine G_iload1 59 d_Alg_term_58 rfl ?_
          refine G_aaload 60 d_Alg_term_59 rfl h.s0 (by decide) (by decide) (ix_nI (by omega) (by omega)) (by assumption) ?_
          refine G_getR 63 d_Alg_term_60 rfl f_Alg_148 rfl (by assumption) (by assumption) ?_
          refine G_iload3 64 d_Alg_term_63 rfl ?_
          refine G_iload4 66 d_Alg_term_64 rfl ?_
          refine G_iload5 68 d_Alg_term_66 rfl ?_
          refine G_invS3d 71 d_Alg_term_68 rfl e_Alg_152 M_Terms_placeOf (Nat.le_of_ble_eq_true rfl) (Nat.le_of_ble_eq_true rfl) rfl (s_placeOf (by omega)) ?_
          refine G_dup2 72 d_Alg_term_71 rfl rfl rfl ?_
          refine G_laload 73 d_Alg_term_72 rfl (by assumption) (ix_nI (by omega) (by omega)) ?_
          refine G_iload2 74 d_Alg_term_73 rfl ?_
          refine G_i2l 75 d_Alg_term_74 rfl ?_
          refine G_ladd 76 d_Alg_term_75 rfl ?_
          refine G_lastore 77 d_Alg_term_76 rfl (by assumption) (ix_nI (by omega) (by omega)) ?_
          refine G_aload0 78 d_Alg_term_77 rfl ?_
          refine G_getR 81 d_Alg_term_78 rfl f_Alg_13 rfl h.sh h.f0 ?_
          refine G_iload1 82 d_Alg_term_81 rfl ?_
          refine G_aaload 83 d_Alg_term_82 rfl h.s0 (by decide) (by decide) (ix_nI (by omega) (by omega)) (by assumption) ?_
          refine G_invV0d 86 d_Alg_term_83 rfl e_Alg_156 M_Poly_termCount rfl (by assumption) (Nat.le_of_ble_eq_true rfl) (Nat.le_of_ble_eq_true rfl) rfl (s_termCount (by assumption)) ?_
          refine G_iret d_Alg_term_86 rfl ?_
          have eA : u2 AL (lo + 67 + 2 * k) (pl a b c') (AL (lo + 67 + 2 * k) (pl a b c') + c.toInt64) (lo + 67 + 2 * k) = fun j => if j = pl a b c' then tS S k j + c.toInt64 else tS S k j := by
            funext j
            by_cases e : j = pl a b c'
            · subst e; rw [u2_at, if_pos rfl, ek]
            · rw [u2_ix _ _ e, if_neg e, ek]
          exact ⟨by rw [eA], h, hI.s1 hW hk (fun c _ _ hc => u2_off _ _ _ hc) eA, cF.al (fun c hc => u2_off _ _ _ (by omega))⟩
        · rw [ia, ek, ← sumA_neg] at h47
          rw [if_pos h47]
          refine G_bipush (-5) 53 d_Alg_term_51 rfl rfl ?_
          refine G_iret d_Alg_term_53 rfl ?_
          exact ⟨rfl, h, hI, cF.rf⟩
      · have q2 := bT_f h19
        simp only [fTerm, q2, Bool.false_and, Bool.and_false, Bool.false_eq_true, if_false]
        refine G_iconst (-1) 26 d_Alg_term_25 rfl rfl ?_
        refine G_iret d_Alg_term_26 rfl ?_
        exact ⟨rfl, h, hI, cF.rf⟩
    · have q3 := bB_f h8
      simp only [fTerm, q3, Bool.false_and, Bool.and_false, Bool.false_eq_true, if_false]
      refine G_iconst (-1) 26 d_Alg_term_25 rfl rfl ?_
      refine G_iret d_Alg_term_26 rfl ?_
      exact ⟨rfl, h, hI, cF.rf⟩
  · have q1 := bN_f h1 (show 6 < 2 ^ 31 by omega)
    simp only [fTerm, q1, Bool.false_and, Bool.and_false, Bool.false_eq_true, if_false]
    refine G_iconst (-1) 26 d_Alg_term_25 rfl rfl ?_
    refine G_iret d_Alg_term_26 rfl ?_
    exact ⟨rfl, h, hI, cF.rf⟩
theorem c_add {V : GV} {d lo C E : Nat} {S : ST} {s t c : Int32} {X : XT} {FI AI : FT} {AL : LT} (h : CO X lo) (hI : CIv C E S X FI AI AL lo) (hW : WS S) : G V m_Alg_add (d + 2) 0 [some (.ref lo), some (.int s), some (.int t), some (.int c), none, none] [] X FI AI AL (fun r X' FI' AI' AL' => r = some (.int (fAdd S s t c).1) ∧ CO X' lo ∧ CIv C E (fAdd S s t c).2 X' FI' AI' AL' lo ∧ cF X X' FI FI' AI AI' AL AL' lo) := by
  refine G_iload1 1 d_Alg_add_0 rfl ?_
  refine G_invS1b 4 d_Alg_add_1 rfl e_Alg_119 M_Alg_isSlot (Nat.le_of_ble_eq_true rfl) (Nat.le_of_ble_eq_true rfl) rfl (s_isSlot) (fun h1 => G_ifeq1 7 d_Alg_add_4 21 rfl rfl ?_) (fun h1 => G_ifeq0 7 d_Alg_add_4 21 rfl rfl ?_)
  · obtain ⟨k, hk, rfl⟩ := h1
    have qk := bN_t hk (show 6 < 2 ^ 31 by omega)
    have zk := ni_nI (show k < 2 ^ 31 by omega)
    obtain ⟨ark, pok⟩ := h.sl hk
    have psk := pok.1
    have ek := hI.1 k hk
    refine G_iload2 8 d_Alg_add_7 rfl ?_
    refine G_invS1b 11 d_Alg_add_8 rfl e_Alg_119 M_Alg_isSlot (Nat.le_of_ble_eq_true rfl) (Nat.le_of_ble_eq_true rfl) rfl (s_isSlot) (fun h8 => G_ifeq1 14 d_Alg_add_11 21 rfl rfl ?_) (fun h8 => G_ifeq0 14 d_Alg_add_11 21 rfl rfl ?_)
    · obtain ⟨l, hl, rfl⟩ := h8
      have ql := bN_t hl (show 6 < 2 ^ 31 by omega)
      have zl := ni_nI (show l < 2 ^ 31 by omega)
      obtain ⟨arl, pol⟩ := h.sl hl
      have psl := pol.1
      have el := hI.1 l hl
      refine G_iload3 15 d_Alg_add_14 rfl ?_
      refine G_invS1b 18 d_Alg_add_15 rfl e_Alg_123 M_Alg_isFactor (Nat.le_of_ble_eq_true rfl) (Nat.le_of_ble_eq_true rfl) rfl (s_isFactor) (fun h15 => G_ifne1 21 d_Alg_add_18 23 rfl rfl ?_) (fun h15 => G_ifne0 21 d_Alg_add_18 23 rfl rfl ?_)
      · have q3 := bB_iff.mpr h15
        have ia := iabs_l h15
        simp only [fAdd, qk, zk, ql, zl, q3, Bool.and_self, if_true]
        refine G_iload3 24 d_Alg_add_23 rfl ?_
        refine G_invS1d 27 d_Alg_add_24 rfl e_Alg_136 M_Math_abs_II (Nat.le_of_ble_eq_true rfl) (Nat.le_of_ble_eq_true rfl) rfl (s_iabs) ?_
        refine G_i2l 28 d_Alg_add_27 rfl ?_
        refine G_aload0 29 d_Alg_add_28 rfl ?_
        refine G_getR 32 d_Alg_add_29 rfl f_Alg_13 rfl h.sh h.f0 ?_
        refine G_iload2 33 d_Alg_add_32 rfl ?_
        refine G_aaload 34 d_Alg_add_33 rfl h.s0 (by decide) (by decide) (ix_nI (by omega) (by omega)) (by assumption) ?_
        refine G_invV0d 37 d_Alg_add_34 rfl e_Alg_132 M_Poly_normNow rfl (by assumption) (Nat.le_of_ble_eq_true rfl) (Nat.le_of_ble_eq_true rfl) rfl (s_norm' (by assumption)) ?_
        refine G_invS2d 40 d_Alg_add_37 rfl e_Alg_163 M_Alg_productOrAbove (Nat.le_of_ble_eq_true rfl) (Nat.le_of_ble_eq_true rfl) rfl (s_prodA) ?_
        refine G_lstore4 42 d_Alg_add_40 rfl (by decide) rfl ?_
        refine G_aload0 43 d_Alg_add_42 rfl ?_
        refine G_getR 46 d_Alg_add_43 rfl f_Alg_13 rfl h.sh h.f0 ?_
        refine G_iload1 47 d_Alg_add_46 rfl ?_
        refine G_aaload 48 d_Alg_add_47 rfl h.s0 (by decide) (by decide) (ix_nI (by omega) (by omega)) (by assumption) ?_
        refine G_invV0d 51 d_Alg_add_48 rfl e_Alg_132 M_Poly_normNow rfl (by assumption) (Nat.le_of_ble_eq_true rfl) (Nat.le_of_ble_eq_true rfl) rfl (s_norm' (by assumption)) ?_
        refine G_lload4 53 d_Alg_add_51 rfl ?_
        refine G_invS2d 56 d_Alg_add_53 rfl e_Alg_142 M_Alg_sumOrAbove (Nat.le_of_ble_eq_true rfl) (Nat.le_of_ble_eq_true rfl) rfl (s_sumA) ?_
        refine G_ldc2 59 d_Alg_add_56 rfl k_Alg_146 ?_
        refine G_lcne 66 63 d_Alg_add_59 d_Alg_add_60 rfl rfl (fun h59 => ?_) (fun h59 => ?_)
        · rw [ia, ek, el, ← sumA_neg] at h59
          rw [if_neg h59]
          refine G_aload0 67 d_Alg_add_66 rfl ?_
          refine G_getR 70 d_Alg_add_67 rfl f_Alg_13 rfl h.sh h.f0 ?_
          refine G_iload1 71 d_Alg_add_70 rfl ?_
          refine G_aaload 72 d_Alg_add_71 rfl h.s0 (by decide) (by decide) (ix_nI (by omega) (by omega)) (by assumption) ?_
          refine G_aload0 73 d_Alg_add_72 rfl ?_
          refine G_getR 76 d_Alg_add_73 rfl f_Alg_13 rfl h.sh h.f0 ?_
          refine G_iload2 77 d_Alg_add_76 rfl ?_
          refine G_aaload 78 d_Alg_add_77 rfl h.s0 (by decide) (by decide) (ix_nI (by omega) (by omega)) (by assumption) ?_
          refine G_iload3 79 d_Alg_add_78 rfl ?_
          refine G_i2l 80 d_Alg_add_79 rfl ?_
          refine G_invV2v 83 d_Alg_add_80 rfl e_Alg_166 M_Poly_addMultiple rfl (by assumption) (Nat.le_of_ble_eq_true rfl) (Nat.le_of_ble_eq_true rfl) rfl (s_addMultiple (by assumption) (by assumption)) ?_
          refine G_aload0 84 d_Alg_add_83 rfl ?_
          refine G_getR 87 d_Alg_add_84 rfl f_Alg_13 rfl h.sh h.f0 ?_
          refine G_iload1 88 d_Alg_add_87 rfl ?_
          refine G_aaload 89 d_Alg_add_88 rfl h.s0 (by decide) (by decide) (ix_nI (by omega) (by omega)) (by assumption) ?_
          refine G_invV0d 92 d_Alg_add_89 rfl e_Alg_156 M_Poly_termCount rfl (by assumption) (Nat.le_of_ble_eq_true rfl) (Nat.le_of_ble_eq_true rfl) rfl (s_termCount (by assumption)) ?_
          refine G_iret d_Alg_add_92 rfl ?_
          have eA : sr AL (lo + 67 + 2 * k) (fun j => AL (lo + 67 + 2 * k) j + c.toInt64 * AL (lo + 67 + 2 * l) j) (lo + 67 + 2 * k) = addP (tS S k) (tS S l) c.toInt64 := by
            rw [sr_at, ek, el]; rfl
          exact ⟨by rw [eA], h, hI.s1 hW hk (fun c _ _ hc => sr_ne _ _ hc) eA, cF.al (fun c hc => sr_ne _ _ (by omega))⟩
        · rw [ia, ek, el, ← sumA_neg] at h59
          rw [if_pos h59]
          refine G_bipush (-5) 65 d_Alg_add_63 rfl rfl ?_
          refine G_iret d_Alg_add_65 rfl ?_
          exact ⟨rfl, h, hI, cF.rf⟩
      · have q3 := bB_f h15
        simp only [fAdd, q3, Bool.false_and, Bool.and_false, Bool.false_eq_true, if_false]
        refine G_iconst (-1) 22 d_Alg_add_21 rfl rfl ?_
        refine G_iret d_Alg_add_22 rfl ?_
        exact ⟨rfl, h, hI, cF.rf⟩
    · have q2 := bN_f h8 (show 6 < 2 ^ 31 by omega)
      simp only [fAdd, q2, Bool.false_and, Bool.and_false, Bool.false_eq_true, if_false]
      refine G_iconst (-1) 22 d_Alg_add_21 rfl rfl ?_
      refine G_iret d_Alg_add_22 rfl ?_
      exact ⟨rfl, h, hI, cF.rf⟩
  · have q1 := bN_f h1 (show 6 < 2 ^ 31 by omega)
    simp only [fAdd, q1, Bool.false_and, Bool.and_false, Bool.false_eq_true, if_false]
    refine G_iconst (-1) 22 d_Alg_add_21 rfl rfl ?_
    refine G_iret d_Alg_add_22 rfl ?_
    exact ⟨rfl, h, hI, cF.rf⟩
theorem s_putWork {V : GV} {d lo k : Nat} {X : XT} {FI AI : FT} {AL : LT} (h : CO X lo) (hk : k < 6) : G V m_Alg_putWork (d + 2) 0 [some (.ref lo), some (.int (nI k))] [] X FI AI AL (Pd (some (.int (nI (cnt (AL (lo + 57)))))) X FI AI (sr AL (lo + 67 + 2 * k) (AL (lo + 57)))) := by
  obtain ⟨ark, pok⟩ := h.sl hk
  have psk := pok.1
  have wk := h.wk
  have wks := wk.1
  refine G_aload0 1 d_Alg_putWork_0 rfl ?_
  refine G_getR 4 d_Alg_putWork_1 rfl f_Alg_13 rfl h.sh h.f0 ?_
  refine G_iload1 5 d_Alg_putWork_4 rfl ?_
  refine G_aaload 6 d_Alg_putWork_5 rfl h.s0 (by decide) (by decide) (ix_nI (by omega) (by omega)) (by assumption) ?_
  refine G_aload0 7 d_Alg_putWork_6 rfl ?_
  refine G_getR 10 d_Alg_putWork_7 rfl f_Alg_65 rfl h.sh h.f8 ?_
  refine G_invV1v 13 d_Alg_putWork_10 rfl e_Alg_170 M_Poly_becomeLike rfl (by assumption) (Nat.le_of_ble_eq_true rfl) (Nat.le_of_ble_eq_true rfl) rfl (s_becomeLike (by assumption) (by assumption)) ?_
  refine G_aload0 14 d_Alg_putWork_13 rfl ?_
  refine G_getR 17 d_Alg_putWork_14 rfl f_Alg_65 rfl h.sh h.f8 ?_
  refine G_invV0d 20 d_Alg_putWork_17 rfl e_Alg_156 M_Poly_termCount rfl h.s8 (Nat.le_of_ble_eq_true rfl) (Nat.le_of_ble_eq_true rfl) rfl (s_termCount (by assumption)) ?_
  refine G_iret d_Alg_putWork_20 rfl ?_
  exact ⟨by rw [sr_ne _ _ (by omega)], rfl, rfl, rfl, rfl⟩
theorem c_turn {V : GV} {d lo C E : Nat} {S : ST} {s t : Int32} {X : XT} {FI AI : FT} {AL : LT} (h : CO X lo) (hI : CIv C E S X FI AI AL lo) (hW : WS S) : G V m_Alg_turn (d + 3) 0 [some (.ref lo), some (.int s), some (.int t)] [] X FI AI AL (fun r X' FI' AI' AL' => r = some (.int (fTurn S s t).1) ∧ CO X' lo ∧ CIv C E (fTurn S s t).2 X' FI' AI' AL' lo ∧ cF X X' FI FI' AI AI' AL AL' lo) := by
  have wk := h.wk
  have wks := wk.1
  have spp := h.sp
  have sps := spp.1
  refine G_iload1 1 d_Alg_turn_0 rfl ?_
  refine G_invS1b 4 d_Alg_turn_1 rfl e_Alg_119 M_Alg_isSlot (Nat.le_of_ble_eq_true rfl) (Nat.le_of_ble_eq_true rfl) rfl (s_isSlot) (fun h1 => G_ifeq1 7 d_Alg_turn_4 14 rfl rfl ?_) (fun h1 => G_ifeq0 7 d_Alg_turn_4 14 rfl rfl ?_)
  · obtain ⟨k, hk, rfl⟩ := h1
    have qk := bN_t hk (show 6 < 2 ^ 31 by omega)
    have zk := ni_nI (show k < 2 ^ 31 by omega)
    obtain ⟨ark, pok⟩ := h.sl hk
    have psk := pok.1
    have ek := hI.1 k hk
    refine G_iload2 8 d_Alg_turn_7 rfl ?_
    refine G_invS1b 11 d_Alg_turn_8 rfl e_Alg_181 M_Alg_isTurn (Nat.le_of_ble_eq_true rfl) (Nat.le_of_ble_eq_true rfl) rfl (s_isTurn) (fun h8 => G_ifne1 14 d_Alg_turn_11 16 rfl rfl ?_) (fun h8 => G_ifne0 14 d_Alg_turn_11 16 rfl rfl ?_)
    · obtain ⟨l, hl, rfl⟩ := h8
      have ql := bN_t hl (show 6 < 2 ^ 31 by omega)
      have zl := ni_nI (show l < 2 ^ 31 by omega)
      simp only [fTurn, qk, zk, ql, zl, Bool.and_self, if_true]
      refine G_aload0 17 d_Alg_turn_16 rfl ?_
      refine G_getR 20 d_Alg_turn_17 rfl f_Alg_65 rfl h.sh h.f8 ?_
      refine G_aload0 21 d_Alg_turn_20 rfl ?_
      refine G_getR 24 d_Alg_turn_21 rfl f_Alg_13 rfl h.sh h.f0 ?_
      refine G_iload1 25 d_Alg_turn_24 rfl ?_
      refine G_aaload 26 d_Alg_turn_25 rfl h.s0 (by decide) (by decide) (ix_nI (by omega) (by omega)) (by assumption) ?_
      refine G_iload2 27 d_Alg_turn_26 rfl ?_
      refine G_invV2v 30 d_Alg_turn_27 rfl e_Alg_184 M_Poly_becomeTurned rfl h.s8 (Nat.le_of_ble_eq_true rfl) (Nat.le_of_ble_eq_true rfl) rfl (s_becomeTurned (by assumption) (by assumption) (by first | assumption | omega) (by omega)) ?_
      refine G_aload0 31 d_Alg_turn_30 rfl ?_
      refine G_iload1 32 d_Alg_turn_31 rfl ?_
      refine G_invV1d 35 d_Alg_turn_32 rfl e_Alg_178 M_Alg_putWork rfl h.sh (Nat.le_of_ble_eq_true rfl) (Nat.le_of_ble_eq_true rfl) rfl (s_putWork (by assumption) (by omega)) ?_
      refine G_iret d_Alg_turn_35 rfl ?_
      have eA : sr AL (lo + 57) (trn (AL (lo + 67 + 2 * k)) l) (lo + 57) = trn (tS S k) l := by rw [sr_at, ek]
      rw [eA]
      exact ⟨rfl, h, hI.s1 hW hk (fun c h1 _ hc => by rw [sr_ne _ _ hc, sr_ne _ _ h1]) (sr_at _ _ _), cF.al (fun c hc => by rw [sr_ne _ _ (by omega), sr_ne _ _ (by omega)])⟩
    · have q2 := bN_f h8 (show 6 < 2 ^ 31 by omega)
      simp only [fTurn, q2, Bool.false_and, Bool.and_false, Bool.false_eq_true, if_false]
      refine G_iconst (-1) 15 d_Alg_turn_14 rfl rfl ?_
      refine G_iret d_Alg_turn_15 rfl ?_
      exact ⟨rfl, h, hI, cF.rf⟩
  · have q1 := bN_f h1 (show 6 < 2 ^ 31 by omega)
    simp only [fTurn, q1, Bool.false_and, Bool.and_false, Bool.false_eq_true, if_false]
    refine G_iconst (-1) 15 d_Alg_turn_14 rfl rfl ?_
    refine G_iret d_Alg_turn_15 rfl ?_
    exact ⟨rfl, h, hI, cF.rf⟩
theorem c_at {V : GV} {d lo C E : Nat} {S : ST} {s x y z m : Int32} {X : XT} {FI AI : FT} {AL : LT} (h : CO X lo) (hI : CIv C E S X FI AI AL lo) (hW : WS S) : G V m_Alg_at (d + 3) 0 [some (.ref lo), some (.int s), some (.int x), some (.int y), some (.int z), some (.int m)] [] X FI AI AL (fun r X' FI' AI' AL' => r = some (.long (fAt S s x y z m).1) ∧ CO X' lo ∧ CIv C E (fAt S s x y z m).2 X' FI' AI' AL' lo ∧ cF X X' FI FI' AI AI' AL AL' lo) := by
  refine G_iload1 1 d_Alg_at_0 rfl ?_
  refine G_invS1b 4 d_Alg_at_1 rfl e_Alg_119 M_Alg_isSlot (Nat.le_of_ble_eq_true rfl) (Nat.le_of_ble_eq_true rfl) rfl (s_isSlot) (fun h1 => G_ifeq1 7 d_Alg_at_4 15 rfl rfl ?_) (fun h1 => G_ifeq0 7 d_Alg_at_4 15 rfl rfl ?_)
  · obtain ⟨k, hk, rfl⟩ := h1
    have qk := bN_t hk (show 6 < 2 ^ 31 by omega)
    have zk := ni_nI (show k < 2 ^ 31 by omega)
    obtain ⟨ark, pok⟩ := h.sl hk
    have psk := pok.1
    have ek := hI.1 k hk
    refine G_iload5 9 d_Alg_at_7 rfl ?_
    refine G_invS1b 12 d_Alg_at_9 rfl e_Alg_207 M_Alg_isModulus (Nat.le_of_ble_eq_true rfl) (Nat.le_of_ble_eq_true rfl) rfl (s_isModulus) (fun h9 => G_ifne1 15 d_Alg_at_12 19 rfl rfl ?_) (fun h9 => G_ifne0 15 d_Alg_at_12 19 rfl rfl ?_)
    · obtain ⟨e, e1, e6, e31, rfl⟩ := isB_n (lo := 2) (hi := 1000000) h9
      have q3 := bB_iff.mpr h9
      have z3 := ni_nI e31
      simp only [fAt, qk, zk, q3, z3, Bool.and_self, if_true]
      refine G_aload0 20 d_Alg_at_19 rfl ?_
      refine G_getR 23 d_Alg_at_20 rfl f_Alg_13 rfl h.sh h.f0 ?_
      refine G_iload1 24 d_Alg_at_23 rfl ?_
      refine G_aaload 25 d_Alg_at_24 rfl h.s0 (by decide) (by decide) (ix_nI (by omega) (by omega)) (by assumption) ?_
      refine G_iload2 26 d_Alg_at_25 rfl ?_
      refine G_iload3 27 d_Alg_at_26 rfl ?_
      refine G_iload4 29 d_Alg_at_27 rfl ?_
      refine G_iload5 31 d_Alg_at_29 rfl ?_
      refine G_invV4d 34 d_Alg_at_31 rfl e_Alg_210 M_Poly_worth rfl (by assumption) (Nat.le_of_ble_eq_true rfl) (Nat.le_of_ble_eq_true rfl) rfl (s_worth (by assumption) (by omega) (by omega)) ?_
      refine G_lret d_Alg_at_34 rfl ?_
      exact ⟨by rw [ek], h, hI, cF.rf⟩
    · have q3 := bB_f h9
      simp only [fAt, q3, Bool.false_and, Bool.and_false, Bool.false_eq_true, if_false]
      refine G_ldc2 18 d_Alg_at_15 rfl k_Alg_194 ?_
      refine G_lret d_Alg_at_18 rfl ?_
      exact ⟨rfl, h, hI, cF.rf⟩
  · have q1 := bN_f h1 (show 6 < 2 ^ 31 by omega)
    simp only [fAt, q1, Bool.false_and, Bool.and_false, Bool.false_eq_true, if_false]
    refine G_ldc2 18 d_Alg_at_15 rfl k_Alg_194 ?_
    refine G_lret d_Alg_at_18 rfl ?_
    exact ⟨rfl, h, hI, cF.rf⟩
