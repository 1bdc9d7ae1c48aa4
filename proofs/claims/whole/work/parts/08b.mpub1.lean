/-! ===== the reference: calls on POLYNOMIALS ===== -/
theorem m_clear {V : GV} {d b : Nat} {S : ST} {s : Int32} {X : XT} {FI AI : FT} {AL : LT} (h : MO X b) (hI : MIv S FI AI AL b) (hW : WS S) : G V m_Mod_clear (d + 1) 0 [some (.ref b), some (.int s), none] [] X FI AI AL (fun r X' FI' AI' AL' => r = some (.int (fClear S s).1) ∧ X' = X ∧ MIv (fClear S s).2 FI' AI' AL' b ∧ fM FI FI' AI AI' AL AL' b) := by
  obtain ⟨hG, hO, hSl, -⟩ := id hI
  have hT := hG.1
  have hn9 := hG.2.1
  have ho := hG.2.2.1
  have hrk := hG.2.2.2.1
  have hn7 := hW.2.1.1
  refine G_iload1 1 d_Mod_clear_0 rfl ?_
  refine G_invS1b 4 d_Mod_clear_1 rfl e_Mod_182 M_Mod_isSlot (Nat.le_of_ble_eq_true rfl) (Nat.le_of_ble_eq_true rfl) rfl (s_mIsSlot) (fun h1 => G_ifne1 7 d_Mod_clear_4 9 rfl rfl ?_) (fun h1 => G_ifne0 7 d_Mod_clear_4 9 rfl rfl ?_)
  · obtain ⟨k, hk, rfl⟩ := h1
    have q1 := bN_t hk (show 6 < 2 ^ 31 by omega)
    have z1 := ni_nI (show k < 2 ^ 31 by omega)
    simp only [fClear, q1, z1, if_true]
    refine G_aload0 10 d_Mod_clear_9 rfl ?_
    refine G_iload1 11 d_Mod_clear_10 rfl ?_
    refine G_invV1d 14 d_Mod_clear_11 rfl e_Mod_202 M_Mod_termsIn rfl h.sh (Nat.le_of_ble_eq_true rfl) (Nat.le_of_ble_eq_true rfl) rfl (s_mTerms (by assumption) (by omega)) ?_
    refine G_istore2 15 d_Mod_clear_14 rfl (by decide) rfl ?_
    refine G_aload0 16 d_Mod_clear_15 rfl ?_
    refine G_iload1 17 d_Mod_clear_16 rfl ?_
    refine G_invV1v 20 d_Mod_clear_17 rfl e_Mod_162 M_Mod_clearAt rfl h.sh (Nat.le_of_ble_eq_true rfl) (Nat.le_of_ble_eq_true rfl) rfl (s_mClear (by assumption) (by omega)) ?_
    refine G_iload2 21 d_Mod_clear_20 rfl ?_
    refine G_iret d_Mod_clear_21 rfl ?_
    refine ⟨by rw [hSl k hk], rfl, hI.s1 hW hk (fun c hc => sp_off hc) (by rw [mp_sp]; exact cu_eq (fun _ _ => rfl) |>.trans (by funext j; unfold cu; split <;> rfl)) (fun p _ hp => mp_spn hp), fM.al (fun c hc => sp_off hc)⟩
  · have q1 := bN_f h1 (show 6 < 2 ^ 31 by omega)
    simp only [fClear, q1, Bool.false_eq_true, if_false]
    refine G_iconst (-1) 8 d_Mod_clear_7 rfl rfl ?_
    refine G_iret d_Mod_clear_8 rfl ?_
    exact ⟨rfl, rfl, hI, fM.rf⟩
theorem m_norm {V : GV} {d b : Nat} {S : ST} {s : Int32} {X : XT} {FI AI : FT} {AL : LT} (h : MO X b) (hI : MIv S FI AI AL b) (hW : WS S) : G V m_Mod_norm (d + 2) 0 [some (.ref b), some (.int s)] [] X FI AI AL (fun r X' FI' AI' AL' => r = some (.long (fNorm S s).1) ∧ X' = X ∧ MIv (fNorm S s).2 FI' AI' AL' b ∧ fM FI FI' AI AI' AL AL' b) := by
  obtain ⟨hG, hO, hSl, -⟩ := id hI
  have hT := hG.1
  have hn9 := hG.2.1
  have ho := hG.2.2.1
  have hrk := hG.2.2.2.1
  have hn7 := hW.2.1.1
  refine G_iload1 1 d_Mod_norm_0 rfl ?_
  refine G_invS1b 4 d_Mod_norm_1 rfl e_Mod_182 M_Mod_isSlot (Nat.le_of_ble_eq_true rfl) (Nat.le_of_ble_eq_true rfl) rfl (s_mIsSlot) (fun h1 => G_ifeq1 7 d_Mod_norm_4 15 rfl rfl ?_) (fun h1 => G_ifeq0 7 d_Mod_norm_4 15 rfl rfl ?_)
  · obtain ⟨k, hk, rfl⟩ := h1
    have q1 := bN_t hk (show 6 < 2 ^ 31 by omega)
    have z1 := ni_nI (show k < 2 ^ 31 by omega)
    simp only [fNorm, q1, z1, if_true]
    refine G_aload0 8 d_Mod_norm_7 rfl ?_
    refine G_iload1 9 d_Mod_norm_8 rfl ?_
    refine G_invV1d 12 d_Mod_norm_9 rfl e_Mod_194 M_Mod_normOf rfl h.sh (Nat.le_of_ble_eq_true rfl) (Nat.le_of_ble_eq_true rfl) rfl (s_mNorm (by assumption) (by omega)) ?_
    refine G_goto 18 d_Mod_norm_12 rfl ?_
    refine G_lret d_Mod_norm_18 rfl ?_
    exact ⟨by rw [hSl k hk], rfl, hI, fM.rf⟩
  · have q1 := bN_f h1 (show 6 < 2 ^ 31 by omega)
    simp only [fNorm, q1, Bool.false_eq_true, if_false]
    refine G_ldc2 18 d_Mod_norm_15 rfl k_Mod_235 ?_
    refine G_lret d_Mod_norm_18 rfl ?_
    exact ⟨rfl, rfl, hI, fM.rf⟩
theorem m_coefficient {V : GV} {d b : Nat} {S : ST} {s x y z : Int32} {X : XT} {FI AI : FT} {AL : LT} (h : MO X b) (hI : MIv S FI AI AL b) (hW : WS S) : G V m_Mod_coefficient (d + 2) 0 [some (.ref b), some (.int s), some (.int x), some (.int y), some (.int z)] [] X FI AI AL (fun r X' FI' AI' AL' => r = some (.long (fCoef S s x y z).1) ∧ X' = X ∧ MIv (fCoef S s x y z).2 FI' AI' AL' b ∧ fM FI FI' AI AI' AL AL' b) := by
  obtain ⟨hG, hO, hSl, -⟩ := id hI
  have hT := hG.1
  have hn9 := hG.2.1
  have ho := hG.2.2.1
  have hrk := hG.2.2.2.1
  have hn7 := hW.2.1.1
  refine G_iload1 1 d_Mod_coefficient_0 rfl ?_
  refine G_invS1b 4 d_Mod_coefficient_1 rfl e_Mod_182 M_Mod_isSlot (Nat.le_of_ble_eq_true rfl) (Nat.le_of_ble_eq_true rfl) rfl (s_mIsSlot) (fun h1 => G_ifeq1 7 d_Mod_coefficient_4 38 rfl rfl ?_) (fun h1 => G_ifeq0 7 d_Mod_coefficient_4 38 rfl rfl ?_)
  · obtain ⟨k, hk, rfl⟩ := h1
    have q1 := bN_t hk (show 6 < 2 ^ 31 by omega)
    have z1 := ni_nI (show k < 2 ^ 31 by omega)
    refine G_iload2 8 d_Mod_coefficient_7 rfl ?_
    refine G_iload3 9 d_Mod_coefficient_8 rfl ?_
    refine G_iload4 11 d_Mod_coefficient_9 rfl ?_
    refine G_invS3b 14 d_Mod_coefficient_11 rfl e_Mod_190 M_Mod_isTerm (Nat.le_of_ble_eq_true rfl) (Nat.le_of_ble_eq_true rfl) rfl (s_mIsTerm) (fun h11 => G_ifeq1 17 d_Mod_coefficient_14 38 rfl rfl ?_) (fun h11 => G_ifeq0 17 d_Mod_coefficient_14 38 rfl rfl ?_)
    · obtain ⟨a, b', c, hs, rfl, rfl, rfl⟩ := h11
      have hp := pl_lt hs
      have q2 := bT_t hs
      simp only [fCoef, q1, q2, z1, ni_nI (show a < 2 ^ 31 by omega), ni_nI (show b' < 2 ^ 31 by omega), ni_nI (show c < 2 ^ 31 by omega), Bool.and_self, if_true]
      refine G_aload0 18 d_Mod_coefficient_17 rfl ?_
      refine G_getR 21 d_Mod_coefficient_18 rfl f_Mod_9 rfl h.sh h.f0 ?_
      refine G_bipushN 84 23 d_Mod_coefficient_21 rfl rfl ?_
      refine G_iload1 24 d_Mod_coefficient_23 rfl ?_
      first | refine G_imulN 25 d_Mod_coefficient_24 rfl ?_ | refine G_imul 25 d_Mod_coefficient_24 rfl ?_
      refine G_aload0 26 d_Mod_coefficient_25 rfl ?_
      refine G_iload2 27 d_Mod_coefficient_26 rfl ?_
      refine G_iload3 28 d_Mod_coefficient_27 rfl ?_
      refine G_iload4 30 d_Mod_coefficient_28 rfl ?_
      refine G_invV3d 33 d_Mod_coefficient_30 rfl e_Mod_176 M_Mod_termOf rfl h.sh (Nat.le_of_ble_eq_true rfl) (Nat.le_of_ble_eq_true rfl) rfl (s_mTermOf (by assumption) (by assumption) (by omega)) ?_
      first | refine G_iaddN 34 d_Mod_coefficient_33 rfl ?_ | refine G_iadd 34 d_Mod_coefficient_33 rfl ?_
      refine G_laload 35 d_Mod_coefficient_34 rfl h.s0 (ix_nI (by omega) (by omega)) ?_
      refine G_goto 41 d_Mod_coefficient_35 rfl ?_
      refine G_lret d_Mod_coefficient_41 rfl ?_
      exact ⟨by rw [← hSl k hk, mp_at hp], rfl, hI, fM.rf⟩
    · have q2 := bT_f h11
      simp only [fCoef, q2, Bool.and_false, Bool.false_eq_true, if_false]
      refine G_ldc2 41 d_Mod_coefficient_38 rfl k_Mod_235 ?_
      refine G_lret d_Mod_coefficient_41 rfl ?_
      exact ⟨rfl, rfl, hI, fM.rf⟩
  · have q1 := bN_f h1 (show 6 < 2 ^ 31 by omega)
    simp only [fCoef, q1, Bool.false_and, Bool.false_eq_true, if_false]
    refine G_ldc2 41 d_Mod_coefficient_38 rfl k_Mod_235 ?_
    refine G_lret d_Mod_coefficient_41 rfl ?_
    exact ⟨rfl, rfl, hI, fM.rf⟩
theorem m_turn {V : GV} {d b : Nat} {S : ST} {s w : Int32} {X : XT} {FI AI : FT} {AL : LT} (h : MO X b) (hI : MIv S FI AI AL b) (hW : WS S) : G V m_Mod_turn (d + 3) 0 [some (.ref b), some (.int s), some (.int w)] [] X FI AI AL (fun r X' FI' AI' AL' => r = some (.int (fTurn S s w).1) ∧ X' = X ∧ MIv (fTurn S s w).2 FI' AI' AL' b ∧ fM FI FI' AI AI' AL AL' b) := by
  obtain ⟨hG, hO, hSl, -⟩ := id hI
  have hT := hG.1
  have hn9 := hG.2.1
  have ho := hG.2.2.1
  have hrk := hG.2.2.2.1
  have hn7 := hW.2.1.1
  refine G_iload1 1 d_Mod_turn_0 rfl ?_
  refine G_invS1b 4 d_Mod_turn_1 rfl e_Mod_182 M_Mod_isSlot (Nat.le_of_ble_eq_true rfl) (Nat.le_of_ble_eq_true rfl) rfl (s_mIsSlot) (fun h1 => G_ifeq1 7 d_Mod_turn_4 19 rfl rfl ?_) (fun h1 => G_ifeq0 7 d_Mod_turn_4 19 rfl rfl ?_)
  · obtain ⟨k, hk, rfl⟩ := h1
    have q1 := bN_t hk (show 6 < 2 ^ 31 by omega)
    have z1 := ni_nI (show k < 2 ^ 31 by omega)
    have kw : ((0 : Int64).toInt ≤ w.toInt64.toInt ∧ w.toInt64.toInt ≤ (5 : Int64).toInt) ↔ isN w 6 := by
      rw [toL, isN_iff (by omega), show (0 : Int64).toInt = 0 from rfl, show (5 : Int64).toInt = 5 from rfl]; omega
    refine G_iload2 8 d_Mod_turn_7 rfl ?_
    refine G_i2l 9 d_Mod_turn_8 rfl ?_
    refine G_lconst 0 10 d_Mod_turn_9 rfl rfl ?_
    refine G_ldc2 13 d_Mod_turn_10 rfl k_Mod_227 ?_
    refine G_invS3b 16 d_Mod_turn_13 rfl e_Mod_139 M_Mod_in (Nat.le_of_ble_eq_true rfl) (Nat.le_of_ble_eq_true rfl) rfl (s_mIn) (fun h13 => G_ifne1 19 d_Mod_turn_16 21 rfl rfl ?_) (fun h13 => G_ifne0 19 d_Mod_turn_16 21 rfl rfl ?_)
    · obtain ⟨l, hl, rfl⟩ := kw.mp h13
      have q2 := bN_t hl (show 6 < 2 ^ 31 by omega)
      have z2 := ni_nI (show l < 2 ^ 31 by omega)
      simp only [fTurn, q1, q2, z1, z2, Bool.and_self, if_true]
      refine G_aload0 22 d_Mod_turn_21 rfl ?_
      refine G_iload1 23 d_Mod_turn_22 rfl ?_
      refine G_iload2 24 d_Mod_turn_23 rfl ?_
      refine G_bipushN 13 26 d_Mod_turn_24 rfl rfl ?_
      refine G_invV3v 29 d_Mod_turn_26 rfl e_Mod_229 M_Mod_turnTo rfl h.sh (Nat.le_of_ble_eq_true rfl) (Nat.le_of_ble_eq_true rfl) rfl (s_mTurnTo (by assumption) (by assumption) (by omega) (by omega) (by omega) (by omega)) ?_
      refine G_aload0 30 d_Mod_turn_29 rfl ?_
      refine G_bipushN 13 32 d_Mod_turn_30 rfl rfl ?_
      refine G_iload1 33 d_Mod_turn_32 rfl ?_
      refine G_invV2v 36 d_Mod_turn_33 rfl e_Mod_208 M_Mod_copyTo rfl h.sh (Nat.le_of_ble_eq_true rfl) (Nat.le_of_ble_eq_true rfl) rfl (s_mCopy (by assumption) (by omega) (by omega)) ?_
      refine G_aload0 37 d_Mod_turn_36 rfl ?_
      refine G_iload1 38 d_Mod_turn_37 rfl ?_
      refine G_invV1d 41 d_Mod_turn_38 rfl e_Mod_202 M_Mod_termsIn rfl h.sh (Nat.le_of_ble_eq_true rfl) (Nat.le_of_ble_eq_true rfl) rfl (s_mTerms (by assumption) (by omega)) ?_
      refine G_iret d_Mod_turn_41 rfl ?_
      have e1 : mp (sp (sp AL b 13 (trn (mp AL b k) l)) b k (mp (sp AL b 13 (trn (mp AL b k) l)) b 13)) b k = trn (tS S k) l := by rw [mp_sp, mp_cu, mp_sp, cu_trn, hSl k hk]
      refine ⟨by rw [e1], rfl, hI.s1 hW hk (fun c hc => by rw [sp_off hc, sp_off hc]) e1 (fun p h13 hp => by rw [mp_spn hp, mp_spn (by omega)]), fM.al (fun c hc => by rw [sp_off hc, sp_off hc])⟩
    · have q2 := bN_f (fun e => h13 (kw.mpr e)) (show 6 < 2 ^ 31 by omega)
      simp only [fTurn, q2, Bool.and_false, Bool.false_eq_true, if_false]
      refine G_iconst (-1) 20 d_Mod_turn_19 rfl rfl ?_
      refine G_iret d_Mod_turn_20 rfl ?_
      exact ⟨rfl, rfl, hI, fM.rf⟩
  · have q1 := bN_f h1 (show 6 < 2 ^ 31 by omega)
    simp only [fTurn, q1, Bool.false_and, Bool.false_eq_true, if_false]
    refine G_iconst (-1) 20 d_Mod_turn_19 rfl rfl ?_
    refine G_iret d_Mod_turn_20 rfl ?_
    exact ⟨rfl, rfl, hI, fM.rf⟩
theorem m_add {V : GV} {d b : Nat} {S : ST} {s t c : Int32} {X : XT} {FI AI : FT} {AL : LT} (h : MO X b) (hI : MIv S FI AI AL b) (hW : WS S) : G V m_Mod_add (d + 2) 0 [some (.ref b), some (.int s), some (.int t), some (.int c)] [] X FI AI AL (fun r X' FI' AI' AL' => r = some (.int (fAdd S s t c).1) ∧ X' = X ∧ MIv (fAdd S s t c).2 FI' AI' AL' b ∧ fM FI FI' AI AI' AL AL' b) := by
  obtain ⟨hG, hO, hSl, -⟩ := id hI
  have hT := hG.1
  have hn9 := hG.2.1
  have ho := hG.2.2.1
  have hrk := hG.2.2.2.1
  have hn7 := hW.2.1.1
  have kc : ((-999 : Int64).toInt ≤ c.toInt64.toInt ∧ c.toInt64.toInt ≤ (999 : Int64).toInt) ↔ isB c (-999) 999 := by
    rw [toL]; exact Iff.rfl
  refine G_iload1 1 d_Mod_add_0 rfl ?_
  refine G_invS1b 4 d_Mod_add_1 rfl e_Mod_182 M_Mod_isSlot (Nat.le_of_ble_eq_true rfl) (Nat.le_of_ble_eq_true rfl) rfl (s_mIsSlot) (fun h1 => G_ifeq1 7 d_Mod_add_4 28 rfl rfl ?_) (fun h1 => G_ifeq0 7 d_Mod_add_4 28 rfl rfl ?_)
  · obtain ⟨k, hk, rfl⟩ := h1
    have q1 := bN_t hk (show 6 < 2 ^ 31 by omega)
    have z1 := ni_nI (show k < 2 ^ 31 by omega)
    refine G_iload2 8 d_Mod_add_7 rfl ?_
    refine G_invS1b 11 d_Mod_add_8 rfl e_Mod_182 M_Mod_isSlot (Nat.le_of_ble_eq_true rfl) (Nat.le_of_ble_eq_true rfl) rfl (s_mIsSlot) (fun h8 => G_ifeq1 14 d_Mod_add_11 28 rfl rfl ?_) (fun h8 => G_ifeq0 14 d_Mod_add_11 28 rfl rfl ?_)
    · obtain ⟨l, hl, rfl⟩ := h8
      have q2 := bN_t hl (show 6 < 2 ^ 31 by omega)
      have z2 := ni_nI (show l < 2 ^ 31 by omega)
      refine G_iload3 15 d_Mod_add_14 rfl ?_
      refine G_i2l 16 d_Mod_add_15 rfl ?_
      refine G_ldc2 19 d_Mod_add_16 rfl k_Mod_186 ?_
      refine G_ldc2 22 d_Mod_add_19 rfl k_Mod_188 ?_
      refine G_invS3b 25 d_Mod_add_22 rfl e_Mod_139 M_Mod_in (Nat.le_of_ble_eq_true rfl) (Nat.le_of_ble_eq_true rfl) rfl (s_mIn) (fun h22 => G_ifne1 28 d_Mod_add_25 30 rfl rfl ?_) (fun h22 => G_ifne0 28 d_Mod_add_25 30 rfl rfl ?_)
      · have q3 := bB_iff.mpr (kc.mp h22)
        simp only [fAdd, q1, q2, q3, z1, z2, Bool.and_self, if_true, ← hSl k hk, ← hSl l hl]
        refine G_aload0 31 d_Mod_add_30 rfl ?_
        refine G_iload1 32 d_Mod_add_31 rfl ?_
        refine G_invV1d 35 d_Mod_add_32 rfl e_Mod_194 M_Mod_normOf rfl h.sh (Nat.le_of_ble_eq_true rfl) (Nat.le_of_ble_eq_true rfl) rfl (s_mNorm (by assumption) (by omega)) ?_
        refine G_iload3 36 d_Mod_add_35 rfl ?_
        refine G_i2l 37 d_Mod_add_36 rfl ?_
        refine G_invS1d 40 d_Mod_add_37 rfl e_Mod_158 M_Mod_size (Nat.le_of_ble_eq_true rfl) (Nat.le_of_ble_eq_true rfl) rfl (s_mSize) ?_
        refine G_aload0 41 d_Mod_add_40 rfl ?_
        refine G_iload2 42 d_Mod_add_41 rfl ?_
        refine G_invV1d 45 d_Mod_add_42 rfl e_Mod_194 M_Mod_normOf rfl h.sh (Nat.le_of_ble_eq_true rfl) (Nat.le_of_ble_eq_true rfl) rfl (s_mNorm (by assumption) (by omega)) ?_
        refine G_invS2d 48 d_Mod_add_45 rfl e_Mod_205 M_Mod_timesUp (Nat.le_of_ble_eq_true rfl) (Nat.le_of_ble_eq_true rfl) rfl (s_mTimesUp) ?_
        refine G_invS2d 51 d_Mod_add_48 rfl e_Mod_198 M_Mod_plusUp (Nat.le_of_ble_eq_true rfl) (Nat.le_of_ble_eq_true rfl) rfl (s_mPlusUp) ?_
        refine G_lconst 0 52 d_Mod_add_51 rfl rfl ?_
        refine G_lcge 59 56 d_Mod_add_52 d_Mod_add_53 rfl rfl (fun h52 => ?_) (fun h52 => ?_)
        · have hlt : ¬ sumA (norm (mp AL b k)) (prodA (labs c.toInt64) (norm (mp AL b l))) < 0 := h52
          simp only [if_neg hlt]
          refine G_aload0 60 d_Mod_add_59 rfl ?_
          refine G_iload2 61 d_Mod_add_60 rfl ?_
          refine G_bipushN 13 63 d_Mod_add_61 rfl rfl ?_
          refine G_invV2v 66 d_Mod_add_63 rfl e_Mod_208 M_Mod_copyTo rfl h.sh (Nat.le_of_ble_eq_true rfl) (Nat.le_of_ble_eq_true rfl) rfl (s_mCopy (by assumption) (by omega) (by omega)) ?_
          refine G_aload0 67 d_Mod_add_66 rfl ?_
          refine G_iload1 68 d_Mod_add_67 rfl ?_
          refine G_bipushN 13 70 d_Mod_add_68 rfl rfl ?_
          refine G_iload3 71 d_Mod_add_70 rfl ?_
          refine G_i2l 72 d_Mod_add_71 rfl ?_
          refine G_invV3v 75 d_Mod_add_72 rfl e_Mod_212 M_Mod_addTo rfl h.sh (Nat.le_of_ble_eq_true rfl) (Nat.le_of_ble_eq_true rfl) rfl (s_mAdd (by assumption) (by omega) (by omega)) ?_
          refine G_aload0 76 d_Mod_add_75 rfl ?_
          refine G_iload1 77 d_Mod_add_76 rfl ?_
          refine G_invV1d 80 d_Mod_add_77 rfl e_Mod_202 M_Mod_termsIn rfl h.sh (Nat.le_of_ble_eq_true rfl) (Nat.le_of_ble_eq_true rfl) rfl (s_mTerms (by assumption) (by omega)) ?_
          refine G_iret d_Mod_add_80 rfl ?_
          have e0 : mp (sp AL b 13 (mp AL b l)) b 13 = mp AL b l := by rw [mp_sp, mp_cu]
          have e2 : mp (sp AL b 13 (mp AL b l)) b k = mp AL b k := mp_spn (by omega)
          have e1 : mp (sp (sp AL b 13 (mp AL b l)) b k (fun j => mp (sp AL b 13 (mp AL b l)) b k j + c.toInt64 * mp (sp AL b 13 (mp AL b l)) b 13 j)) b k = addP (mp AL b k) (mp AL b l) c.toInt64 := by
            rw [mp_sp, e0, e2]
            have := cu_addP (mp AL b k) (mp AL b l) c.toInt64
            rw [mp_cu, mp_cu] at this
            exact this
          exact ⟨by rw [e1], rfl, hI.s1 hW hk (fun c hc => by rw [sp_off hc, sp_off hc]) e1 (fun p h13 hp => by rw [mp_spn hp, mp_spn (by omega)]), fM.al (fun c hc => by rw [sp_off hc, sp_off hc])⟩
        · have hlt : sumA (norm (mp AL b k)) (prodA (labs c.toInt64) (norm (mp AL b l))) < 0 := h52
          simp only [if_pos hlt]
          refine G_bipush (-5) 58 d_Mod_add_56 rfl rfl ?_
          refine G_iret d_Mod_add_58 rfl ?_
          exact ⟨rfl, rfl, hI, fM.rf⟩
      · have q3 := bB_f (fun e => h22 (kc.mpr e))
        simp only [fAdd, q3, Bool.and_false, Bool.false_eq_true, if_false]
        refine G_iconst (-1) 29 d_Mod_add_28 rfl rfl ?_
        refine G_iret d_Mod_add_29 rfl ?_
        exact ⟨rfl, rfl, hI, fM.rf⟩
    · have q2 := bN_f h8 (show 6 < 2 ^ 31 by omega)
      simp only [fAdd, q2, Bool.and_false, Bool.false_and, Bool.false_eq_true, if_false]
      refine G_iconst (-1) 29 d_Mod_add_28 rfl rfl ?_
      refine G_iret d_Mod_add_29 rfl ?_
      exact ⟨rfl, rfl, hI, fM.rf⟩
  · have q1 := bN_f h1 (show 6 < 2 ^ 31 by omega)
    simp only [fAdd, q1, Bool.false_and, Bool.false_eq_true, if_false]
    refine G_iconst (-1) 29 d_Mod_add_28 rfl rfl ?_
    refine G_iret d_Mod_add_29 rfl ?_
    exact ⟨rfl, rfl, hI, fM.rf⟩
theorem m_term {V : GV} {d b : Nat} {S : ST} {s c x y z : Int32} {X : XT} {FI AI : FT} {AL : LT} (h : MO X b) (hI : MIv S FI AI AL b) (hW : WS S) : G V m_Mod_term (d + 2) 0 [some (.ref b), some (.int s), some (.int c), some (.int x), some (.int y), some (.int z)] [] X FI AI AL (fun r X' FI' AI' AL' => r = some (.int (fTerm S s c x y z).1) ∧ X' = X ∧ MIv (fTerm S s c x y z).2 FI' AI' AL' b ∧ fM FI FI' AI AI' AL AL' b) := by
  obtain ⟨hG, hO, hSl, -⟩ := id hI
  have hT := hG.1
  have hn9 := hG.2.1
  have ho := hG.2.2.1
  have hrk := hG.2.2.2.1
  have hn7 := hW.2.1.1
  have kc : ((-999 : Int64).toInt ≤ c.toInt64.toInt ∧ c.toInt64.toInt ≤ (999 : Int64).toInt) ↔ isB c (-999) 999 := by
    rw [toL]; exact Iff.rfl
  refine G_iload1 1 d_Mod_term_0 rfl ?_
  refine G_invS1b 4 d_Mod_term_1 rfl e_Mod_182 M_Mod_isSlot (Nat.le_of_ble_eq_true rfl) (Nat.le_of_ble_eq_true rfl) rfl (s_mIsSlot) (fun h1 => G_ifeq1 7 d_Mod_term_4 32 rfl rfl ?_) (fun h1 => G_ifeq0 7 d_Mod_term_4 32 rfl rfl ?_)
  · obtain ⟨k, hk, rfl⟩ := h1
    have q1 := bN_t hk (show 6 < 2 ^ 31 by omega)
    have z1 := ni_nI (show k < 2 ^ 31 by omega)
    refine G_iload2 8 d_Mod_term_7 rfl ?_
    refine G_i2l 9 d_Mod_term_8 rfl ?_
    refine G_ldc2 12 d_Mod_term_9 rfl k_Mod_186 ?_
    refine G_ldc2 15 d_Mod_term_12 rfl k_Mod_188 ?_
    refine G_invS3b 18 d_Mod_term_15 rfl e_Mod_139 M_Mod_in (Nat.le_of_ble_eq_true rfl) (Nat.le_of_ble_eq_true rfl) rfl (s_mIn) (fun h15 => G_ifeq1 21 d_Mod_term_18 32 rfl rfl ?_) (fun h15 => G_ifeq0 21 d_Mod_term_18 32 rfl rfl ?_)
    · have q3 := bB_iff.mpr (kc.mp h15)
      refine G_iload3 22 d_Mod_term_21 rfl ?_
      refine G_iload4 24 d_Mod_term_22 rfl ?_
      refine G_iload5 26 d_Mod_term_24 rfl ?_
      refine G_invS3b 29 d_Mod_term_26 rfl e_Mod_190 M_Mod_isTerm (Nat.le_of_ble_eq_true rfl) (Nat.le_of_ble_eq_true rfl) rfl (s_mIsTerm) (fun h26 => G_ifne1 32 d_Mod_term_29 34 rfl rfl ?_) (fun h26 => G_ifne0 32 d_Mod_term_29 34 rfl rfl ?_)
      · obtain ⟨p, p', p'', hs, rfl, rfl, rfl⟩ := h26
        have hp := pl_lt hs
        have q2 := bT_t hs
        simp only [fTerm, q1, q2, q3, z1, ni_nI (show p < 2 ^ 31 by omega), ni_nI (show p' < 2 ^ 31 by omega), ni_nI (show p'' < 2 ^ 31 by omega), Bool.and_self, if_true, ← hSl k hk]
        refine G_aload0 35 d_Mod_term_34 rfl ?_
        refine G_iload1 36 d_Mod_term_35 rfl ?_
        refine G_invV1d 39 d_Mod_term_36 rfl e_Mod_194 M_Mod_normOf rfl h.sh (Nat.le_of_ble_eq_true rfl) (Nat.le_of_ble_eq_true rfl) rfl (s_mNorm (by assumption) (by omega)) ?_
        refine G_iload2 40 d_Mod_term_39 rfl ?_
        refine G_i2l 41 d_Mod_term_40 rfl ?_
        refine G_invS1d 44 d_Mod_term_41 rfl e_Mod_158 M_Mod_size (Nat.le_of_ble_eq_true rfl) (Nat.le_of_ble_eq_true rfl) rfl (s_mSize) ?_
        refine G_invS2d 47 d_Mod_term_44 rfl e_Mod_198 M_Mod_plusUp (Nat.le_of_ble_eq_true rfl) (Nat.le_of_ble_eq_true rfl) rfl (s_mPlusUp) ?_
        refine G_lconst 0 48 d_Mod_term_47 rfl rfl ?_
        refine G_lcge 55 52 d_Mod_term_48 d_Mod_term_49 rfl rfl (fun h48 => ?_) (fun h48 => ?_)
        · have hlt : ¬ sumA (norm (mp AL b k)) (labs c.toInt64) < 0 := h48
          simp only [if_neg hlt]
          have e3 : AL (b + 1) (84 * k + pl p p' p'') = mp AL b k (pl p p' p'') := by rw [mp_at hp]
          have e4 : u2 AL (b + 1) (84 * k + pl p p' p'') (mp AL b k (pl p p' p'') + c.toInt64) = sp AL b k (fun j => if j = pl p p' p'' then mp AL b k j + c.toInt64 else mp AL b k j) := by
            have := sp_u2 (AL := AL) (b := b) (p := k) (f := mp AL b k) (x := mp AL b k (pl p p' p'') + c.toInt64) hp
            rw [sp_self] at this
            rw [this]
            exact sp_congr (fun j _ => by
              by_cases e : j = pl p p' p''
              · rw [if_pos e, if_pos e, e]
              · rw [if_neg e, if_neg e])
          refine G_aload0 56 d_Mod_term_55 rfl ?_
          refine G_getR 59 d_Mod_term_56 rfl f_Mod_9 rfl h.sh h.f0 ?_
          refine G_bipushN 84 61 d_Mod_term_59 rfl rfl ?_
          refine G_iload1 62 d_Mod_term_61 rfl ?_
          first | refine G_imulN 63 d_Mod_term_62 rfl ?_ | refine G_imul 63 d_Mod_term_62 rfl ?_
          refine G_aload0 64 d_Mod_term_63 rfl ?_
          refine G_iload3 65 d_Mod_term_64 rfl ?_
          refine G_iload4 67 d_Mod_term_65 rfl ?_
          refine G_iload5 69 d_Mod_term_67 rfl ?_
          refine G_invV3d 72 d_Mod_term_69 rfl e_Mod_176 M_Mod_termOf rfl h.sh (Nat.le_of_ble_eq_true rfl) (Nat.le_of_ble_eq_true rfl) rfl (s_mTermOf (by assumption) (by assumption) (by omega)) ?_
          first | refine G_iaddN 73 d_Mod_term_72 rfl ?_ | refine G_iadd 73 d_Mod_term_72 rfl ?_
          refine G_dup2 74 d_Mod_term_73 rfl rfl rfl ?_
          refine G_laloadv 75 d_Mod_term_74 rfl h.s0 (ix_nI (by omega) (by omega)) e3 ?_
          refine G_iload2 76 d_Mod_term_75 rfl ?_
          refine G_i2l 77 d_Mod_term_76 rfl ?_
          refine G_ladd 78 d_Mod_term_77 rfl ?_
          refine G_lastore 79 d_Mod_term_78 rfl h.s0 (ix_nI (by omega) (by omega)) ?_
          rw [e4]
          refine G_aload0 80 d_Mod_term_79 rfl ?_
          refine G_iload1 81 d_Mod_term_80 rfl ?_
          refine G_invV1d 84 d_Mod_term_81 rfl e_Mod_202 M_Mod_termsIn rfl h.sh (Nat.le_of_ble_eq_true rfl) (Nat.le_of_ble_eq_true rfl) rfl (s_mTerms (by assumption) (by omega)) ?_
          refine G_iret d_Mod_term_84 rfl ?_
          have e1 : mp (sp AL b k (fun j => if j = pl p p' p'' then mp AL b k j + c.toInt64 else mp AL b k j)) b k = (fun j => if j = pl p p' p'' then mp AL b k j + c.toInt64 else mp AL b k j) := by
            rw [mp_sp]
            funext j
            show (if j < 84 then (if j = pl p p' p'' then mp AL b k j + c.toInt64 else mp AL b k j) else 0) = _
            by_cases e : j < 84
            · rw [if_pos e]
            · rw [if_neg e, if_neg (by omega)]
              unfold mp
              rw [if_neg e]
          exact ⟨by rw [e1], rfl, hI.s1 hW hk (fun c hc => by rw [sp_off hc]) e1 (fun p h13 hp => by rw [mp_spn hp]), fM.al (fun c hc => by rw [sp_off hc])⟩
        · have hlt : sumA (norm (mp AL b k)) (labs c.toInt64) < 0 := h48
          simp only [if_pos hlt]
          refine G_bipush (-5) 54 d_Mod_term_52 rfl rfl ?_
          refine G_iret d_Mod_term_54 rfl ?_
          exact ⟨rfl, rfl, hI, fM.rf⟩
      · have q2 := bT_f h26
        simp only [fTerm, q2, Bool.and_false, Bool.false_eq_true, if_false]
        refine G_iconst (-1) 33 d_Mod_term_32 rfl rfl ?_
        refine G_iret d_Mod_term_33 rfl ?_
        exact ⟨rfl, rfl, hI, fM.rf⟩
    · have q3 := bB_f (fun e => h15 (kc.mpr e))
      simp only [fTerm, q3, Bool.and_false, Bool.false_and, Bool.false_eq_true, if_false]
      refine G_iconst (-1) 33 d_Mod_term_32 rfl rfl ?_
      refine G_iret d_Mod_term_33 rfl ?_
      exact ⟨rfl, rfl, hI, fM.rf⟩
  · have q1 := bN_f h1 (show 6 < 2 ^ 31 by omega)
    simp only [fTerm, q1, Bool.false_and, Bool.false_eq_true, if_false]
    refine G_iconst (-1) 33 d_Mod_term_32 rfl rfl ?_
    refine G_iret d_Mod_term_33 rfl ?_
    exact ⟨rfl, rfl, hI, fM.rf⟩
theorem m_at {V : GV} {d b : Nat} {S : ST} {s x y z m : Int32} {X : XT} {FI AI : FT} {AL : LT} (h : MO X b) (hI : MIv S FI AI AL b) (hW : WS S) : G V m_Mod_at (d + 3) 0 [some (.ref b), some (.int s), some (.int x), some (.int y), some (.int z), some (.int m)] [] X FI AI AL (fun r X' FI' AI' AL' => r = some (.long (fAt S s x y z m).1) ∧ X' = X ∧ MIv (fAt S s x y z m).2 FI' AI' AL' b ∧ fM FI FI' AI AI' AL AL' b) := by
  obtain ⟨hG, hO, hSl, -⟩ := id hI
  have hT := hG.1
  have hn9 := hG.2.1
  have ho := hG.2.2.1
  have hrk := hG.2.2.2.1
  have hn7 := hW.2.1.1
  have kc : ((2 : Int64).toInt ≤ m.toInt64.toInt ∧ m.toInt64.toInt ≤ (1000000 : Int64).toInt) ↔ isB m 2 1000000 := by
    rw [toL]; exact Iff.rfl
  refine G_iload1 1 d_Mod_at_0 rfl ?_
  refine G_invS1b 4 d_Mod_at_1 rfl e_Mod_182 M_Mod_isSlot (Nat.le_of_ble_eq_true rfl) (Nat.le_of_ble_eq_true rfl) rfl (s_mIsSlot) (fun h1 => G_ifeq1 7 d_Mod_at_4 37 rfl rfl ?_) (fun h1 => G_ifeq0 7 d_Mod_at_4 37 rfl rfl ?_)
  · obtain ⟨k, hk, rfl⟩ := h1
    have q1 := bN_t hk (show 6 < 2 ^ 31 by omega)
    have z1 := ni_nI (show k < 2 ^ 31 by omega)
    refine G_iload5 9 d_Mod_at_7 rfl ?_
    refine G_i2l 10 d_Mod_at_9 rfl ?_
    refine G_ldc2 13 d_Mod_at_10 rfl k_Mod_180 ?_
    refine G_ldc2 16 d_Mod_at_13 rfl k_Mod_252 ?_
    refine G_invS3b 19 d_Mod_at_16 rfl e_Mod_139 M_Mod_in (Nat.le_of_ble_eq_true rfl) (Nat.le_of_ble_eq_true rfl) rfl (s_mIn) (fun h16 => G_ifeq1 22 d_Mod_at_19 37 rfl rfl ?_) (fun h16 => G_ifeq0 22 d_Mod_at_19 37 rfl rfl ?_)
    · have hb := kc.mp h16
      have q3 := bB_iff.mpr hb
      obtain ⟨mm, hm1, rfl⟩ : ∃ mm : Nat, mm < 2 ^ 31 ∧ m = nI mm := nI_of (fun e => by rw [lt0_iff] at e; have := hb.1; omega)
      have hb1 := hb.1
      have hb2 := hb.2
      rw [nI_toInt hm1] at hb1 hb2
      have m2 : 2 ≤ mm := by omega
      have hml : (nI mm).toInt64 = lN mm := nI_l (by omega)
      simp only [fAt, q1, q3, z1, ni_nI hm1, Bool.and_self, if_true, ← hSl k hk]
      refine G_aload0 23 d_Mod_at_22 rfl ?_
      refine G_iload1 24 d_Mod_at_23 rfl ?_
      refine G_iload2 25 d_Mod_at_24 rfl ?_
      refine G_iload3 26 d_Mod_at_25 rfl ?_
      refine G_iload4 28 d_Mod_at_26 rfl ?_
      refine G_iload5 30 d_Mod_at_28 rfl ?_
      refine G_i2l 31 d_Mod_at_30 rfl ?_
      rw [hml]
      refine G_invV5d 34 d_Mod_at_31 rfl e_Mod_254 M_Mod_worth rfl h.sh (Nat.le_of_ble_eq_true rfl) (Nat.le_of_ble_eq_true rfl) rfl (s_mWorth (by assumption) (by assumption) (by omega) (by assumption) (by omega)) ?_
      refine G_goto 40 d_Mod_at_34 rfl ?_
      refine G_lret d_Mod_at_40 rfl ?_
      exact ⟨rfl, rfl, hI, fM.rf⟩
    · have q3 := bB_f (fun e => h16 (kc.mpr e))
      simp only [fAt, q3, Bool.and_false, Bool.false_eq_true, if_false]
      refine G_ldc2 40 d_Mod_at_37 rfl k_Mod_235 ?_
      refine G_lret d_Mod_at_40 rfl ?_
      exact ⟨rfl, rfl, hI, fM.rf⟩
  · have q1 := bN_f h1 (show 6 < 2 ^ 31 by omega)
    simp only [fAt, q1, Bool.false_and, Bool.false_eq_true, if_false]
    refine G_ldc2 40 d_Mod_at_37 rfl k_Mod_235 ?_
    refine G_lret d_Mod_at_40 rfl ?_
    exact ⟨rfl, rfl, hI, fM.rf⟩
theorem m_give {V : GV} {d b : Nat} {S : ST} {g s : Int32} {X : XT} {FI AI : FT} {AL : LT} (h : MO X b) (hI : MIv S FI AI AL b) (hW : WS S) : G V m_Mod_give (d + 1) 0 [some (.ref b), some (.int g), some (.int s)] [] X FI AI AL (fun r X' FI' AI' AL' => r = some (.int (fGive S g s).1) ∧ X' = X ∧ MIv (fGive S g s).2 FI' AI' AL' b ∧ fM FI FI' AI AI' AL AL' b) := by
  obtain ⟨hG, hO, hSl, -⟩ := id hI
  have hT := hG.1
  have hn9 := hG.2.1
  have ho := hG.2.2.1
  have hrk := hG.2.2.2.1
  have hn7 := hW.2.1.1
  refine G_aload0 1 d_Mod_give_0 rfl ?_
  refine G_iload1 2 d_Mod_give_1 rfl ?_
  refine G_invV1b 5 d_Mod_give_2 rfl e_Mod_287 M_Mod_isGenerator rfl h.sh (Nat.le_of_ble_eq_true rfl) (Nat.le_of_ble_eq_true rfl) rfl (s_mIsGenerator h hn9 hn7) (fun h2 => G_ifeq1 8 d_Mod_give_5 15 rfl rfl ?_) (fun h2 => G_ifeq0 8 d_Mod_give_5 15 rfl rfl ?_)
  · obtain ⟨i, hi, rfl⟩ := h2
    have q1 := bN_t hi (show gN (tG S) < 2 ^ 31 by omega)
    have z1 := ni_nI (show i < 2 ^ 31 by omega)
    have eg := (hG.2.2.2.2 i hi).2.1
    refine G_iload2 9 d_Mod_give_8 rfl ?_
    refine G_invS1b 12 d_Mod_give_9 rfl e_Mod_182 M_Mod_isSlot (Nat.le_of_ble_eq_true rfl) (Nat.le_of_ble_eq_true rfl) rfl (s_mIsSlot) (fun h9 => G_ifne1 15 d_Mod_give_12 17 rfl rfl ?_) (fun h9 => G_ifne0 15 d_Mod_give_12 17 rfl rfl ?_)
    · obtain ⟨k, hk, rfl⟩ := h9
      have q2 := bN_t hk (show 6 < 2 ^ 31 by omega)
      have z2 := ni_nI (show k < 2 ^ 31 by omega)
      simp only [fGive, q1, q2, z1, z2, Bool.and_self, if_true]
      refine G_aload0 18 d_Mod_give_17 rfl ?_
      refine G_bipushN 6 20 d_Mod_give_18 rfl rfl ?_
      refine G_iload1 21 d_Mod_give_20 rfl ?_
      first | refine G_iaddN 22 d_Mod_give_21 rfl ?_ | refine G_iadd 22 d_Mod_give_21 rfl ?_
      refine G_iload2 23 d_Mod_give_22 rfl ?_
      refine G_invV2v 26 d_Mod_give_23 rfl e_Mod_208 M_Mod_copyTo rfl h.sh (Nat.le_of_ble_eq_true rfl) (Nat.le_of_ble_eq_true rfl) rfl (s_mCopy (by assumption) (by omega) (by omega)) ?_
      refine G_aload0 27 d_Mod_give_26 rfl ?_
      refine G_iload2 28 d_Mod_give_27 rfl ?_
      refine G_invV1d 31 d_Mod_give_28 rfl e_Mod_202 M_Mod_termsIn rfl h.sh (Nat.le_of_ble_eq_true rfl) (Nat.le_of_ble_eq_true rfl) rfl (s_mTerms (by assumption) (by omega)) ?_
      refine G_iret d_Mod_give_31 rfl ?_
      have e1 : mp (sp AL b k (mp AL b (6 + i))) b k = gP (tG S) i := by rw [mp_sp, mp_cu, eg]
      exact ⟨by rw [e1], rfl, hI.s1 hW hk (fun c hc => by rw [sp_off hc]) e1 (fun p h13 hp => by rw [mp_spn hp]), fM.al (fun c hc => by rw [sp_off hc])⟩
    · have q2 := bN_f h9 (show 6 < 2 ^ 31 by omega)
      simp only [fGive, q2, Bool.and_false, Bool.false_eq_true, if_false]
      refine G_iconst (-1) 16 d_Mod_give_15 rfl rfl ?_
      refine G_iret d_Mod_give_16 rfl ?_
      exact ⟨rfl, rfl, hI, fM.rf⟩
  · have q1 := bN_f h2 (show gN (tG S) < 2 ^ 31 by omega)
    simp only [fGive, q1, Bool.false_and, Bool.false_eq_true, if_false]
    refine G_iconst (-1) 16 d_Mod_give_15 rfl rfl ?_
    refine G_iret d_Mod_give_16 rfl ?_
    exact ⟨rfl, rfl, hI, fM.rf⟩
