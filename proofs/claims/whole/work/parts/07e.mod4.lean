/-! ===== the reference: TURNS, what is worth, ORDER ===== -/
def ltr (k i : Nat) : Nat := (([[0, 1, 2], [0, 2, 1], [1, 0, 2], [1, 2, 0], [2, 0, 1], [2, 1, 0]] : List (List Nat)).getD k []).getD i 0
theorem s_mLetter {V : GV} {d k i : Nat} {X : XT} {FI AI : FT} {AL : LT} (hk : k < 6) (hi : i < 3) : G V m_Mod_letter d 0 [some (.int (nI k)), some (.int (nI i))] [] X FI AI AL (Pd (some (.int (nI (ltr k i)))) X FI AI AL) := by
  have hi3 : i = 0 ∨ i = 1 ∨ i = 2 := by omega
  have hk6 : k = 0 ∨ k = 1 ∨ k = 2 ∨ k = 3 ∨ k = 4 ∨ k = 5 := by omega
  refine G_iload0 1 d_Mod_letter_0 rfl ?_
  rcases hk6 with rfl | rfl | rfl | rfl | rfl | rfl
  · refine G_tableIn 36 d_Mod_letter_1 (by decide) (by decide) rfl rfl ?_
    rcases hi3 with rfl | rfl | rfl
    · refine G_iload1 37 d_Mod_letter_36 rfl ?_
      refine G_iret d_Mod_letter_37 rfl ?_
      exact Pd.rf
    · refine G_iload1 37 d_Mod_letter_36 rfl ?_
      refine G_iret d_Mod_letter_37 rfl ?_
      exact Pd.rf
    · refine G_iload1 37 d_Mod_letter_36 rfl ?_
      refine G_iret d_Mod_letter_37 rfl ?_
      exact Pd.rf
  · refine G_tableIn 38 d_Mod_letter_1 (by decide) (by decide) rfl rfl ?_
    rcases hi3 with rfl | rfl | rfl
    · refine G_iload1 39 d_Mod_letter_38 rfl ?_
      refine G_ifne 46 42 d_Mod_letter_39 rfl rfl (fun h39 => ?_) (fun h39 => ?_)
      · refine G_iconst (3) 47 d_Mod_letter_46 rfl rfl ?_
        refine G_iload1 48 d_Mod_letter_47 rfl ?_
        refine G_isub 49 d_Mod_letter_48 rfl ?_
        refine G_iret d_Mod_letter_49 rfl ?_
        first | exact Pd.rf | exact absurd h39 (by decide) | exact absurd rfl h39
      · refine G_iconst (0) 43 d_Mod_letter_42 rfl rfl ?_
        refine G_goto 49 d_Mod_letter_43 rfl ?_
        refine G_iret d_Mod_letter_49 rfl ?_
        first | exact Pd.rf | exact absurd h39 (by decide) | exact absurd rfl h39
    · refine G_iload1 39 d_Mod_letter_38 rfl ?_
      refine G_ifne 46 42 d_Mod_letter_39 rfl rfl (fun h39 => ?_) (fun h39 => ?_)
      · refine G_iconst (3) 47 d_Mod_letter_46 rfl rfl ?_
        refine G_iload1 48 d_Mod_letter_47 rfl ?_
        refine G_isub 49 d_Mod_letter_48 rfl ?_
        refine G_iret d_Mod_letter_49 rfl ?_
        first | exact Pd.rf | exact absurd h39 (by decide) | exact absurd rfl h39
      · refine G_iconst (0) 43 d_Mod_letter_42 rfl rfl ?_
        refine G_goto 49 d_Mod_letter_43 rfl ?_
        refine G_iret d_Mod_letter_49 rfl ?_
        first | exact Pd.rf | exact absurd h39 (by decide) | exact absurd rfl h39
    · refine G_iload1 39 d_Mod_letter_38 rfl ?_
      refine G_ifne 46 42 d_Mod_letter_39 rfl rfl (fun h39 => ?_) (fun h39 => ?_)
      · refine G_iconst (3) 47 d_Mod_letter_46 rfl rfl ?_
        refine G_iload1 48 d_Mod_letter_47 rfl ?_
        refine G_isub 49 d_Mod_letter_48 rfl ?_
        refine G_iret d_Mod_letter_49 rfl ?_
        first | exact Pd.rf | exact absurd h39 (by decide) | exact absurd rfl h39
      · refine G_iconst (0) 43 d_Mod_letter_42 rfl rfl ?_
        refine G_goto 49 d_Mod_letter_43 rfl ?_
        refine G_iret d_Mod_letter_49 rfl ?_
        first | exact Pd.rf | exact absurd h39 (by decide) | exact absurd rfl h39
  · refine G_tableIn 50 d_Mod_letter_1 (by decide) (by decide) rfl rfl ?_
    rcases hi3 with rfl | rfl | rfl
    · refine G_iload1 51 d_Mod_letter_50 rfl ?_
      refine G_iconst (2) 52 d_Mod_letter_51 rfl rfl ?_
      refine G_icne 59 55 d_Mod_letter_52 rfl rfl (fun h52 => ?_) (fun h52 => ?_)
      · refine G_iconst (1) 60 d_Mod_letter_59 rfl rfl ?_
        refine G_iload1 61 d_Mod_letter_60 rfl ?_
        refine G_isub 62 d_Mod_letter_61 rfl ?_
        refine G_iret d_Mod_letter_62 rfl ?_
        first | exact Pd.rf | exact absurd h52 (by decide) | exact absurd rfl h52
      · refine G_iconst (2) 56 d_Mod_letter_55 rfl rfl ?_
        refine G_goto 62 d_Mod_letter_56 rfl ?_
        refine G_iret d_Mod_letter_62 rfl ?_
        first | exact Pd.rf | exact absurd h52 (by decide) | exact absurd rfl h52
    · refine G_iload1 51 d_Mod_letter_50 rfl ?_
      refine G_iconst (2) 52 d_Mod_letter_51 rfl rfl ?_
      refine G_icne 59 55 d_Mod_letter_52 rfl rfl (fun h52 => ?_) (fun h52 => ?_)
      · refine G_iconst (1) 60 d_Mod_letter_59 rfl rfl ?_
        refine G_iload1 61 d_Mod_letter_60 rfl ?_
        refine G_isub 62 d_Mod_letter_61 rfl ?_
        refine G_iret d_Mod_letter_62 rfl ?_
        first | exact Pd.rf | exact absurd h52 (by decide) | exact absurd rfl h52
      · refine G_iconst (2) 56 d_Mod_letter_55 rfl rfl ?_
        refine G_goto 62 d_Mod_letter_56 rfl ?_
        refine G_iret d_Mod_letter_62 rfl ?_
        first | exact Pd.rf | exact absurd h52 (by decide) | exact absurd rfl h52
    · refine G_iload1 51 d_Mod_letter_50 rfl ?_
      refine G_iconst (2) 52 d_Mod_letter_51 rfl rfl ?_
      refine G_icne 59 55 d_Mod_letter_52 rfl rfl (fun h52 => ?_) (fun h52 => ?_)
      · refine G_iconst (1) 60 d_Mod_letter_59 rfl rfl ?_
        refine G_iload1 61 d_Mod_letter_60 rfl ?_
        refine G_isub 62 d_Mod_letter_61 rfl ?_
        refine G_iret d_Mod_letter_62 rfl ?_
        first | exact Pd.rf | exact absurd h52 (by decide) | exact absurd rfl h52
      · refine G_iconst (2) 56 d_Mod_letter_55 rfl rfl ?_
        refine G_goto 62 d_Mod_letter_56 rfl ?_
        refine G_iret d_Mod_letter_62 rfl ?_
        first | exact Pd.rf | exact absurd h52 (by decide) | exact absurd rfl h52
  · refine G_tableIn 63 d_Mod_letter_1 (by decide) (by decide) rfl rfl ?_
    rcases hi3 with rfl | rfl | rfl
    · refine G_iload1 64 d_Mod_letter_63 rfl ?_
      refine G_iconst (1) 65 d_Mod_letter_64 rfl rfl ?_
      refine G_iadd 66 d_Mod_letter_65 rfl ?_
      refine G_iconst (3) 67 d_Mod_letter_66 rfl rfl ?_
      refine G_irem 68 d_Mod_letter_67 rfl (by decide) ?_
      refine G_iret d_Mod_letter_68 rfl ?_
      exact Pd.rf
    · refine G_iload1 64 d_Mod_letter_63 rfl ?_
      refine G_iconst (1) 65 d_Mod_letter_64 rfl rfl ?_
      refine G_iadd 66 d_Mod_letter_65 rfl ?_
      refine G_iconst (3) 67 d_Mod_letter_66 rfl rfl ?_
      refine G_irem 68 d_Mod_letter_67 rfl (by decide) ?_
      refine G_iret d_Mod_letter_68 rfl ?_
      exact Pd.rf
    · refine G_iload1 64 d_Mod_letter_63 rfl ?_
      refine G_iconst (1) 65 d_Mod_letter_64 rfl rfl ?_
      refine G_iadd 66 d_Mod_letter_65 rfl ?_
      refine G_iconst (3) 67 d_Mod_letter_66 rfl rfl ?_
      refine G_irem 68 d_Mod_letter_67 rfl (by decide) ?_
      refine G_iret d_Mod_letter_68 rfl ?_
      exact Pd.rf
  · refine G_tableIn 69 d_Mod_letter_1 (by decide) (by decide) rfl rfl ?_
    rcases hi3 with rfl | rfl | rfl
    · refine G_iload1 70 d_Mod_letter_69 rfl ?_
      refine G_iconst (2) 71 d_Mod_letter_70 rfl rfl ?_
      refine G_iadd 72 d_Mod_letter_71 rfl ?_
      refine G_iconst (3) 73 d_Mod_letter_72 rfl rfl ?_
      refine G_irem 74 d_Mod_letter_73 rfl (by decide) ?_
      refine G_iret d_Mod_letter_74 rfl ?_
      exact Pd.rf
    · refine G_iload1 70 d_Mod_letter_69 rfl ?_
      refine G_iconst (2) 71 d_Mod_letter_70 rfl rfl ?_
      refine G_iadd 72 d_Mod_letter_71 rfl ?_
      refine G_iconst (3) 73 d_Mod_letter_72 rfl rfl ?_
      refine G_irem 74 d_Mod_letter_73 rfl (by decide) ?_
      refine G_iret d_Mod_letter_74 rfl ?_
      exact Pd.rf
    · refine G_iload1 70 d_Mod_letter_69 rfl ?_
      refine G_iconst (2) 71 d_Mod_letter_70 rfl rfl ?_
      refine G_iadd 72 d_Mod_letter_71 rfl ?_
      refine G_iconst (3) 73 d_Mod_letter_72 rfl rfl ?_
      refine G_irem 74 d_Mod_letter_73 rfl (by decide) ?_
      refine G_iret d_Mod_letter_74 rfl ?_
      exact Pd.rf
  · refine G_tableOut 75 d_Mod_letter_1 (Or.inr (by decide)) rfl ?_
    rcases hi3 with rfl | rfl | rfl
    · refine G_iconst (2) 76 d_Mod_letter_75 rfl rfl ?_
      refine G_iload1 77 d_Mod_letter_76 rfl ?_
      refine G_isub 78 d_Mod_letter_77 rfl ?_
      refine G_iret d_Mod_letter_78 rfl ?_
      exact Pd.rf
    · refine G_iconst (2) 76 d_Mod_letter_75 rfl rfl ?_
      refine G_iload1 77 d_Mod_letter_76 rfl ?_
      refine G_isub 78 d_Mod_letter_77 rfl ?_
      refine G_iret d_Mod_letter_78 rfl ?_
      exact Pd.rf
    · refine G_iconst (2) 76 d_Mod_letter_75 rfl rfl ?_
      refine G_iload1 77 d_Mod_letter_76 rfl ?_
      refine G_isub 78 d_Mod_letter_77 rfl ?_
      refine G_iret d_Mod_letter_78 rfl ?_
      exact Pd.rf
theorem ltr_lt : ∀ k, k < 6 → ∀ i, i < 3 → ltr k i < 3 := by decide +kernel
def tndc (k l : Nat) : Bool := decide ((ltr k 0 = l → eU (3 * k + l) = 0) ∧ (ltr k 1 = l → eU (3 * k + l) = 1) ∧ (ltr k 2 = l → eU (3 * k + l) = 2) ∧ (ltr k 0 = l ∨ ltr k 1 = l ∨ ltr k 2 = l) ∧ ¬ (ltr k 0 = l ∧ ltr k 1 = l) ∧ ¬ (ltr k 0 = l ∧ ltr k 2 = l) ∧ ¬ (ltr k 1 = l ∧ ltr k 2 = l))
theorem tnd0 : ((List.range 6).all fun k => (List.range 3).all fun l => tndc k l) = true := by decide +kernel
theorem tnd {k l : Nat} (t : Nat) (hk : k < 6) (hl : l < 3) : (if ltr k 0 = l then eX t else 0) + (if ltr k 1 = l then eY t else 0) + (if ltr k 2 = l then eZ t else 0) = ex t (eU (3 * k + l)) := by
  obtain ⟨a0, a1, a2, a3, a4, a5, a6⟩ := of_decide_eq_true (all2 tnd0 hk hl)
  rcases a3 with e | e | e
  · rw [if_pos e, if_neg (fun x => a4 ⟨e, x⟩), if_neg (fun x => a5 ⟨e, x⟩), a0 e]; rfl
  · rw [if_pos e, if_neg (fun x => a4 ⟨x, e⟩), if_neg (fun x => a6 ⟨e, x⟩), a1 e, Nat.zero_add]; rfl
  · rw [if_pos e, if_neg (fun x => a5 ⟨x, e⟩), if_neg (fun x => a6 ⟨x, e⟩), a2 e, Nat.zero_add]; rfl
theorem s_mTurned {V : GV} {d b t k l : Nat} {X : XT} {FI AI : FT} {AL : LT} (h : MO X b) (hT : MTb AI b) (ht : t < 84) (hk : k < 6) (hl : l < 3) : G V m_Mod_turned (d + 1) 0 [some (.ref b), some (.int (nI t)), some (.int (nI k)), some (.int (nI l)), none] [] X FI AI AL (Pd (some (.int (nI (ex t (eU (3 * k + l)))))) X FI AI AL) := by
  have e0 := ltr_lt k hk 0 (by omega)
  have e1 := ltr_lt k hk 1 (by omega)
  have e2 := ltr_lt k hk 2 (by omega)
  have T := hT.1 t ht
  refine G_iload2 1 d_Mod_turned_0 rfl ?_
  refine G_iconstN 0 2 d_Mod_turned_1 rfl rfl ?_
  refine G_invS2d 5 d_Mod_turned_2 rfl e_Mod_220 M_Mod_letter (Nat.le_of_ble_eq_true rfl) (Nat.le_of_ble_eq_true rfl) rfl (s_mLetter (by omega) (by omega)) ?_
  refine G_iload3 6 d_Mod_turned_5 rfl ?_
  first | refine G_icneN 18 9 d_Mod_turned_6 rfl rfl (by omega) (by omega) (fun h6 => ?_) (fun h6 => ?_) | refine G_icne 18 9 d_Mod_turned_6 rfl rfl (fun h6 => ?_) (fun h6 => ?_)
  · refine G_iconstN 0 19 d_Mod_turned_18 rfl rfl ?_
    refine G_istore4 21 d_Mod_turned_19 rfl (by decide) rfl ?_
    refine G_iload4 23 d_Mod_turned_21 rfl ?_
    refine G_iload2 24 d_Mod_turned_23 rfl ?_
    refine G_iconstN 1 25 d_Mod_turned_24 rfl rfl ?_
    refine G_invS2d 28 d_Mod_turned_25 rfl e_Mod_220 M_Mod_letter (Nat.le_of_ble_eq_true rfl) (Nat.le_of_ble_eq_true rfl) rfl (s_mLetter (by omega) (by omega)) ?_
    refine G_iload3 29 d_Mod_turned_28 rfl ?_
    first | refine G_icneN 41 32 d_Mod_turned_29 rfl rfl (by omega) (by omega) (fun h29 => ?_) (fun h29 => ?_) | refine G_icne 41 32 d_Mod_turned_29 rfl rfl (fun h29 => ?_) (fun h29 => ?_)
    · refine G_iconstN 0 42 d_Mod_turned_41 rfl rfl ?_
      first | refine G_iaddN 43 d_Mod_turned_42 rfl ?_ | refine G_iadd 43 d_Mod_turned_42 rfl ?_
      refine G_istore4 45 d_Mod_turned_43 rfl (by decide) rfl ?_
      refine G_iload4 47 d_Mod_turned_45 rfl ?_
      refine G_iload2 48 d_Mod_turned_47 rfl ?_
      refine G_iconstN 2 49 d_Mod_turned_48 rfl rfl ?_
      refine G_invS2d 52 d_Mod_turned_49 rfl e_Mod_220 M_Mod_letter (Nat.le_of_ble_eq_true rfl) (Nat.le_of_ble_eq_true rfl) rfl (s_mLetter (by omega) (by omega)) ?_
      refine G_iload3 53 d_Mod_turned_52 rfl ?_
      first | refine G_icneN 65 56 d_Mod_turned_53 rfl rfl (by omega) (by omega) (fun h53 => ?_) (fun h53 => ?_) | refine G_icne 65 56 d_Mod_turned_53 rfl rfl (fun h53 => ?_) (fun h53 => ?_)
      · refine G_iconstN 0 66 d_Mod_turned_65 rfl rfl ?_
        first | refine G_iaddN 67 d_Mod_turned_66 rfl ?_ | refine G_iadd 67 d_Mod_turned_66 rfl ?_
        refine G_iret d_Mod_turned_67 rfl ?_
        exact ⟨by rw [← tnd t hk hl]; simp [h6, h29, h53], rfl, rfl, rfl, rfl⟩
      · refine G_aload0 57 d_Mod_turned_56 rfl ?_
        refine G_getR 60 d_Mod_turned_57 rfl f_Mod_25 rfl h.sh h.f4 ?_
        refine G_iload1 61 d_Mod_turned_60 rfl ?_
        refine G_ialoadv 62 d_Mod_turned_61 rfl h.s4 (ix_nI (by omega) (by omega)) T.2.2 ?_
        refine G_goto 66 d_Mod_turned_62 rfl ?_
        first | refine G_iaddN 67 d_Mod_turned_66 rfl ?_ | refine G_iadd 67 d_Mod_turned_66 rfl ?_
        refine G_iret d_Mod_turned_67 rfl ?_
        exact ⟨by rw [← tnd t hk hl]; simp [h6, h29, h53], rfl, rfl, rfl, rfl⟩
    · refine G_aload0 33 d_Mod_turned_32 rfl ?_
      refine G_getR 36 d_Mod_turned_33 rfl f_Mod_22 rfl h.sh h.f3 ?_
      refine G_iload1 37 d_Mod_turned_36 rfl ?_
      refine G_ialoadv 38 d_Mod_turned_37 rfl h.s3 (ix_nI (by omega) (by omega)) T.2.1 ?_
      refine G_goto 42 d_Mod_turned_38 rfl ?_
      first | refine G_iaddN 43 d_Mod_turned_42 rfl ?_ | refine G_iadd 43 d_Mod_turned_42 rfl ?_
      refine G_istore4 45 d_Mod_turned_43 rfl (by decide) rfl ?_
      refine G_iload4 47 d_Mod_turned_45 rfl ?_
      refine G_iload2 48 d_Mod_turned_47 rfl ?_
      refine G_iconstN 2 49 d_Mod_turned_48 rfl rfl ?_
      refine G_invS2d 52 d_Mod_turned_49 rfl e_Mod_220 M_Mod_letter (Nat.le_of_ble_eq_true rfl) (Nat.le_of_ble_eq_true rfl) rfl (s_mLetter (by omega) (by omega)) ?_
      refine G_iload3 53 d_Mod_turned_52 rfl ?_
      first | refine G_icneN 65 56 d_Mod_turned_53 rfl rfl (by omega) (by omega) (fun h53 => ?_) (fun h53 => ?_) | refine G_icne 65 56 d_Mod_turned_53 rfl rfl (fun h53 => ?_) (fun h53 => ?_)
      · refine G_iconstN 0 66 d_Mod_turned_65 rfl rfl ?_
        first | refine G_iaddN 67 d_Mod_turned_66 rfl ?_ | refine G_iadd 67 d_Mod_turned_66 rfl ?_
        refine G_iret d_Mod_turned_67 rfl ?_
        exact ⟨by rw [← tnd t hk hl]; simp [h6, h29, h53], rfl, rfl, rfl, rfl⟩
      · refine G_aload0 57 d_Mod_turned_56 rfl ?_
        refine G_getR 60 d_Mod_turned_57 rfl f_Mod_25 rfl h.sh h.f4 ?_
        refine G_iload1 61 d_Mod_turned_60 rfl ?_
        refine G_ialoadv 62 d_Mod_turned_61 rfl h.s4 (ix_nI (by omega) (by omega)) T.2.2 ?_
        refine G_goto 66 d_Mod_turned_62 rfl ?_
        first | refine G_iaddN 67 d_Mod_turned_66 rfl ?_ | refine G_iadd 67 d_Mod_turned_66 rfl ?_
        refine G_iret d_Mod_turned_67 rfl ?_
        exact ⟨by rw [← tnd t hk hl]; simp [h6, h29, h53], rfl, rfl, rfl, rfl⟩
  · refine G_aload0 10 d_Mod_turned_9 rfl ?_
    refine G_getR 13 d_Mod_turned_10 rfl f_Mod_18 rfl h.sh h.f2 ?_
    refine G_iload1 14 d_Mod_turned_13 rfl ?_
    refine G_ialoadv 15 d_Mod_turned_14 rfl h.s2 (ix_nI (by omega) (by omega)) T.1 ?_
    refine G_goto 19 d_Mod_turned_15 rfl ?_
    refine G_istore4 21 d_Mod_turned_19 rfl (by decide) rfl ?_
    refine G_iload4 23 d_Mod_turned_21 rfl ?_
    refine G_iload2 24 d_Mod_turned_23 rfl ?_
    refine G_iconstN 1 25 d_Mod_turned_24 rfl rfl ?_
    refine G_invS2d 28 d_Mod_turned_25 rfl e_Mod_220 M_Mod_letter (Nat.le_of_ble_eq_true rfl) (Nat.le_of_ble_eq_true rfl) rfl (s_mLetter (by omega) (by omega)) ?_
    refine G_iload3 29 d_Mod_turned_28 rfl ?_
    first | refine G_icneN 41 32 d_Mod_turned_29 rfl rfl (by omega) (by omega) (fun h29 => ?_) (fun h29 => ?_) | refine G_icne 41 32 d_Mod_turned_29 rfl rfl (fun h29 => ?_) (fun h29 => ?_)
    · refine G_iconstN 0 42 d_Mod_turned_41 rfl rfl ?_
      first | refine G_iaddN 43 d_Mod_turned_42 rfl ?_ | refine G_iadd 43 d_Mod_turned_42 rfl ?_
      refine G_istore4 45 d_Mod_turned_43 rfl (by decide) rfl ?_
      refine G_iload4 47 d_Mod_turned_45 rfl ?_
      refine G_iload2 48 d_Mod_turned_47 rfl ?_
      refine G_iconstN 2 49 d_Mod_turned_48 rfl rfl ?_
      refine G_invS2d 52 d_Mod_turned_49 rfl e_Mod_220 M_Mod_letter (Nat.le_of_ble_eq_true rfl) (Nat.le_of_ble_eq_true rfl) rfl (s_mLetter (by omega) (by omega)) ?_
      refine G_iload3 53 d_Mod_turned_52 rfl ?_
      first | refine G_icneN 65 56 d_Mod_turned_53 rfl rfl (by omega) (by omega) (fun h53 => ?_) (fun h53 => ?_) | refine G_icne 65 56 d_Mod_turned_53 rfl rfl (fun h53 => ?_) (fun h53 => ?_)
      · refine G_iconstN 0 66 d_Mod_turned_65 rfl rfl ?_
        first | refine G_iaddN 67 d_Mod_turned_66 rfl ?_ | refine G_iadd 67 d_Mod_turned_66 rfl ?_
        refine G_iret d_Mod_turned_67 rfl ?_
        exact ⟨by rw [← tnd t hk hl]; simp [h6, h29, h53], rfl, rfl, rfl, rfl⟩
      · refine G_aload0 57 d_Mod_turned_56 rfl ?_
        refine G_getR 60 d_Mod_turned_57 rfl f_Mod_25 rfl h.sh h.f4 ?_
        refine G_iload1 61 d_Mod_turned_60 rfl ?_
        refine G_ialoadv 62 d_Mod_turned_61 rfl h.s4 (ix_nI (by omega) (by omega)) T.2.2 ?_
        refine G_goto 66 d_Mod_turned_62 rfl ?_
        first | refine G_iaddN 67 d_Mod_turned_66 rfl ?_ | refine G_iadd 67 d_Mod_turned_66 rfl ?_
        refine G_iret d_Mod_turned_67 rfl ?_
        exact ⟨by rw [← tnd t hk hl]; simp [h6, h29, h53], rfl, rfl, rfl, rfl⟩
    · refine G_aload0 33 d_Mod_turned_32 rfl ?_
      refine G_getR 36 d_Mod_turned_33 rfl f_Mod_22 rfl h.sh h.f3 ?_
      refine G_iload1 37 d_Mod_turned_36 rfl ?_
      refine G_ialoadv 38 d_Mod_turned_37 rfl h.s3 (ix_nI (by omega) (by omega)) T.2.1 ?_
      refine G_goto 42 d_Mod_turned_38 rfl ?_
      first | refine G_iaddN 43 d_Mod_turned_42 rfl ?_ | refine G_iadd 43 d_Mod_turned_42 rfl ?_
      refine G_istore4 45 d_Mod_turned_43 rfl (by decide) rfl ?_
      refine G_iload4 47 d_Mod_turned_45 rfl ?_
      refine G_iload2 48 d_Mod_turned_47 rfl ?_
      refine G_iconstN 2 49 d_Mod_turned_48 rfl rfl ?_
      refine G_invS2d 52 d_Mod_turned_49 rfl e_Mod_220 M_Mod_letter (Nat.le_of_ble_eq_true rfl) (Nat.le_of_ble_eq_true rfl) rfl (s_mLetter (by omega) (by omega)) ?_
      refine G_iload3 53 d_Mod_turned_52 rfl ?_
      first | refine G_icneN 65 56 d_Mod_turned_53 rfl rfl (by omega) (by omega) (fun h53 => ?_) (fun h53 => ?_) | refine G_icne 65 56 d_Mod_turned_53 rfl rfl (fun h53 => ?_) (fun h53 => ?_)
      · refine G_iconstN 0 66 d_Mod_turned_65 rfl rfl ?_
        first | refine G_iaddN 67 d_Mod_turned_66 rfl ?_ | refine G_iadd 67 d_Mod_turned_66 rfl ?_
        refine G_iret d_Mod_turned_67 rfl ?_
        exact ⟨by rw [← tnd t hk hl]; simp [h6, h29, h53], rfl, rfl, rfl, rfl⟩
      · refine G_aload0 57 d_Mod_turned_56 rfl ?_
        refine G_getR 60 d_Mod_turned_57 rfl f_Mod_25 rfl h.sh h.f4 ?_
        refine G_iload1 61 d_Mod_turned_60 rfl ?_
        refine G_ialoadv 62 d_Mod_turned_61 rfl h.s4 (ix_nI (by omega) (by omega)) T.2.2 ?_
        refine G_goto 66 d_Mod_turned_62 rfl ?_
        first | refine G_iaddN 67 d_Mod_turned_66 rfl ?_ | refine G_iadd 67 d_Mod_turned_66 rfl ?_
        refine G_iret d_Mod_turned_67 rfl ?_
        exact ⟨by rw [← tnd t hk hl]; simp [h6, h29, h53], rfl, rfl, rfl, rfl⟩
theorem s_mTurnTo {V : GV} {d b p q k : Nat} {X : XT} {FI AI : FT} {AL : LT} (h : MO X b) (hT : MTb AI b) (hq : q < 20) (hk : k < 6) (hp : p < 20) (hne : q ≠ p) : G V m_Mod_turnTo (d + 2) 0 [some (.ref b), some (.int (nI q)), some (.int (nI k)), some (.int (nI p)), none, none] [] X FI AI AL (Pd none X FI AI (sp AL b p (trn (mp AL b q) k))) := by
  have L : ∀ t, t ≤ 84 → ∀ l5 : Option Value, G V m_Mod_turnTo (d + 2) 8 [some (.ref b), some (.int (nI q)), some (.int (nI k)), some (.int (nI p)), some (.int (nI t)), l5] [] X FI AI (sp AL b p (fun j => if tpl j (kinv k) < t then mp AL b q (tpl j (kinv k)) else 0)) (Pd none X FI AI (sp AL b p (trn (mp AL b q) k))) := by
    refine upto ?_ ?_
    · intro l5
      rw [sp_congr (f := fun j => if tpl j (kinv k) < 84 then mp AL b q (tpl j (kinv k)) else 0) (g := trn (mp AL b q) k) (fun j hj => by simp [trn, hj, (turn_ok k hk j hj).2.2.2])]
      refine G_iload4 10 d_Mod_turnTo_8 rfl ?_
      refine G_bipushN 84 12 d_Mod_turnTo_10 rfl rfl ?_
      first | refine G_icgeN 75 15 d_Mod_turnTo_12 rfl rfl (by omega) (by omega) (fun h12 => ?_) (fun h12 => ?_) | refine G_icge 75 15 d_Mod_turnTo_12 rfl rfl (fun h12 => ?_) (fun h12 => ?_)
      · refine G_vret d_Mod_turnTo_75 rfl ?_
        exact Pd.rf
      · omega
    · intro t ht ih l5
      obtain ⟨w1, w2, -⟩ := turn_ok k hk t ht
      obtain ⟨v1, -⟩ := tpl_ok k hk t ht
      have e0 : sp AL b p (fun j => if tpl j (kinv k) < t then mp AL b q (tpl j (kinv k)) else 0) (b + 1) (84 * q + t) = mp AL b q t := sp_rdn ht hne
      have e1 : u2 (sp AL b p (fun j => if tpl j (kinv k) < t then mp AL b q (tpl j (kinv k)) else 0)) (b + 1) (84 * p + tpl t k) (mp AL b q t) = sp AL b p (fun j => if tpl j (kinv k) < t + 1 then mp AL b q (tpl j (kinv k)) else 0) := by
        rw [sp_u2 w1]
        refine sp_congr (fun j hj => ?_)
        have ho := turn_ok k hk j hj
        by_cases e : j = tpl t k
        · subst e
          rw [if_pos rfl, w2, if_pos (by omega)]
        · have e1 : ¬ tpl j (kinv k) = t := fun e1 => e (by rw [← e1]; exact ho.2.2.1.symm)
          rw [if_neg e]
          by_cases e2 : tpl j (kinv k) < t
          · rw [if_pos e2, if_pos (by omega)]
          · rw [if_neg e2, if_neg (by omega)]
      have e3 : pl (ex t (eU (3 * k + 0))) (ex t (eU (3 * k + 1))) (ex t (eU (3 * k + 2))) = tpl t k := rfl
      have v2 : ex t (eU (3 * k + 0)) + ex t (eU (3 * k + 1)) + ex t (eU (3 * k + 2)) ≤ 6 := v1
      refine G_iload4 10 d_Mod_turnTo_8 rfl ?_
      refine G_bipushN 84 12 d_Mod_turnTo_10 rfl rfl ?_
      first | refine G_icgeN 75 15 d_Mod_turnTo_12 rfl rfl (by omega) (by omega) (fun h12 => ?_) (fun h12 => ?_) | refine G_icge 75 15 d_Mod_turnTo_12 rfl rfl (fun h12 => ?_) (fun h12 => ?_)
      · omega
      · refine G_aload0 16 d_Mod_turnTo_15 rfl ?_
        refine G_aload0 17 d_Mod_turnTo_16 rfl ?_
        refine G_iload4 19 d_Mod_turnTo_17 rfl ?_
        refine G_iload2 20 d_Mod_turnTo_19 rfl ?_
        refine G_iconstN 0 21 d_Mod_turnTo_20 rfl rfl ?_
        refine G_invV3d 24 d_Mod_turnTo_21 rfl e_Mod_224 M_Mod_turned rfl h.sh (Nat.le_of_ble_eq_true rfl) (Nat.le_of_ble_eq_true rfl) rfl (s_mTurned (by assumption) (by assumption) (by omega) (by omega) (by omega)) ?_
        refine G_aload0 25 d_Mod_turnTo_24 rfl ?_
        refine G_iload4 27 d_Mod_turnTo_25 rfl ?_
        refine G_iload2 28 d_Mod_turnTo_27 rfl ?_
        refine G_iconstN 1 29 d_Mod_turnTo_28 rfl rfl ?_
        refine G_invV3d 32 d_Mod_turnTo_29 rfl e_Mod_224 M_Mod_turned rfl h.sh (Nat.le_of_ble_eq_true rfl) (Nat.le_of_ble_eq_true rfl) rfl (s_mTurned (by assumption) (by assumption) (by omega) (by omega) (by omega)) ?_
        refine G_aload0 33 d_Mod_turnTo_32 rfl ?_
        refine G_iload4 35 d_Mod_turnTo_33 rfl ?_
        refine G_iload2 36 d_Mod_turnTo_35 rfl ?_
        refine G_iconstN 2 37 d_Mod_turnTo_36 rfl rfl ?_
        refine G_invV3d 40 d_Mod_turnTo_37 rfl e_Mod_224 M_Mod_turned rfl h.sh (Nat.le_of_ble_eq_true rfl) (Nat.le_of_ble_eq_true rfl) rfl (s_mTurned (by assumption) (by assumption) (by omega) (by omega) (by omega)) ?_
        refine G_invV3d 43 d_Mod_turnTo_40 rfl e_Mod_176 M_Mod_termOf rfl h.sh (Nat.le_of_ble_eq_true rfl) (Nat.le_of_ble_eq_true rfl) rfl (s_mTermOf h hT v2) ?_
        rw [e3]
        refine G_istore5 45 d_Mod_turnTo_43 rfl (by decide) rfl ?_
        refine G_aload0 46 d_Mod_turnTo_45 rfl ?_
        refine G_getR 49 d_Mod_turnTo_46 rfl f_Mod_9 rfl h.sh h.f0 ?_
        refine G_bipushN 84 51 d_Mod_turnTo_49 rfl rfl ?_
        refine G_iload3 52 d_Mod_turnTo_51 rfl ?_
        first | refine G_imulN 53 d_Mod_turnTo_52 rfl ?_ | refine G_imul 53 d_Mod_turnTo_52 rfl ?_
        refine G_iload5 55 d_Mod_turnTo_53 rfl ?_
        first | refine G_iaddN 56 d_Mod_turnTo_55 rfl ?_ | refine G_iadd 56 d_Mod_turnTo_55 rfl ?_
        refine G_aload0 57 d_Mod_turnTo_56 rfl ?_
        refine G_getR 60 d_Mod_turnTo_57 rfl f_Mod_9 rfl h.sh h.f0 ?_
        refine G_bipushN 84 62 d_Mod_turnTo_60 rfl rfl ?_
        refine G_iload1 63 d_Mod_turnTo_62 rfl ?_
        first | refine G_imulN 64 d_Mod_turnTo_63 rfl ?_ | refine G_imul 64 d_Mod_turnTo_63 rfl ?_
        refine G_iload4 66 d_Mod_turnTo_64 rfl ?_
        first | refine G_iaddN 67 d_Mod_turnTo_66 rfl ?_ | refine G_iadd 67 d_Mod_turnTo_66 rfl ?_
        refine G_laloadv 68 d_Mod_turnTo_67 rfl h.s0 (ix_nI (by omega) (by omega)) e0 ?_
        refine G_lastore 69 d_Mod_turnTo_68 rfl h.s0 (ix_nI (by omega) (by omega)) ?_
        first | refine G_iincN4 72 d_Mod_turnTo_69 rfl (by decide) rfl ?_ | refine G_iinc4 _ 72 d_Mod_turnTo_69 rfl (by decide) rfl rfl ?_
        refine G_goto 8 d_Mod_turnTo_72 rfl ?_
        rw [e1]
        exact ih _
  refine G_aload0 1 d_Mod_turnTo_0 rfl ?_
  refine G_iload3 2 d_Mod_turnTo_1 rfl ?_
  refine G_invV1v 5 d_Mod_turnTo_2 rfl e_Mod_162 M_Mod_clearAt rfl h.sh (Nat.le_of_ble_eq_true rfl) (Nat.le_of_ble_eq_true rfl) rfl (s_mClear (by assumption) (by omega)) ?_
  refine G_iconstN 0 6 d_Mod_turnTo_5 rfl rfl ?_
  refine G_istore4 8 d_Mod_turnTo_6 rfl (by decide) rfl ?_
  have := L 0 (by omega) none
  rw [sp_congr (f := fun j => if tpl j (kinv k) < 0 then mp AL b q (tpl j (kinv k)) else 0) (g := fun _ => 0) (fun j hj => by rw [if_neg (by omega)])] at this
  exact this
theorem lfm_mod {x : Int64} {m : Nat} (h0 : 0 < m) (hm : m < 2 ^ 31) : (if x - x / lN m * lN m < 0 then x - x / lN m * lN m + lN m else x - x / lN m * lN m) = lN (md x m) := by
  rw [← lfm_md x h0 hm]
  have hmi : (lN m).toInt = (m : Int) := lN_ti (by omega)
  have hr : (x - x / lN m * lN m).toInt = x.toInt.tmod m := by rw [lrem_mod, Int64.toInt_mod, hmi]
  unfold lfm
  by_cases hx : x.toInt < 0
  · have hxn := (xor_neg (x := x) (y := lN m) (by omega)).mpr hx
    by_cases hz : x - x / lN m * lN m = 0
    · rw [hz, if_neg (by decide), if_neg (fun e => e.2 rfl)]
    · have hle : x.toInt.tmod m ≤ 0 := by
        have := Int.tmod_nonneg (a := -x.toInt) (m : Int) (by omega)
        rw [Int.neg_tmod] at this
        omega
      have hne : x.toInt.tmod m ≠ 0 := fun e => hz (Int64.toInt_inj.mp (by rw [hr, e]; rfl))
      rw [if_pos (by rw [Int64.lt_iff_toInt_lt, hr]; show _ < (0 : Int); omega), if_pos ⟨hxn, hz⟩]
  · have hxn : ¬ (x ^^^ lN m < 0) := fun h => hx ((xor_neg (by omega)).mp h)
    have hge : 0 ≤ x.toInt.tmod m := Int.tmod_nonneg (m : Int) (by omega)
    rw [if_neg (by rw [Int64.lt_iff_toInt_lt, hr]; show ¬ _ < (0 : Int); omega), if_neg (fun e => hxn e.1)]
theorem s_mModulo {V : GV} {d m : Nat} {x : Int64} {X : XT} {FI AI : FT} {AL : LT} (h0 : 0 < m) (hm : m ≤ 1000000) : G V m_Mod_modulo d 0 [some (.long x), none, some (.long (lN m)), none, none, none] [] X FI AI AL (Pd (some (.long (lN (md x m)))) X FI AI AL) := by
  have hm0 : ¬ lN m = 0 := lN_ne0 h0 (by omega)
  have hv := lfm_mod (x := x) h0 (by omega)
  refine G_lload0 1 d_Mod_modulo_0 rfl ?_
  refine G_lload2 2 d_Mod_modulo_1 rfl ?_
  refine G_lrem 3 d_Mod_modulo_2 rfl (by assumption) ?_
  refine G_lstore4 5 d_Mod_modulo_3 rfl (by decide) rfl ?_
  refine G_lload4 7 d_Mod_modulo_5 rfl ?_
  refine G_lconst 0 8 d_Mod_modulo_7 rfl rfl ?_
  refine G_lcge 19 12 d_Mod_modulo_8 d_Mod_modulo_9 rfl rfl (fun h8 => ?_) (fun h8 => ?_)
  · rw [if_neg h8] at hv
    refine G_lload4 21 d_Mod_modulo_19 rfl ?_
    refine G_lret d_Mod_modulo_21 rfl ?_
    exact ⟨by rw [hv], rfl, rfl, rfl, rfl⟩
  · rw [if_pos h8] at hv
    refine G_lload4 14 d_Mod_modulo_12 rfl ?_
    refine G_lload2 15 d_Mod_modulo_14 rfl ?_
    refine G_ladd 16 d_Mod_modulo_15 rfl ?_
    refine G_goto 21 d_Mod_modulo_16 rfl ?_
    refine G_lret d_Mod_modulo_21 rfl ?_
    exact ⟨by rw [hv], rfl, rfl, rfl, rfl⟩
theorem s_mPower {V : GV} {d e m : Nat} {w : Int64} {X : XT} {FI AI : FT} {AL : LT} (h0 : 0 < m) (h2 : 2 ≤ m) (hm : m ≤ 1000000) (he : e < 2 ^ 31) : G V m_Mod_power (d + 1) 0 [some (.long w), none, some (.int (nI e)), some (.long (lN m)), none, none, none, none] [] X FI AI AL (Pd (some (.long (lN (tp 1 (md w m) e m)))) X FI AI AL) := by
  have hb := md_lt w h0
  have hm0 : ¬ lN m = 0 := lN_ne0 h0 (by omega)
  have L : ∀ i, i ≤ e → G V m_Mod_power (d + 1) 8 [some (.long w), none, some (.int (nI e)), some (.long (lN m)), none, some (.long (lN (tp 1 (md w m) i m))), none, some (.int (nI i))] [] X FI AI AL (Pd (some (.long (lN (tp 1 (md w m) e m)))) X FI AI AL) := by
    refine upto ?_ ?_
    · refine G_iload7 10 d_Mod_power_8 rfl ?_
      refine G_iload2 11 d_Mod_power_10 rfl ?_
      first | refine G_icgeN 32 14 d_Mod_power_11 rfl rfl (by omega) (by omega) (fun h11 => ?_) (fun h11 => ?_) | refine G_icge 32 14 d_Mod_power_11 rfl rfl (fun h11 => ?_) (fun h11 => ?_)
      · refine G_lload5 34 d_Mod_power_32 rfl ?_
        refine G_lret d_Mod_power_34 rfl ?_
        exact Pd.rf
      · omega
    · intro i hi ih
      have ht := tp_lt (b := md w m) h0 (show 1 < m by omega) i
      have hlt : tp 1 (md w m) i m * md w m < 1000000 * 1000000 := Nat.mul_lt_mul_of_lt_of_le (by omega) (by omega) (by omega)
      refine G_iload7 10 d_Mod_power_8 rfl ?_
      refine G_iload2 11 d_Mod_power_10 rfl ?_
      first | refine G_icgeN 32 14 d_Mod_power_11 rfl rfl (by omega) (by omega) (fun h11 => ?_) (fun h11 => ?_) | refine G_icge 32 14 d_Mod_power_11 rfl rfl (fun h11 => ?_) (fun h11 => ?_)
      · omega
      · refine G_lload5 16 d_Mod_power_14 rfl ?_
        refine G_lload0 17 d_Mod_power_16 rfl ?_
        refine G_lload3 18 d_Mod_power_17 rfl ?_
        refine G_invS2d 21 d_Mod_power_18 rfl e_Mod_245 M_Mod_modulo (Nat.le_of_ble_eq_true rfl) (Nat.le_of_ble_eq_true rfl) rfl (s_mModulo (by assumption) (by omega)) ?_
        refine G_lmul 22 d_Mod_power_21 rfl ?_
        refine G_lload3 23 d_Mod_power_22 rfl ?_
        refine G_lrem 24 d_Mod_power_23 rfl (by assumption) ?_
        rw [lN_mul, pk_lRem (by omega) h0 (by omega)]
        refine G_lstore5 26 d_Mod_power_24 rfl (by decide) rfl ?_
        first | refine G_iincN7 29 d_Mod_power_26 rfl (by decide) rfl ?_ | refine G_iinc7 _ 29 d_Mod_power_26 rfl (by decide) rfl rfl ?_
        refine G_goto 8 d_Mod_power_29 rfl ?_
        exact ih
  have e1 : (1 : Int64) - 1 / lN m * lN m = lN 1 := by
    have := pk_lRem (a := 1) (b := m) (by omega) h0 (by omega)
    rw [Nat.mod_eq_of_lt (by omega)] at this
    exact this
  refine G_lconst 1 1 d_Mod_power_0 rfl rfl ?_
  refine G_lload3 2 d_Mod_power_1 rfl ?_
  refine G_lrem 3 d_Mod_power_2 rfl (by assumption) ?_
  rw [e1]
  refine G_lstore5 5 d_Mod_power_3 rfl (by decide) rfl ?_
  refine G_iconstN 0 6 d_Mod_power_5 rfl rfl ?_
  refine G_istore7 8 d_Mod_power_6 rfl (by decide) rfl ?_
  exact L 0 (by omega)
theorem tp_one {a b m : Nat} (ha : a < m) : ∀ e, a * tp 1 b e m % m = tp a b e m
  | 0 => by rw [tp, tp, Nat.mul_one, Nat.mod_eq_of_lt ha]
  | e + 1 => by rw [tp, tp, ← tp_one ha e, Nat.mul_mod_mod, ← Nat.mul_assoc, Nat.mod_mul_mod]
theorem s_mWorth {V : GV} {d b p m : Nat} {x y z : Int32} {X : XT} {FI AI : FT} {AL : LT} (h : MO X b) (hT : MTb AI b) (hp : p < 20) (h2 : 2 ≤ m) (hm : m ≤ 1000000) : G V m_Mod_worth (d + 2) 0 [some (.ref b), some (.int (nI p)), some (.int x), some (.int y), some (.int z), some (.long (lN m)), none, none, none, none, none, none] [] X FI AI AL (Pd (some (.long (lN (cw (mp AL b p) (md x.toInt64 m) (md y.toInt64 m) (md z.toInt64 m) m 84)))) X FI AI AL) := by
  have h0 : 0 < m := by omega
  have hm0 : ¬ lN m = 0 := lN_ne0 h0 (by omega)
  have L : ∀ k, k ≤ 84 → ∀ l10 l11 : Option Value, G V m_Mod_worth (d + 2) 6 [some (.ref b), some (.int (nI p)), some (.int x), some (.int y), some (.int z), some (.long (lN m)), none, some (.long (lN (cw (mp AL b p) (md x.toInt64 m) (md y.toInt64 m) (md z.toInt64 m) m k))), none, some (.int (nI k)), l10, l11] [] X FI AI AL (Pd (some (.long (lN (cw (mp AL b p) (md x.toInt64 m) (md y.toInt64 m) (md z.toInt64 m) m 84)))) X FI AI AL) := by
    refine upto ?_ ?_
    · intro l10 l11
      refine G_iload9 8 d_Mod_worth_6 rfl ?_
      refine G_bipushN 84 10 d_Mod_worth_8 rfl rfl ?_
      first | refine G_icgeN 108 13 d_Mod_worth_10 rfl rfl (by omega) (by omega) (fun h10 => ?_) (fun h10 => ?_) | refine G_icge 108 13 d_Mod_worth_10 rfl rfl (fun h10 => ?_) (fun h10 => ?_)
      · refine G_lload7 110 d_Mod_worth_108 rfl ?_
        refine G_lret d_Mod_worth_110 rfl ?_
        exact Pd.rf
      · omega
    · intro k hk ih l10 l11
      have ek := e_le hk
      have T := hT.1 k hk
      have hc := cw_lt (f := mp AL b p) (bx := md x.toInt64 m) (by_ := md y.toInt64 m) (bz := md z.toInt64 m) h0 k
      have hd := md_lt (mp AL b p k) h0
      have p1 := tp_lt (b := md x.toInt64 m) h0 (show 1 < m by omega) (eX k)
      have p2 := tp_lt (b := md y.toInt64 m) h0 (show 1 < m by omega) (eY k)
      have p3 := tp_lt (b := md z.toInt64 m) h0 (show 1 < m by omega) (eZ k)
      have t1 := tp_lt (b := md x.toInt64 m) h0 hd (eX k)
      have t2 := tp_lt (b := md y.toInt64 m) h0 t1 (eY k)
      have t3 := tp_lt (b := md z.toInt64 m) h0 t2 (eZ k)
      have q1 : md (mp AL b p k) m * tp 1 (md x.toInt64 m) (eX k) m < 1000000 * 1000000 := Nat.mul_lt_mul_of_lt_of_le (by omega) (by omega) (by omega)
      have q2 : tp (md (mp AL b p k) m) (md x.toInt64 m) (eX k) m * tp 1 (md y.toInt64 m) (eY k) m < 1000000 * 1000000 := Nat.mul_lt_mul_of_lt_of_le (by omega) (by omega) (by omega)
      have q3 : tp (tp (md (mp AL b p k) m) (md x.toInt64 m) (eX k) m) (md y.toInt64 m) (eY k) m * tp 1 (md z.toInt64 m) (eZ k) m < 1000000 * 1000000 := Nat.mul_lt_mul_of_lt_of_le (by omega) (by omega) (by omega)
      rw [cw, ← tp_one t2 (eZ k), Nat.add_mod_mod] at ih
      refine G_iload9 8 d_Mod_worth_6 rfl ?_
      refine G_bipushN 84 10 d_Mod_worth_8 rfl rfl ?_
      first | refine G_icgeN 108 13 d_Mod_worth_10 rfl rfl (by omega) (by omega) (fun h10 => ?_) (fun h10 => ?_) | refine G_icge 108 13 d_Mod_worth_10 rfl rfl (fun h10 => ?_) (fun h10 => ?_)
      · omega
      · refine G_aload0 14 d_Mod_worth_13 rfl ?_
        refine G_getR 17 d_Mod_worth_14 rfl f_Mod_9 rfl h.sh h.f0 ?_
        refine G_bipushN 84 19 d_Mod_worth_17 rfl rfl ?_
        refine G_iload1 20 d_Mod_worth_19 rfl ?_
        first | refine G_imulN 21 d_Mod_worth_20 rfl ?_ | refine G_imul 21 d_Mod_worth_20 rfl ?_
        refine G_iload9 23 d_Mod_worth_21 rfl ?_
        first | refine G_iaddN 24 d_Mod_worth_23 rfl ?_ | refine G_iadd 24 d_Mod_worth_23 rfl ?_
        refine G_laload 25 d_Mod_worth_24 rfl h.s0 (ix_nI (by omega) (by omega)) ?_
        rw [← mp_at (AL := AL) (b := b) (p := p) hk]
        refine G_lload5 27 d_Mod_worth_25 rfl ?_
        refine G_invS2d 30 d_Mod_worth_27 rfl e_Mod_245 M_Mod_modulo (Nat.le_of_ble_eq_true rfl) (Nat.le_of_ble_eq_true rfl) rfl (s_mModulo (by assumption) (by omega)) ?_
        refine G_lstore10 32 d_Mod_worth_30 rfl (by decide) rfl ?_
        refine G_lload10 34 d_Mod_worth_32 rfl ?_
        refine G_iload2 35 d_Mod_worth_34 rfl ?_
        refine G_i2l 36 d_Mod_worth_35 rfl ?_
        refine G_aload0 37 d_Mod_worth_36 rfl ?_
        refine G_getR 40 d_Mod_worth_37 rfl f_Mod_18 rfl h.sh h.f2 ?_
        refine G_iload9 42 d_Mod_worth_40 rfl ?_
        refine G_ialoadv 43 d_Mod_worth_42 rfl h.s2 (ix_nI (by omega) (by omega)) T.1 ?_
        refine G_lload5 45 d_Mod_worth_43 rfl ?_
        refine G_invS3d 48 d_Mod_worth_45 rfl e_Mod_248 M_Mod_power (Nat.le_of_ble_eq_true rfl) (Nat.le_of_ble_eq_true rfl) rfl (s_mPower (by assumption) (by assumption) (by omega) (by omega)) ?_
        refine G_lmul 49 d_Mod_worth_48 rfl ?_
        refine G_lload5 51 d_Mod_worth_49 rfl ?_
        refine G_lrem 52 d_Mod_worth_51 rfl (by assumption) ?_
        rw [lN_mul, pk_lRem (by omega) h0 (by omega), tp_one hd]
        refine G_lstore10 54 d_Mod_worth_52 rfl (by decide) rfl ?_
        refine G_lload10 56 d_Mod_worth_54 rfl ?_
        refine G_iload3 57 d_Mod_worth_56 rfl ?_
        refine G_i2l 58 d_Mod_worth_57 rfl ?_
        refine G_aload0 59 d_Mod_worth_58 rfl ?_
        refine G_getR 62 d_Mod_worth_59 rfl f_Mod_22 rfl h.sh h.f3 ?_
        refine G_iload9 64 d_Mod_worth_62 rfl ?_
        refine G_ialoadv 65 d_Mod_worth_64 rfl h.s3 (ix_nI (by omega) (by omega)) T.2.1 ?_
        refine G_lload5 67 d_Mod_worth_65 rfl ?_
        refine G_invS3d 70 d_Mod_worth_67 rfl e_Mod_248 M_Mod_power (Nat.le_of_ble_eq_true rfl) (Nat.le_of_ble_eq_true rfl) rfl (s_mPower (by assumption) (by assumption) (by omega) (by omega)) ?_
        refine G_lmul 71 d_Mod_worth_70 rfl ?_
        refine G_lload5 73 d_Mod_worth_71 rfl ?_
        refine G_lrem 74 d_Mod_worth_73 rfl (by assumption) ?_
        rw [lN_mul, pk_lRem (by omega) h0 (by omega), tp_one t1]
        refine G_lstore10 76 d_Mod_worth_74 rfl (by decide) rfl ?_
        refine G_lload7 78 d_Mod_worth_76 rfl ?_
        refine G_lload10 80 d_Mod_worth_78 rfl ?_
        refine G_iload4 82 d_Mod_worth_80 rfl ?_
        refine G_i2l 83 d_Mod_worth_82 rfl ?_
        refine G_aload0 84 d_Mod_worth_83 rfl ?_
        refine G_getR 87 d_Mod_worth_84 rfl f_Mod_25 rfl h.sh h.f4 ?_
        refine G_iload9 89 d_Mod_worth_87 rfl ?_
        refine G_ialoadv 90 d_Mod_worth_89 rfl h.s4 (ix_nI (by omega) (by omega)) T.2.2 ?_
        refine G_lload5 92 d_Mod_worth_90 rfl ?_
        refine G_invS3d 95 d_Mod_worth_92 rfl e_Mod_248 M_Mod_power (Nat.le_of_ble_eq_true rfl) (Nat.le_of_ble_eq_true rfl) rfl (s_mPower (by assumption) (by assumption) (by omega) (by omega)) ?_
        refine G_lmul 96 d_Mod_worth_95 rfl ?_
        refine G_ladd 97 d_Mod_worth_96 rfl ?_
        refine G_lload5 99 d_Mod_worth_97 rfl ?_
        refine G_lrem 100 d_Mod_worth_99 rfl (by assumption) ?_
        rw [lN_mul, lN_add, pk_lRem (by omega) h0 (by omega)]
        refine G_lstore7 102 d_Mod_worth_100 rfl (by decide) rfl ?_
        first | refine G_iincN9 105 d_Mod_worth_102 rfl (by decide) rfl ?_ | refine G_iinc9 _ 105 d_Mod_worth_102 rfl (by decide) rfl rfl ?_
        refine G_goto 6 d_Mod_worth_105 rfl ?_
        exact ih _ _
  refine G_lconst 0 1 d_Mod_worth_0 rfl rfl ?_
  refine G_lstore7 3 d_Mod_worth_1 rfl (by decide) rfl ?_
  refine G_iconstN 0 4 d_Mod_worth_3 rfl rfl ?_
  refine G_istore9 6 d_Mod_worth_4 rfl (by decide) rfl ?_
  exact L 0 (by omega) none none
