/-! ===== the reference lays the ROWS of a TERM ===== -/
theorem u2_u2 {α : Type} (F : Nat → Nat → α) (a i : Nat) (x y : α) : u2 (u2 F a i x) a i y = u2 F a i y := by
  funext b j; unfold u2; split
  · split <;> rfl
  · rfl
def MGl (AI : FT) (b n : Nat) (gl : Nat → Nat) : Prop := ∀ i, i < n → AI (b + 9) i = nI (gl i) ∧ gl i < 84 ∧ 1 ≤ eD (gl i)
theorem s_mFits {V : GV} {d a e : Nat} {X : XT} {FI AI : FT} {AL : LT} (ha : a ≤ 6) (he : e ≤ 6) : G V m_Mod_fits d 0 [some (.int (nI a)), some (.int (nI e))] [] X FI AI AL (Pd (some (.int (nI (fit a e)))) X FI AI AL) := by
  have hz : ¬ nI e = 0 → ¬ e = 0 := fun h e0 => h (by rw [e0]; rfl)
  have hz2 : nI e = 0 → e = 0 := fun h => by
    rcases Nat.eq_zero_or_pos e with e0 | e0
    · exact e0
    · exact absurd h (nI_ne0 e0 (by omega))
  refine G_iload1 1 d_Mod_fits_0 rfl ?_
  refine G_ifne 9 4 d_Mod_fits_1 rfl rfl (fun h1 => ?_) (fun h1 => ?_)
  · refine G_iload0 10 d_Mod_fits_9 rfl ?_
    refine G_iload1 11 d_Mod_fits_10 rfl ?_
    refine G_idiv 12 d_Mod_fits_11 rfl (by assumption) ?_
    refine G_iret d_Mod_fits_12 rfl ?_
    exact ⟨by unfold fit; first | rw [if_pos (hz2 h1)] | rw [if_neg (hz h1), pk_div (by omega) (by have := hz h1; omega) (by omega)], rfl, rfl, rfl, rfl⟩
  · refine G_bipushN 6 6 d_Mod_fits_4 rfl rfl ?_
    refine G_goto 12 d_Mod_fits_6 rfl ?_
    refine G_iret d_Mod_fits_12 rfl ?_
    exact ⟨by unfold fit; first | rw [if_pos (hz2 h1)] | rw [if_neg (hz h1), pk_div (by omega) (by have := hz h1; omega) (by omega)], rfl, rfl, rfl, rfl⟩
theorem fit_6 {a e : Nat} (h : a ≤ 6) : fit a e ≤ 6 := by
  unfold fit; split
  · exact Nat.le_refl _
  · exact Nat.le_trans (Nat.div_le_self _ _) h
theorem s_mMost {V : GV} {d b g l x y z : Nat} {X : XT} {FI AI : FT} {AL : LT} (h : MO X b) (hT : MTb AI b) (hg : g < 7) (hl : AI (b + 9) g = nI l) (hl2 : l < 84) (hs : x + y + z ≤ 6) (hx : AI (b + 23) g = nI x) (hy : AI (b + 24) g = nI y) (hz : AI (b + 25) g = nI z) : G V m_Mod_most (d + 1) 0 [some (.ref b), some (.int (nI g)), none, none] [] X FI AI AL (Pd (some (.int (nI (mst l x y z)))) X FI AI AL) := by
  have T := hT.1 l hl2
  have el := e_le hl2
  have f1 := fit_6 (a := x) (e := eX l) (by omega)
  have f2 := fit_6 (a := y) (e := eY l) (by omega)
  have f3 := fit_6 (a := z) (e := eZ l) (by omega)
  refine G_aload0 1 d_Mod_most_0 rfl ?_
  refine G_getR 4 d_Mod_most_1 rfl f_Mod_37 rfl h.sh h.f10 ?_
  refine G_iload1 5 d_Mod_most_4 rfl ?_
  refine G_ialoadv 6 d_Mod_most_5 rfl h.s10 (ix_nI (by omega) (by omega)) hl ?_
  refine G_istore2 7 d_Mod_most_6 rfl (by decide) rfl ?_
  refine G_aload0 8 d_Mod_most_7 rfl ?_
  refine G_getR 11 d_Mod_most_8 rfl f_Mod_79 rfl h.sh h.f32 ?_
  refine G_iload1 12 d_Mod_most_11 rfl ?_
  refine G_ialoadv 13 d_Mod_most_12 rfl h.s32 (ix_nI (by omega) (by omega)) hx ?_
  refine G_aload0 14 d_Mod_most_13 rfl ?_
  refine G_getR 17 d_Mod_most_14 rfl f_Mod_18 rfl h.sh h.f2 ?_
  refine G_iload2 18 d_Mod_most_17 rfl ?_
  refine G_ialoadv 19 d_Mod_most_18 rfl h.s2 (ix_nI (by omega) (by omega)) T.1 ?_
  refine G_invS2d 22 d_Mod_most_19 rfl e_Mod_312 M_Mod_fits (Nat.le_of_ble_eq_true rfl) (Nat.le_of_ble_eq_true rfl) rfl (s_mFits (by omega) (by omega)) ?_
  refine G_istore3 23 d_Mod_most_22 rfl (by decide) rfl ?_
  refine G_aload0 24 d_Mod_most_23 rfl ?_
  refine G_getR 27 d_Mod_most_24 rfl f_Mod_82 rfl h.sh h.f33 ?_
  refine G_iload1 28 d_Mod_most_27 rfl ?_
  refine G_ialoadv 29 d_Mod_most_28 rfl h.s33 (ix_nI (by omega) (by omega)) hy ?_
  refine G_aload0 30 d_Mod_most_29 rfl ?_
  refine G_getR 33 d_Mod_most_30 rfl f_Mod_22 rfl h.sh h.f3 ?_
  refine G_iload2 34 d_Mod_most_33 rfl ?_
  refine G_ialoadv 35 d_Mod_most_34 rfl h.s3 (ix_nI (by omega) (by omega)) T.2.1 ?_
  refine G_invS2d 38 d_Mod_most_35 rfl e_Mod_312 M_Mod_fits (Nat.le_of_ble_eq_true rfl) (Nat.le_of_ble_eq_true rfl) rfl (s_mFits (by omega) (by omega)) ?_
  refine G_iload3 39 d_Mod_most_38 rfl ?_
  first | refine G_icgeN 60 42 d_Mod_most_39 rfl rfl (by omega) (by omega) (fun h39 => ?_) (fun h39 => ?_) | refine G_icge 60 42 d_Mod_most_39 rfl rfl (fun h39 => ?_) (fun h39 => ?_)
  · refine G_iload3 61 d_Mod_most_60 rfl ?_
    refine G_istore3 62 d_Mod_most_61 rfl (by decide) rfl ?_
    refine G_aload0 63 d_Mod_most_62 rfl ?_
    refine G_getR 66 d_Mod_most_63 rfl f_Mod_85 rfl h.sh h.f34 ?_
    refine G_iload1 67 d_Mod_most_66 rfl ?_
    refine G_ialoadv 68 d_Mod_most_67 rfl h.s34 (ix_nI (by omega) (by omega)) hz ?_
    refine G_aload0 69 d_Mod_most_68 rfl ?_
    refine G_getR 72 d_Mod_most_69 rfl f_Mod_25 rfl h.sh h.f4 ?_
    refine G_iload2 73 d_Mod_most_72 rfl ?_
    refine G_ialoadv 74 d_Mod_most_73 rfl h.s4 (ix_nI (by omega) (by omega)) T.2.2 ?_
    refine G_invS2d 77 d_Mod_most_74 rfl e_Mod_312 M_Mod_fits (Nat.le_of_ble_eq_true rfl) (Nat.le_of_ble_eq_true rfl) rfl (s_mFits (by omega) (by omega)) ?_
    refine G_iload3 78 d_Mod_most_77 rfl ?_
    first | refine G_icgeN 99 81 d_Mod_most_78 rfl rfl (by omega) (by omega) (fun h78 => ?_) (fun h78 => ?_) | refine G_icge 99 81 d_Mod_most_78 rfl rfl (fun h78 => ?_) (fun h78 => ?_)
    · refine G_iload3 100 d_Mod_most_99 rfl ?_
      refine G_iret d_Mod_most_100 rfl ?_
      exact ⟨by unfold mst; congr 1; congr 1; congr 1; omega, rfl, rfl, rfl, rfl⟩
    · refine G_aload0 82 d_Mod_most_81 rfl ?_
      refine G_getR 85 d_Mod_most_82 rfl f_Mod_85 rfl h.sh h.f34 ?_
      refine G_iload1 86 d_Mod_most_85 rfl ?_
      refine G_ialoadv 87 d_Mod_most_86 rfl h.s34 (ix_nI (by omega) (by omega)) hz ?_
      refine G_aload0 88 d_Mod_most_87 rfl ?_
      refine G_getR 91 d_Mod_most_88 rfl f_Mod_25 rfl h.sh h.f4 ?_
      refine G_iload2 92 d_Mod_most_91 rfl ?_
      refine G_ialoadv 93 d_Mod_most_92 rfl h.s4 (ix_nI (by omega) (by omega)) T.2.2 ?_
      refine G_invS2d 96 d_Mod_most_93 rfl e_Mod_312 M_Mod_fits (Nat.le_of_ble_eq_true rfl) (Nat.le_of_ble_eq_true rfl) rfl (s_mFits (by omega) (by omega)) ?_
      refine G_goto 100 d_Mod_most_96 rfl ?_
      refine G_iret d_Mod_most_100 rfl ?_
      exact ⟨by unfold mst; congr 1; congr 1; congr 1; omega, rfl, rfl, rfl, rfl⟩
  · refine G_aload0 43 d_Mod_most_42 rfl ?_
    refine G_getR 46 d_Mod_most_43 rfl f_Mod_82 rfl h.sh h.f33 ?_
    refine G_iload1 47 d_Mod_most_46 rfl ?_
    refine G_ialoadv 48 d_Mod_most_47 rfl h.s33 (ix_nI (by omega) (by omega)) hy ?_
    refine G_aload0 49 d_Mod_most_48 rfl ?_
    refine G_getR 52 d_Mod_most_49 rfl f_Mod_22 rfl h.sh h.f3 ?_
    refine G_iload2 53 d_Mod_most_52 rfl ?_
    refine G_ialoadv 54 d_Mod_most_53 rfl h.s3 (ix_nI (by omega) (by omega)) T.2.1 ?_
    refine G_invS2d 57 d_Mod_most_54 rfl e_Mod_312 M_Mod_fits (Nat.le_of_ble_eq_true rfl) (Nat.le_of_ble_eq_true rfl) rfl (s_mFits (by omega) (by omega)) ?_
    refine G_goto 61 d_Mod_most_57 rfl ?_
    refine G_istore3 62 d_Mod_most_61 rfl (by decide) rfl ?_
    refine G_aload0 63 d_Mod_most_62 rfl ?_
    refine G_getR 66 d_Mod_most_63 rfl f_Mod_85 rfl h.sh h.f34 ?_
    refine G_iload1 67 d_Mod_most_66 rfl ?_
    refine G_ialoadv 68 d_Mod_most_67 rfl h.s34 (ix_nI (by omega) (by omega)) hz ?_
    refine G_aload0 69 d_Mod_most_68 rfl ?_
    refine G_getR 72 d_Mod_most_69 rfl f_Mod_25 rfl h.sh h.f4 ?_
    refine G_iload2 73 d_Mod_most_72 rfl ?_
    refine G_ialoadv 74 d_Mod_most_73 rfl h.s4 (ix_nI (by omega) (by omega)) T.2.2 ?_
    refine G_invS2d 77 d_Mod_most_74 rfl e_Mod_312 M_Mod_fits (Nat.le_of_ble_eq_true rfl) (Nat.le_of_ble_eq_true rfl) rfl (s_mFits (by omega) (by omega)) ?_
    refine G_iload3 78 d_Mod_most_77 rfl ?_
    first | refine G_icgeN 99 81 d_Mod_most_78 rfl rfl (by omega) (by omega) (fun h78 => ?_) (fun h78 => ?_) | refine G_icge 99 81 d_Mod_most_78 rfl rfl (fun h78 => ?_) (fun h78 => ?_)
    · refine G_iload3 100 d_Mod_most_99 rfl ?_
      refine G_iret d_Mod_most_100 rfl ?_
      exact ⟨by unfold mst; congr 1; congr 1; congr 1; omega, rfl, rfl, rfl, rfl⟩
    · refine G_aload0 82 d_Mod_most_81 rfl ?_
      refine G_getR 85 d_Mod_most_82 rfl f_Mod_85 rfl h.sh h.f34 ?_
      refine G_iload1 86 d_Mod_most_85 rfl ?_
      refine G_ialoadv 87 d_Mod_most_86 rfl h.s34 (ix_nI (by omega) (by omega)) hz ?_
      refine G_aload0 88 d_Mod_most_87 rfl ?_
      refine G_getR 91 d_Mod_most_88 rfl f_Mod_25 rfl h.sh h.f4 ?_
      refine G_iload2 92 d_Mod_most_91 rfl ?_
      refine G_ialoadv 93 d_Mod_most_92 rfl h.s4 (ix_nI (by omega) (by omega)) T.2.2 ?_
      refine G_invS2d 96 d_Mod_most_93 rfl e_Mod_312 M_Mod_fits (Nat.le_of_ble_eq_true rfl) (Nat.le_of_ble_eq_true rfl) rfl (s_mFits (by omega) (by omega)) ?_
      refine G_goto 100 d_Mod_most_96 rfl ?_
      refine G_iret d_Mod_most_100 rfl ?_
      exact ⟨by unfold mst; congr 1; congr 1; congr 1; omega, rfl, rfl, rfl, rfl⟩
theorem s_mPassOn {V : GV} {d b g l q x y z : Nat} {X : XT} {FI AI : FT} {AL : LT} (h : MO X b) (hT : MTb AI b) (hg : g < 7) (hl : AI (b + 9) g = nI l) (hl2 : l < 84) (hx : AI (b + 23) g = nI x) (hy : AI (b + 24) g = nI y) (hz : AI (b + 25) g = nI z) (hq : AI (b + 26) g = nI q) (q1 : q * eX l ≤ x) (q2 : q * eY l ≤ y) (q3 : q * eZ l ≤ z) : G V m_Mod_passOn d 0 [some (.ref b), some (.int (nI g)), none] [] X FI AI AL (Pd none X FI (u2 (u2 (u2 AI (b + 23) (g + 1) (nI (x - q * eX l))) (b + 24) (g + 1) (nI (y - q * eY l))) (b + 25) (g + 1) (nI (z - q * eZ l))) AL) := by
  have T := hT.1 l hl2
  have n1 : ∀ (A : FT) (c i : Nat) (v : Int32), b + 24 ≠ c → u2 A c i v (b + 24) g = A (b + 24) g := fun A c i v hc => u2_ne _ _ _ _ hc
  refine G_aload0 1 d_Mod_passOn_0 rfl ?_
  refine G_getR 4 d_Mod_passOn_1 rfl f_Mod_37 rfl h.sh h.f10 ?_
  refine G_iload1 5 d_Mod_passOn_4 rfl ?_
  refine G_ialoadv 6 d_Mod_passOn_5 rfl h.s10 (ix_nI (by omega) (by omega)) hl ?_
  refine G_istore2 7 d_Mod_passOn_6 rfl (by decide) rfl ?_
  refine G_aload0 8 d_Mod_passOn_7 rfl ?_
  refine G_getR 11 d_Mod_passOn_8 rfl f_Mod_79 rfl h.sh h.f32 ?_
  refine G_iload1 12 d_Mod_passOn_11 rfl ?_
  refine G_iconstN 1 13 d_Mod_passOn_12 rfl rfl ?_
  first | refine G_iaddN 14 d_Mod_passOn_13 rfl ?_ | refine G_iadd 14 d_Mod_passOn_13 rfl ?_
  refine G_aload0 15 d_Mod_passOn_14 rfl ?_
  refine G_getR 18 d_Mod_passOn_15 rfl f_Mod_79 rfl h.sh h.f32 ?_
  refine G_iload1 19 d_Mod_passOn_18 rfl ?_
  refine G_ialoadv 20 d_Mod_passOn_19 rfl h.s32 (ix_nI (by omega) (by omega)) hx ?_
  refine G_aload0 21 d_Mod_passOn_20 rfl ?_
  refine G_getR 24 d_Mod_passOn_21 rfl f_Mod_88 rfl h.sh h.f35 ?_
  refine G_iload1 25 d_Mod_passOn_24 rfl ?_
  refine G_ialoadv 26 d_Mod_passOn_25 rfl h.s35 (ix_nI (by omega) (by omega)) hq ?_
  refine G_aload0 27 d_Mod_passOn_26 rfl ?_
  refine G_getR 30 d_Mod_passOn_27 rfl f_Mod_18 rfl h.sh h.f2 ?_
  refine G_iload2 31 d_Mod_passOn_30 rfl ?_
  refine G_ialoadv 32 d_Mod_passOn_31 rfl h.s2 (ix_nI (by omega) (by omega)) T.1 ?_
  first | refine G_imulN 33 d_Mod_passOn_32 rfl ?_ | refine G_imul 33 d_Mod_passOn_32 rfl ?_
  first | refine G_isubN 34 d_Mod_passOn_33 rfl (by omega) ?_ | refine G_isub 34 d_Mod_passOn_33 rfl ?_
  refine G_iastore 35 d_Mod_passOn_34 rfl h.s32 (ix_nI (by omega) (by omega)) ?_
  refine G_aload0 36 d_Mod_passOn_35 rfl ?_
  refine G_getR 39 d_Mod_passOn_36 rfl f_Mod_82 rfl h.sh h.f33 ?_
  refine G_iload1 40 d_Mod_passOn_39 rfl ?_
  refine G_iconstN 1 41 d_Mod_passOn_40 rfl rfl ?_
  first | refine G_iaddN 42 d_Mod_passOn_41 rfl ?_ | refine G_iadd 42 d_Mod_passOn_41 rfl ?_
  refine G_aload0 43 d_Mod_passOn_42 rfl ?_
  refine G_getR 46 d_Mod_passOn_43 rfl f_Mod_82 rfl h.sh h.f33 ?_
  refine G_iload1 47 d_Mod_passOn_46 rfl ?_
  refine G_ialoadv 48 d_Mod_passOn_47 rfl h.s33 (ix_nI (by omega) (by omega)) (by rw [u2_ne _ _ _ _ (by omega)]; exact hy : _ = nI y) ?_
  refine G_aload0 49 d_Mod_passOn_48 rfl ?_
  refine G_getR 52 d_Mod_passOn_49 rfl f_Mod_88 rfl h.sh h.f35 ?_
  refine G_iload1 53 d_Mod_passOn_52 rfl ?_
  refine G_ialoadv 54 d_Mod_passOn_53 rfl h.s35 (ix_nI (by omega) (by omega)) (by rw [u2_ne _ _ _ _ (by omega)]; exact hq : _ = nI q) ?_
  refine G_aload0 55 d_Mod_passOn_54 rfl ?_
  refine G_getR 58 d_Mod_passOn_55 rfl f_Mod_22 rfl h.sh h.f3 ?_
  refine G_iload2 59 d_Mod_passOn_58 rfl ?_
  refine G_ialoadv 60 d_Mod_passOn_59 rfl h.s3 (ix_nI (by omega) (by omega)) (by rw [u2_ne _ _ _ _ (by omega)]; exact T.2.1 : _ = nI (eY l)) ?_
  first | refine G_imulN 61 d_Mod_passOn_60 rfl ?_ | refine G_imul 61 d_Mod_passOn_60 rfl ?_
  first | refine G_isubN 62 d_Mod_passOn_61 rfl (by omega) ?_ | refine G_isub 62 d_Mod_passOn_61 rfl ?_
  refine G_iastore 63 d_Mod_passOn_62 rfl h.s33 (ix_nI (by omega) (by omega)) ?_
  refine G_aload0 64 d_Mod_passOn_63 rfl ?_
  refine G_getR 67 d_Mod_passOn_64 rfl f_Mod_85 rfl h.sh h.f34 ?_
  refine G_iload1 68 d_Mod_passOn_67 rfl ?_
  refine G_iconstN 1 69 d_Mod_passOn_68 rfl rfl ?_
  first | refine G_iaddN 70 d_Mod_passOn_69 rfl ?_ | refine G_iadd 70 d_Mod_passOn_69 rfl ?_
  refine G_aload0 71 d_Mod_passOn_70 rfl ?_
  refine G_getR 74 d_Mod_passOn_71 rfl f_Mod_85 rfl h.sh h.f34 ?_
  refine G_iload1 75 d_Mod_passOn_74 rfl ?_
  refine G_ialoadv 76 d_Mod_passOn_75 rfl h.s34 (ix_nI (by omega) (by omega)) (by rw [u2_ne _ _ _ _ (by omega), u2_ne _ _ _ _ (by omega)]; exact hz : _ = nI z) ?_
  refine G_aload0 77 d_Mod_passOn_76 rfl ?_
  refine G_getR 80 d_Mod_passOn_77 rfl f_Mod_88 rfl h.sh h.f35 ?_
  refine G_iload1 81 d_Mod_passOn_80 rfl ?_
  refine G_ialoadv 82 d_Mod_passOn_81 rfl h.s35 (ix_nI (by omega) (by omega)) (by rw [u2_ne _ _ _ _ (by omega), u2_ne _ _ _ _ (by omega)]; exact hq : _ = nI q) ?_
  refine G_aload0 83 d_Mod_passOn_82 rfl ?_
  refine G_getR 86 d_Mod_passOn_83 rfl f_Mod_25 rfl h.sh h.f4 ?_
  refine G_iload2 87 d_Mod_passOn_86 rfl ?_
  refine G_ialoadv 88 d_Mod_passOn_87 rfl h.s4 (ix_nI (by omega) (by omega)) (by rw [u2_ne _ _ _ _ (by omega), u2_ne _ _ _ _ (by omega)]; exact T.2.2 : _ = nI (eZ l)) ?_
  first | refine G_imulN 89 d_Mod_passOn_88 rfl ?_ | refine G_imul 89 d_Mod_passOn_88 rfl ?_
  first | refine G_isubN 90 d_Mod_passOn_89 rfl (by omega) ?_ | refine G_isub 90 d_Mod_passOn_89 rfl ?_
  refine G_iastore 91 d_Mod_passOn_90 rfl h.s34 (ix_nI (by omega) (by omega)) ?_
  refine G_vret d_Mod_passOn_91 rfl ?_
  exact Pd.rf
def noteR (AI : FT) (b n k : Nat) : Nat → Int32 := fun j => if 7 * k ≤ j ∧ j < 7 * k + 7 then (if j - 7 * k < n then AI (b + 26) (j - 7 * k) else 0) else AI (b + 22) j
theorem s_mNote {V : GV} {d b n k : Nat} {X : XT} {FI AI : FT} {AL : LT} (h : MO X b) (hn : n ≤ 7) (hk : FI b 30 = nI k) (hk2 : k < 128) : G V m_Mod_note d 0 [some (.ref b), some (.int (nI n)), none] [] X FI AI AL (Pd none X (u2 FI b 30 (nI (k + 1))) (sr AI (b + 22) (noteR AI b n k)) AL) := by
  have L : ∀ g, g ≤ 7 → G V m_Mod_note d 2 [some (.ref b), some (.int (nI n)), some (.int (nI g))] [] X FI (sr AI (b + 22) (fun j => if 7 * k ≤ j ∧ j < 7 * k + g then noteR AI b n k j else AI (b + 22) j)) AL (Pd none X (u2 FI b 30 (nI (k + 1))) (sr AI (b + 22) (noteR AI b n k)) AL) := by
    refine upto ?_ ?_
    · rw [show (fun j => if 7 * k ≤ j ∧ j < 7 * k + 7 then noteR AI b n k j else AI (b + 22) j) = noteR AI b n k from funext (fun j => by
        unfold noteR
        split
        · rfl
        · rfl)]
      refine G_iload2 3 d_Mod_note_2 rfl ?_
      refine G_bipushN 7 5 d_Mod_note_3 rfl rfl ?_
      first | refine G_icgeN 43 8 d_Mod_note_5 rfl rfl (by omega) (by omega) (fun h5 => ?_) (fun h5 => ?_) | refine G_icge 43 8 d_Mod_note_5 rfl rfl (fun h5 => ?_) (fun h5 => ?_)
      · refine G_aload0 44 d_Mod_note_43 rfl ?_
        refine G_dup 45 d_Mod_note_44 rfl rfl ?_
        refine G_getIv 48 d_Mod_note_45 rfl f_Mod_301 rfl h.sh hk ?_
        refine G_iconstN 1 49 d_Mod_note_48 rfl rfl ?_
        first | refine G_iaddN 50 d_Mod_note_49 rfl ?_ | refine G_iadd 50 d_Mod_note_49 rfl ?_
        refine G_putI 53 d_Mod_note_50 rfl f_Mod_301 rfl (by intro C T N h; cases h; rfl) h.sh rfl rfl ?_
        refine G_vret d_Mod_note_53 rfl ?_
        exact Pd.rf
      · omega
    · intro g hg ih
      have e0 : ∀ v, (v = if g < n then AI (b + 26) g else 0) → u2 (sr AI (b + 22) (fun j => if 7 * k ≤ j ∧ j < 7 * k + g then noteR AI b n k j else AI (b + 22) j)) (b + 22) (7 * k + g) v = sr AI (b + 22) (fun j => if 7 * k ≤ j ∧ j < 7 * k + (g + 1) then noteR AI b n k j else AI (b + 22) j) := by
        intro v hv
        rw [u2_sr]
        congr 1
        funext j
        by_cases c : j = 7 * k + g
        · rw [if_pos c, if_pos (by omega), noteR, if_pos (by omega), hv, show j - 7 * k = g by omega]
        · rw [if_neg c]
          by_cases c2 : 7 * k ≤ j ∧ j < 7 * k + g
          · rw [if_pos c2, if_pos (by omega)]
          · rw [if_neg c2, if_neg (by omega)]
      refine G_iload2 3 d_Mod_note_2 rfl ?_
      refine G_bipushN 7 5 d_Mod_note_3 rfl rfl ?_
      first | refine G_icgeN 43 8 d_Mod_note_5 rfl rfl (by omega) (by omega) (fun h5 => ?_) (fun h5 => ?_) | refine G_icge 43 8 d_Mod_note_5 rfl rfl (fun h5 => ?_) (fun h5 => ?_)
      · omega
      · refine G_aload0 9 d_Mod_note_8 rfl ?_
        refine G_getR 12 d_Mod_note_9 rfl f_Mod_76 rfl h.sh h.f31 ?_
        refine G_bipushN 7 14 d_Mod_note_12 rfl rfl ?_
        refine G_aload0 15 d_Mod_note_14 rfl ?_
        refine G_getIv 18 d_Mod_note_15 rfl f_Mod_301 rfl h.sh hk ?_
        first | refine G_imulN 19 d_Mod_note_18 rfl ?_ | refine G_imul 19 d_Mod_note_18 rfl ?_
        refine G_iload2 20 d_Mod_note_19 rfl ?_
        first | refine G_iaddN 21 d_Mod_note_20 rfl ?_ | refine G_iadd 21 d_Mod_note_20 rfl ?_
        refine G_iload2 22 d_Mod_note_21 rfl ?_
        refine G_iload1 23 d_Mod_note_22 rfl ?_
        first | refine G_icgeN 35 26 d_Mod_note_23 rfl rfl (by omega) (by omega) (fun h23 => ?_) (fun h23 => ?_) | refine G_icge 35 26 d_Mod_note_23 rfl rfl (fun h23 => ?_) (fun h23 => ?_)
        · have e1 := e0 0 (by rw [if_neg (by omega)])
          refine G_iconstN 0 36 d_Mod_note_35 rfl rfl ?_
          refine G_iastore 37 d_Mod_note_36 rfl h.s31 (ix_nI (by omega) (by omega)) ?_
          first | refine G_iincN2 40 d_Mod_note_37 rfl (by decide) rfl ?_ | refine G_iinc2 _ 40 d_Mod_note_37 rfl (by decide) rfl rfl ?_
          refine G_goto 2 d_Mod_note_40 rfl ?_
          first | (rw [e1]; exact ih) | (rw [show nI 0 = 0 from rfl, e1]; exact ih)
        · have e1 := e0 (AI (b + 26) g) (by rw [if_pos h23])
          refine G_aload0 27 d_Mod_note_26 rfl ?_
          refine G_getR 30 d_Mod_note_27 rfl f_Mod_88 rfl h.sh h.f35 ?_
          refine G_iload2 31 d_Mod_note_30 rfl ?_
          refine G_ialoadv 32 d_Mod_note_31 rfl h.s35 (ix_nI (by omega) (by omega)) (by rw [sr_ne _ _ (by omega)] : _ = AI (b + 26) g) ?_
          refine G_goto 36 d_Mod_note_32 rfl ?_
          refine G_iastore 37 d_Mod_note_36 rfl h.s31 (ix_nI (by omega) (by omega)) ?_
          first | refine G_iincN2 40 d_Mod_note_37 rfl (by decide) rfl ?_ | refine G_iinc2 _ 40 d_Mod_note_37 rfl (by decide) rfl rfl ?_
          refine G_goto 2 d_Mod_note_40 rfl ?_
          first | (rw [e1]; exact ih) | (rw [show nI 0 = 0 from rfl, e1]; exact ih)
  refine G_iconstN 0 1 d_Mod_note_0 rfl rfl ?_
  refine G_istore2 2 d_Mod_note_1 rfl (by decide) rfl ?_
  have := L 0 (by omega)
  rw [show (fun j => if 7 * k ≤ j ∧ j < 7 * k + 0 then noteR AI b n k j else AI (b + 22) j) = AI (b + 22) from funext (fun j => if_neg (by omega)), sr_self] at this
  exact this
