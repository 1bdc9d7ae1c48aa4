/-! ===== the class: link, count, move ===== -/
theorem s_isLink {V : GV} {d : Nat} {x n : Int32} {X : XT} {FI AI : FT} {AL : LT} : G V m_Alg_isLink (d + 1) 0 [some (.int x), some (.int n)] [] X FI AI AL (P01 (bLink x n = true) X FI AI AL) := by
  refine G_iload0 1 d_Alg_isLink_0 rfl ?_
  by_cases hx : isN x 7
  · obtain ⟨k, hk, rfl⟩ := hx
    have h7 : k = 0 ∨ k = 1 ∨ k = 2 ∨ k = 3 ∨ k = 4 ∨ k = 5 ∨ k = 6 := by omega
    rcases h7 with rfl | rfl | rfl | rfl | rfl | rfl | rfl
    · have e : bLink (nI 0) n = bN n 6 := rfl
      refine G_tableIn 44 d_Alg_isLink_1 (by decide) (by decide) rfl rfl ?_
      refine G_iload1 45 d_Alg_isLink_44 rfl ?_
      refine G_invS1b 48 d_Alg_isLink_45 rfl e_Alg_181 M_Alg_isTurn (Nat.le_of_ble_eq_true rfl) (Nat.le_of_ble_eq_true rfl) rfl (s_isTurn) (fun h45 => ?_) (fun h45 => ?_)
      · refine G_zret d_Alg_isLink_48 rfl ?_ ?_
        · exact Or.inr rfl
        · exact P01.t (by rw [e]; exact (bN_iff (by omega)).mpr h45)
      · refine G_zret d_Alg_isLink_48 rfl ?_ ?_
        · exact Or.inl rfl
        · exact P01.f (fun q => h45 ((bN_iff (by omega)).mp (by rw [e] at q; exact q)))
    · have e : bLink (nI 1) n = bB n (-999) 999 := rfl
      refine G_tableIn 49 d_Alg_isLink_1 (by decide) (by decide) rfl rfl ?_
      refine G_iload1 50 d_Alg_isLink_49 rfl ?_
      refine G_invS1b 53 d_Alg_isLink_50 rfl e_Alg_123 M_Alg_isFactor (Nat.le_of_ble_eq_true rfl) (Nat.le_of_ble_eq_true rfl) rfl (s_isFactor) (fun h50 => ?_) (fun h50 => ?_)
      · refine G_zret d_Alg_isLink_53 rfl ?_ ?_
        · exact Or.inr rfl
        · exact P01.t (by rw [e]; exact bB_iff.mpr h50)
      · refine G_zret d_Alg_isLink_53 rfl ?_ ?_
        · exact Or.inl rfl
        · exact P01.f (fun q => h50 (bB_iff.mp (by rw [e] at q; exact q)))
    · have e : bLink (nI 2) n = bN n 6 := rfl
      refine G_tableIn 54 d_Alg_isLink_1 (by decide) (by decide) rfl rfl ?_
      refine G_iload1 55 d_Alg_isLink_54 rfl ?_
      refine G_invS1b 58 d_Alg_isLink_55 rfl e_Alg_119 M_Alg_isSlot (Nat.le_of_ble_eq_true rfl) (Nat.le_of_ble_eq_true rfl) rfl (s_isSlot) (fun h55 => ?_) (fun h55 => ?_)
      · refine G_zret d_Alg_isLink_58 rfl ?_ ?_
        · exact Or.inr rfl
        · exact P01.t (by rw [e]; exact (bN_iff (by omega)).mpr h55)
      · refine G_zret d_Alg_isLink_58 rfl ?_ ?_
        · exact Or.inl rfl
        · exact P01.f (fun q => h55 ((bN_iff (by omega)).mp (by rw [e] at q; exact q)))
    · have e : bLink (nI 3) n = bN n 6 := rfl
      refine G_tableIn 54 d_Alg_isLink_1 (by decide) (by decide) rfl rfl ?_
      refine G_iload1 55 d_Alg_isLink_54 rfl ?_
      refine G_invS1b 58 d_Alg_isLink_55 rfl e_Alg_119 M_Alg_isSlot (Nat.le_of_ble_eq_true rfl) (Nat.le_of_ble_eq_true rfl) rfl (s_isSlot) (fun h55 => ?_) (fun h55 => ?_)
      · refine G_zret d_Alg_isLink_58 rfl ?_ ?_
        · exact Or.inr rfl
        · exact P01.t (by rw [e]; exact (bN_iff (by omega)).mpr h55)
      · refine G_zret d_Alg_isLink_58 rfl ?_ ?_
        · exact Or.inl rfl
        · exact P01.f (fun q => h55 ((bN_iff (by omega)).mp (by rw [e] at q; exact q)))
    · have e : bLink (nI 4) n = true := rfl
      refine G_tableIn 59 d_Alg_isLink_1 (by decide) (by decide) rfl rfl ?_
      refine G_iconstN 1 60 d_Alg_isLink_59 rfl rfl ?_
      refine G_zret d_Alg_isLink_60 rfl ?_ ?_
      · exact Or.inr rfl
      · exact P01.t e
    · have e : bLink (nI 5) n = bN n 6 := rfl
      refine G_tableIn 54 d_Alg_isLink_1 (by decide) (by decide) rfl rfl ?_
      refine G_iload1 55 d_Alg_isLink_54 rfl ?_
      refine G_invS1b 58 d_Alg_isLink_55 rfl e_Alg_119 M_Alg_isSlot (Nat.le_of_ble_eq_true rfl) (Nat.le_of_ble_eq_true rfl) rfl (s_isSlot) (fun h55 => ?_) (fun h55 => ?_)
      · refine G_zret d_Alg_isLink_58 rfl ?_ ?_
        · exact Or.inr rfl
        · exact P01.t (by rw [e]; exact (bN_iff (by omega)).mpr h55)
      · refine G_zret d_Alg_isLink_58 rfl ?_ ?_
        · exact Or.inl rfl
        · exact P01.f (fun q => h55 ((bN_iff (by omega)).mp (by rw [e] at q; exact q)))
    · have e : bLink (nI 6) n = true := rfl
      refine G_tableIn 59 d_Alg_isLink_1 (by decide) (by decide) rfl rfl ?_
      refine G_iconstN 1 60 d_Alg_isLink_59 rfl rfl ?_
      refine G_zret d_Alg_isLink_60 rfl ?_ ?_
      · exact Or.inr rfl
      · exact P01.t e
  · have q1 := bN_f hx (show 7 < 2 ^ 31 by omega)
    have e : ¬ bLink x n = true := by unfold bLink; rw [q1, Bool.false_and]; decide
    rw [isN_iff (by omega)] at hx
    refine G_tableOut 61 d_Alg_isLink_1 (by omega) rfl ?_
    refine G_iconstN 0 62 d_Alg_isLink_61 rfl rfl ?_
    refine G_zret d_Alg_isLink_62 rfl ?_ ?_
    · exact Or.inl rfl
    · exact P01.f e
theorem c_link {V : GV} {d lo C E : Nat} {S : ST} {x n : Int32} {X : XT} {FI AI : FT} {AL : LT} (h : CO X lo) (hI : CIv C E S X FI AI AL lo) (hW : WS S) : G V m_Alg_link (d + 2) 0 [some (.ref lo), some (.int x), some (.int n), none] [] X FI AI AL (fun r X' FI' AI' AL' => r = some (.int (fLink S x n).1) ∧ CO X' lo ∧ CIv C E (fLink S x n).2 X' FI' AI' AL' lo ∧ cF X X' FI FI' AI AI' AL AL' lo) := by
  have hL := hI.2.2.2.2.2.2.2.2.1
  have f16 := hL.1
  have hl8 := hW.2.2.2.2.2.1.1
  refine G_iload1 1 d_Alg_link_0 rfl ?_
  refine G_iload2 2 d_Alg_link_1 rfl ?_
  refine G_invS2b 5 d_Alg_link_2 rfl e_Alg_400 M_Alg_isLink (Nat.le_of_ble_eq_true rfl) (Nat.le_of_ble_eq_true rfl) rfl (s_isLink) (fun h2 => G_ifne1 8 d_Alg_link_5 10 rfl rfl ?_) (fun h2 => G_ifne0 8 d_Alg_link_5 10 rfl rfl ?_)
  · simp only [fLink, h2, if_true]
    have hx : isN x 7 := by
      unfold bLink at h2
      rw [Bool.and_eq_true] at h2
      exact (bN_iff (by omega)).mp h2.1
    obtain ⟨k, hk, rfl⟩ := hx
    have z := ni_nI (show k < 2 ^ 31 by omega)
    simp only [z]
    by_cases h8 : (tL S).1 = 8
    · simp only [if_pos h8]
      rw [h8] at f16
      refine G_aload0 11 d_Alg_link_10 rfl ?_
      refine G_getIv 14 d_Alg_link_11 rfl f_Alg_96 rfl h.sh f16 ?_
      refine G_bipushN 8 16 d_Alg_link_14 rfl rfl ?_
      first | refine G_icltN 22 19 d_Alg_link_16 rfl rfl (by omega) (by omega) (fun h16 => ?_) (fun h16 => ?_) | refine G_iclt 22 19 d_Alg_link_16 rfl rfl (fun h16 => ?_) (fun h16 => ?_)
      · exact absurd h16 (by omega)
      · refine G_bipush (-4) 21 d_Alg_link_19 rfl rfl ?_
        refine G_iret d_Alg_link_21 rfl ?_
        exact ⟨rfl, h, hI, cF.rf⟩
    · simp only [if_neg h8]
      have hl : (tL S).1 < 8 := by omega
      obtain ⟨arl, s1, f2, pol⟩ := h.lk hl
      have psl := pol.1
      have hsl : k = 2 ∨ k = 5 → ∃ m : Nat, m < 6 ∧ n = nI m := by
        intro e
        unfold bLink kLink at h2
        rw [Bool.and_eq_true, z] at h2
        rcases e with rfl | rfl
        · exact (bN_iff (by omega)).mp h2.2
        · exact (bN_iff (by omega)).mp h2.2
      have fin : ∀ (AL' : LT) (gf : Nat → Int64), (∀ c, c ≠ lo + 88 + 3 * (tL S).1 → AL' c = AL c) → (k = 2 ∨ k = 5 → AL' (lo + 88 + 3 * (tL S).1) = gf) → G V m_Alg_link (d + 2) 65 [some (.ref lo), some (.int (nI k)), some (.int n), some (.ref (lo + 86 + 3 * (tL S).1))] [] X (u2 (u2 FI (lo + 86 + 3 * (tL S).1) 0 (nI k)) (lo + 86 + 3 * (tL S).1) 1 n) AI AL' (fun r X' FI' AI' AL' => r = some (.int (nI ((tL S).1 + 1))) ∧ CO X' lo ∧ CIv C E (stL S ((tL S).1 + 1, upn (tL S).2.1 (tL S).1 k, upn (tL S).2.2.1 (tL S).1 n, upn (tL S).2.2.2 (tL S).1 gf)) X' FI' AI' AL' lo ∧ cF X X' FI FI' AI AI' AL AL' lo) := by
        intro AL' gf j1 j2
        have g16 : u2 (u2 FI (lo + 86 + 3 * (tL S).1) 0 (nI k)) (lo + 86 + 3 * (tL S).1) 1 n lo 16 = nI (tL S).1 := by rw [u2_ne _ _ _ _ (by omega), u2_ne _ _ _ _ (by omega)]; exact f16
        have g17 : u2 (u2 (u2 FI (lo + 86 + 3 * (tL S).1) 0 (nI k)) (lo + 86 + 3 * (tL S).1) 1 n) lo 16 (nI ((tL S).1 + 1)) lo 16 = nI ((tL S).1 + 1) := u2_at _ _ _ _
        obtain ⟨r1, r2⟩ := hI.lk (L := ((tL S).1 + 1, upn (tL S).2.1 (tL S).1 k, upn (tL S).2.2.1 (tL S).1 n, upn (tL S).2.2.2 (tL S).1 gf)) (FI' := u2 (u2 (u2 FI (lo + 86 + 3 * (tL S).1) 0 (nI k)) (lo + 86 + 3 * (tL S).1) 1 n) lo 16 (nI ((tL S).1 + 1))) (AL' := AL') (fun c j h1 h2 => by
          by_cases e : c = lo
          · subst e
            rw [u2_ix _ _ (fun e => h1 ⟨rfl, e⟩), u2_ne _ _ _ _ (by omega), u2_ne _ _ _ _ (by omega)]
          · rw [u2_ne _ _ _ _ e, u2_ne _ _ _ _ (by omega), u2_ne _ _ _ _ (by omega)]) (fun c hc => j1 c (by omega)) ⟨g17, fun l hl' => by
            dsimp only at hl' ⊢
            by_cases e : l = (tL S).1
            · subst e
              rw [upn_at, upn_at, upn_at]
              refine ⟨?_, ?_, j2⟩
              · rw [u2_ne _ _ _ _ (by omega), u2_ix _ _ (by omega), u2_at]
              · rw [u2_ne _ _ _ _ (by omega), u2_at]
            · rw [upn_ne _ _ e, upn_ne _ _ e, upn_ne _ _ e]
              obtain ⟨d1, d2, d3⟩ := hL.2 l (by omega)
              refine ⟨?_, ?_, fun q => ?_⟩
              · rw [u2_ne _ _ _ _ (by omega), u2_ne _ _ _ _ (by omega), u2_ne _ _ _ _ (by omega)]; exact d1
              · rw [u2_ne _ _ _ _ (by omega), u2_ne _ _ _ _ (by omega), u2_ne _ _ _ _ (by omega)]; exact d2
              · rw [j1 _ (by omega)]; exact d3 q⟩
        refine G_aload0 66 d_Alg_link_65 rfl ?_
        refine G_dup 67 d_Alg_link_66 rfl rfl ?_
        refine G_getIv 70 d_Alg_link_67 rfl f_Alg_96 rfl h.sh g16 ?_
        refine G_iconstN 1 71 d_Alg_link_70 rfl rfl ?_
        first | refine G_iaddN 72 d_Alg_link_71 rfl ?_ | refine G_iadd 72 d_Alg_link_71 rfl ?_
        refine G_putI 75 d_Alg_link_72 rfl f_Alg_96 rfl (by intro C T N h; cases h; rfl) h.sh rfl rfl ?_
        refine G_aload0 76 d_Alg_link_75 rfl ?_
        refine G_getIv 79 d_Alg_link_76 rfl f_Alg_96 rfl h.sh g17 ?_
        refine G_iret d_Alg_link_79 rfl ?_
        exact ⟨rfl, h, r1, r2⟩
      by_cases hc : k = 2 ∨ k = 5
      · obtain ⟨m, hm, hn⟩ := hsl hc
        obtain ⟨arm, pom⟩ := h.sl hm
        have em := hI.1 m hm
        have zm := ni_nI (show m < 2 ^ 31 by omega)
        subst hn
        simp only [if_pos hc, zm]
        have hq : ∀ c, c ≠ lo + 88 + 3 * (tL S).1 → sr AL (lo + 86 + 3 * (tL S).1 + 2) (AL (lo + 67 + 2 * m)) c = AL c := fun c hc => sr_ne _ _ (by omega)
        have hq2 : sr AL (lo + 86 + 3 * (tL S).1 + 2) (AL (lo + 67 + 2 * m)) (lo + 88 + 3 * (tL S).1) = tS S m := by
          rw [show lo + 88 + 3 * (tL S).1 = lo + 86 + 3 * (tL S).1 + 2 by omega, sr_at]; exact em
        have g := fin _ _ hq (fun _ => hq2)
        refine G_aload0 11 d_Alg_link_10 rfl ?_
        refine G_getIv 14 d_Alg_link_11 rfl f_Alg_96 rfl h.sh f16 ?_
        refine G_bipushN 8 16 d_Alg_link_14 rfl rfl ?_
        first | refine G_icltN 22 19 d_Alg_link_16 rfl rfl (by omega) (by omega) (fun h16 => ?_) (fun h16 => ?_) | refine G_iclt 22 19 d_Alg_link_16 rfl rfl (fun h16 => ?_) (fun h16 => ?_)
        · rcases hc with rfl | rfl
          · refine G_aload0 23 d_Alg_link_22 rfl ?_
            refine G_getR 26 d_Alg_link_23 rfl f_Alg_60 rfl h.sh h.f7 ?_
            refine G_aload0 27 d_Alg_link_26 rfl ?_
            refine G_getIv 30 d_Alg_link_27 rfl f_Alg_96 rfl h.sh f16 ?_
            refine G_aaload 31 d_Alg_link_30 rfl h.s7 (by decide) (by decide) (ix_nI (by omega) (by omega)) (by assumption) ?_
            refine G_astore3 32 d_Alg_link_31 rfl (by decide) rfl ?_
            refine G_aload3 33 d_Alg_link_32 rfl ?_
            refine G_iload1 34 d_Alg_link_33 rfl ?_
            refine G_putI 37 d_Alg_link_34 rfl f_Alg_403 rfl (by intro C T N h; cases h; rfl) (by assumption) rfl rfl ?_
            refine G_aload3 38 d_Alg_link_37 rfl ?_
            refine G_iload2 39 d_Alg_link_38 rfl ?_
            refine G_putI 42 d_Alg_link_39 rfl f_Alg_406 rfl (by intro C T N h; cases h; rfl) (by assumption) rfl rfl ?_
            refine G_iload1 43 d_Alg_link_42 rfl ?_
            refine G_iconstN 2 44 d_Alg_link_43 rfl rfl ?_
            first | refine G_iceqN 52 47 d_Alg_link_44 rfl rfl (by omega) (by omega) (fun h44 => ?_) (fun h44 => ?_) | refine G_iceq 52 47 d_Alg_link_44 rfl rfl (fun h44 => ?_) (fun h44 => ?_)
            · refine G_aload3 53 d_Alg_link_52 rfl ?_
              refine G_getR 56 d_Alg_link_53 rfl f_Alg_409 rfl (by assumption) (by assumption) ?_
              refine G_aload0 57 d_Alg_link_56 rfl ?_
              refine G_getR 60 d_Alg_link_57 rfl f_Alg_13 rfl h.sh h.f0 ?_
              refine G_iload2 61 d_Alg_link_60 rfl ?_
              refine G_aaload 62 d_Alg_link_61 rfl h.s0 (by decide) (by decide) (ix_nI (by omega) (by omega)) (by assumption) ?_
              refine G_invV1v 65 d_Alg_link_62 rfl e_Alg_170 M_Poly_becomeLike rfl (by assumption) (Nat.le_of_ble_eq_true rfl) (Nat.le_of_ble_eq_true rfl) rfl (s_becomeLike (by assumption) (by assumption)) ?_
              exact g
            · omega
          · refine G_aload0 23 d_Alg_link_22 rfl ?_
            refine G_getR 26 d_Alg_link_23 rfl f_Alg_60 rfl h.sh h.f7 ?_
            refine G_aload0 27 d_Alg_link_26 rfl ?_
            refine G_getIv 30 d_Alg_link_27 rfl f_Alg_96 rfl h.sh f16 ?_
            refine G_aaload 31 d_Alg_link_30 rfl h.s7 (by decide) (by decide) (ix_nI (by omega) (by omega)) (by assumption) ?_
            refine G_astore3 32 d_Alg_link_31 rfl (by decide) rfl ?_
            refine G_aload3 33 d_Alg_link_32 rfl ?_
            refine G_iload1 34 d_Alg_link_33 rfl ?_
            refine G_putI 37 d_Alg_link_34 rfl f_Alg_403 rfl (by intro C T N h; cases h; rfl) (by assumption) rfl rfl ?_
            refine G_aload3 38 d_Alg_link_37 rfl ?_
            refine G_iload2 39 d_Alg_link_38 rfl ?_
            refine G_putI 42 d_Alg_link_39 rfl f_Alg_406 rfl (by intro C T N h; cases h; rfl) (by assumption) rfl rfl ?_
            refine G_iload1 43 d_Alg_link_42 rfl ?_
            refine G_iconstN 2 44 d_Alg_link_43 rfl rfl ?_
            first | refine G_iceqN 52 47 d_Alg_link_44 rfl rfl (by omega) (by omega) (fun h44 => ?_) (fun h44 => ?_) | refine G_iceq 52 47 d_Alg_link_44 rfl rfl (fun h44 => ?_) (fun h44 => ?_)
            · omega
            · refine G_iload1 48 d_Alg_link_47 rfl ?_
              refine G_iconstN 5 49 d_Alg_link_48 rfl rfl ?_
              first | refine G_icneN 65 52 d_Alg_link_49 rfl rfl (by omega) (by omega) (fun h49 => ?_) (fun h49 => ?_) | refine G_icne 65 52 d_Alg_link_49 rfl rfl (fun h49 => ?_) (fun h49 => ?_)
              · omega
              · refine G_aload3 53 d_Alg_link_52 rfl ?_
                refine G_getR 56 d_Alg_link_53 rfl f_Alg_409 rfl (by assumption) (by assumption) ?_
                refine G_aload0 57 d_Alg_link_56 rfl ?_
                refine G_getR 60 d_Alg_link_57 rfl f_Alg_13 rfl h.sh h.f0 ?_
                refine G_iload2 61 d_Alg_link_60 rfl ?_
                refine G_aaload 62 d_Alg_link_61 rfl h.s0 (by decide) (by decide) (ix_nI (by omega) (by omega)) (by assumption) ?_
                refine G_invV1v 65 d_Alg_link_62 rfl e_Alg_170 M_Poly_becomeLike rfl (by assumption) (Nat.le_of_ble_eq_true rfl) (Nat.le_of_ble_eq_true rfl) rfl (s_becomeLike (by assumption) (by assumption)) ?_
                exact g
        · omega
      · simp only [if_neg hc]
        have g := fin AL (fun _ => 0) (fun _ _ => rfl) (fun e => absurd e hc)
        refine G_aload0 11 d_Alg_link_10 rfl ?_
        refine G_getIv 14 d_Alg_link_11 rfl f_Alg_96 rfl h.sh f16 ?_
        refine G_bipushN 8 16 d_Alg_link_14 rfl rfl ?_
        first | refine G_icltN 22 19 d_Alg_link_16 rfl rfl (by omega) (by omega) (fun h16 => ?_) (fun h16 => ?_) | refine G_iclt 22 19 d_Alg_link_16 rfl rfl (fun h16 => ?_) (fun h16 => ?_)
        · refine G_aload0 23 d_Alg_link_22 rfl ?_
          refine G_getR 26 d_Alg_link_23 rfl f_Alg_60 rfl h.sh h.f7 ?_
          refine G_aload0 27 d_Alg_link_26 rfl ?_
          refine G_getIv 30 d_Alg_link_27 rfl f_Alg_96 rfl h.sh f16 ?_
          refine G_aaload 31 d_Alg_link_30 rfl h.s7 (by decide) (by decide) (ix_nI (by omega) (by omega)) (by assumption) ?_
          refine G_astore3 32 d_Alg_link_31 rfl (by decide) rfl ?_
          refine G_aload3 33 d_Alg_link_32 rfl ?_
          refine G_iload1 34 d_Alg_link_33 rfl ?_
          refine G_putI 37 d_Alg_link_34 rfl f_Alg_403 rfl (by intro C T N h; cases h; rfl) (by assumption) rfl rfl ?_
          refine G_aload3 38 d_Alg_link_37 rfl ?_
          refine G_iload2 39 d_Alg_link_38 rfl ?_
          refine G_putI 42 d_Alg_link_39 rfl f_Alg_406 rfl (by intro C T N h; cases h; rfl) (by assumption) rfl rfl ?_
          refine G_iload1 43 d_Alg_link_42 rfl ?_
          refine G_iconstN 2 44 d_Alg_link_43 rfl rfl ?_
          first | refine G_iceqN 52 47 d_Alg_link_44 rfl rfl (by omega) (by omega) (fun h44 => ?_) (fun h44 => ?_) | refine G_iceq 52 47 d_Alg_link_44 rfl rfl (fun h44 => ?_) (fun h44 => ?_)
          · omega
          · refine G_iload1 48 d_Alg_link_47 rfl ?_
            refine G_iconstN 5 49 d_Alg_link_48 rfl rfl ?_
            first | refine G_icneN 65 52 d_Alg_link_49 rfl rfl (by omega) (by omega) (fun h49 => ?_) (fun h49 => ?_) | refine G_icne 65 52 d_Alg_link_49 rfl rfl (fun h49 => ?_) (fun h49 => ?_)
            · exact g
            · omega
        · omega
  · have q2 : bLink x n = false := by
      cases e : bLink x n
      · rfl
      · exact absurd e h2
    simp only [fLink, q2, Bool.false_and, Bool.and_false, Bool.false_eq_true, if_false]
    refine G_iconst (-1) 9 d_Alg_link_8 rfl rfl ?_
    refine G_iret d_Alg_link_9 rfl ?_
    exact ⟨rfl, h, hI, cF.rf⟩
theorem pgc_c (S : ST) : ∀ k, pgc (gK (tG S)) k = c1N S k
  | 0 => rfl
  | k + 1 => by rw [pgc, c1N, pgc_c S k]
theorem s_sheetsThere {V : GV} {d lo : Nat} {S : ST} {X : XT} {FI AI : FT} {AL : LT} (h : CO X lo) (hS : CSh (tH S) FI AI lo) : G V m_Alg_sheetsThere (d + 1) 0 [some (.ref lo), none, none] [] X FI AI AL (Pd (some (.int (nI (c5N S 4)))) X FI AI AL) := by
  have L : ∀ i, i ≤ 4 → G V m_Alg_sheetsThere (d + 1) 4 [some (.ref lo), some (.int (nI (c5N S i))), some (.int (nI i))] [] X FI AI AL (Pd (some (.int (nI (c5N S 4)))) X FI AI AL) := by
    refine upto ?_ ?_
    · refine G_iload2 5 d_Alg_sheetsThere_4 rfl ?_
      refine G_iconstN 4 6 d_Alg_sheetsThere_5 rfl rfl ?_
      first | refine G_icgeN 35 9 d_Alg_sheetsThere_6 rfl rfl (by omega) (by omega) (fun h6 => ?_) (fun h6 => ?_) | refine G_icge 35 9 d_Alg_sheetsThere_6 rfl rfl (fun h6 => ?_) (fun h6 => ?_)
      · refine G_iload1 36 d_Alg_sheetsThere_35 rfl ?_
        refine G_iret d_Alg_sheetsThere_36 rfl ?_
        exact Pd.rf
      · omega
    · intro i hi ih
      obtain ⟨ari, poi⟩ := h.shs hi
      have psi := poi.1
      obtain ⟨so, -⟩ := hS i hi
      rw [c5N] at ih
      refine G_iload2 5 d_Alg_sheetsThere_4 rfl ?_
      refine G_iconstN 4 6 d_Alg_sheetsThere_5 rfl rfl ?_
      first | refine G_icgeN 35 9 d_Alg_sheetsThere_6 rfl rfl (by omega) (by omega) (fun h6 => ?_) (fun h6 => ?_) | refine G_icge 35 9 d_Alg_sheetsThere_6 rfl rfl (fun h6 => ?_) (fun h6 => ?_)
      · omega
      · refine G_iload1 10 d_Alg_sheetsThere_9 rfl ?_
        refine G_aload0 11 d_Alg_sheetsThere_10 rfl ?_
        refine G_getR 14 d_Alg_sheetsThere_11 rfl f_Alg_54 rfl h.sh h.f6 ?_
        refine G_iload2 15 d_Alg_sheetsThere_14 rfl ?_
        refine G_aaload 16 d_Alg_sheetsThere_15 rfl h.s6 (by decide) (by decide) (ix_nI (by omega) (by omega)) (by assumption) ?_
        refine G_invV0b 19 d_Alg_sheetsThere_16 rfl e_Alg_217 M_Sheet_isMissing rfl (by assumption) (Nat.le_of_ble_eq_true rfl) (Nat.le_of_ble_eq_true rfl) rfl (s_isMissing (by assumption)) (fun h16 => G_ifeq1 22 d_Alg_sheetsThere_19 26 rfl rfl ?_) (fun h16 => G_ifeq0 22 d_Alg_sheetsThere_19 26 rfl rfl ?_)
        · rw [so] at h16
          rw [if_pos h16] at ih
          refine G_iconstN 0 23 d_Alg_sheetsThere_22 rfl rfl ?_
          refine G_goto 27 d_Alg_sheetsThere_23 rfl ?_
          first | refine G_iaddN 28 d_Alg_sheetsThere_27 rfl ?_ | refine G_iadd 28 d_Alg_sheetsThere_27 rfl ?_
          refine G_istore1 29 d_Alg_sheetsThere_28 rfl (by decide) rfl ?_
          first | refine G_iincN2 32 d_Alg_sheetsThere_29 rfl (by decide) rfl ?_ | refine G_iinc2 _ 32 d_Alg_sheetsThere_29 rfl (by decide) rfl rfl ?_
          refine G_goto 4 d_Alg_sheetsThere_32 rfl ?_
          exact ih
        · rw [so] at h16
          rw [if_neg h16] at ih
          refine G_iconstN 1 27 d_Alg_sheetsThere_26 rfl rfl ?_
          first | refine G_iaddN 28 d_Alg_sheetsThere_27 rfl ?_ | refine G_iadd 28 d_Alg_sheetsThere_27 rfl ?_
          refine G_istore1 29 d_Alg_sheetsThere_28 rfl (by decide) rfl ?_
          first | refine G_iincN2 32 d_Alg_sheetsThere_29 rfl (by decide) rfl ?_ | refine G_iinc2 _ 32 d_Alg_sheetsThere_29 rfl (by decide) rfl rfl ?_
          refine G_goto 4 d_Alg_sheetsThere_32 rfl ?_
          exact ih
  refine G_iconstN 0 1 d_Alg_sheetsThere_0 rfl rfl ?_
  refine G_istore1 2 d_Alg_sheetsThere_1 rfl (by decide) rfl ?_
  refine G_iconstN 0 3 d_Alg_sheetsThere_2 rfl rfl ?_
  refine G_istore2 4 d_Alg_sheetsThere_3 rfl (by decide) rfl ?_
  exact L 0 (by omega)
theorem c_count {V : GV} {d lo C E : Nat} {S : ST} {x : Int32} {X : XT} {FI AI : FT} {AL : LT} (h : CO X lo) (hI : CIv C E S X FI AI AL lo) (hW : WS S) : G V m_Alg_count (d + 3) 0 [some (.ref lo), some (.int x)] [] X FI AI AL (fun r X' FI' AI' AL' => r = some (.int (fCount S x).1) ∧ CO X' lo ∧ CIv C E (fCount S x).2 X' FI' AI' AL' lo ∧ cF X X' FI FI' AI AI' AL AL' lo) := by
  obtain ⟨a1, a2, a3, a4, a5, a6, a7, a8, a9, a10, a11, a12⟩ := id hI
  have hn7 := hW.2.1.1
  have g0 := a3.1
  have o0 := a2.1
  have f16 := a9.1
  obtain ⟨u, v, huv, r10, r11, f13, hst⟩ := a10
  have hsp := h.st (w := u) (by omega)
  have s1 := hsp.1
  refine G_iload1 1 d_Alg_count_0 rfl ?_
  by_cases hx : isN x 8
  · obtain ⟨k, hk, rfl⟩ := hx
    have q1 := bN_t hk (show 8 < 2 ^ 31 by omega)
    have z1 := ni_nI (show k < 2 ^ 31 by omega)
    simp only [fCount, q1, z1, if_true]
    have h8 : k = 0 ∨ k = 1 ∨ k = 2 ∨ k = 3 ∨ k = 4 ∨ k = 5 ∨ k = 6 ∨ k = 7 := by omega
    rcases h8 with rfl | rfl | rfl | rfl | rfl | rfl | rfl | rfl
    · refine G_tableIn 48 d_Alg_count_1 (by decide) (by decide) rfl rfl ?_
      refine G_aload0 49 d_Alg_count_48 rfl ?_
      refine G_getR 52 d_Alg_count_49 rfl f_Alg_27 rfl h.sh h.f2 ?_
      refine G_getIv 55 d_Alg_count_52 rfl f_Alg_109 rfl h.s2 g0 ?_
      refine G_iret d_Alg_count_55 rfl ?_
      exact ⟨rfl, h, hI, cF.rf⟩
    · refine G_tableIn 56 d_Alg_count_1 (by decide) (by decide) rfl rfl ?_
      have hgc := s_grownCount (V := V) (d := d + 1) (FI := FI) (AL := AL) (pn := gK (tG S)) h.go g0 hn7 (fun i hi => ⟨(a3.2.2 i hi).2.2.2.2.1, by have := (hW.2.1.2.1 i hi).2.2.2.2.1; omega⟩)
      rw [pgc_c] at hgc
      refine G_aload0 57 d_Alg_count_56 rfl ?_
      refine G_getR 60 d_Alg_count_57 rfl f_Alg_27 rfl h.sh h.f2 ?_
      refine G_invV0d 63 d_Alg_count_60 rfl e_Alg_426 M_Gen_grownCount rfl h.s2 (Nat.le_of_ble_eq_true rfl) (Nat.le_of_ble_eq_true rfl) rfl (hgc) ?_
      refine G_iret d_Alg_count_63 rfl ?_
      exact ⟨rfl, h, hI, cF.rf⟩
    · refine G_tableIn 64 d_Alg_count_1 (by decide) (by decide) rfl rfl ?_
      cases hw : (tW S).1 with
      | false =>
        rw [hw] at f13
        have f13' : FI lo 13 = 0 := f13
        have e : cntA S 2 = 0 := by unfold cntA; simp [hw]
        rw [e]
        refine G_aload0 65 d_Alg_count_64 rfl ?_
        refine G_getIv 68 d_Alg_count_65 rfl f_Alg_86 rfl h.sh f13' ?_
        refine G_ifeq 81 71 d_Alg_count_68 rfl rfl (fun h68 => ?_) (fun h68 => ?_)
        · refine G_iconstN 0 82 d_Alg_count_81 rfl rfl ?_
          refine G_iret d_Alg_count_82 rfl ?_
          exact ⟨rfl, h, hI, cF.rf⟩
        · exact absurd rfl h68
      | true =>
        rw [hw] at f13
        have f13' : FI lo 13 = 1 := f13
        have t1 := (hst hw).1
        have e : cntA S 2 = (tW S).2.length := by unfold cntA; simp [hw]
        rw [e]
        refine G_aload0 65 d_Alg_count_64 rfl ?_
        refine G_getIv 68 d_Alg_count_65 rfl f_Alg_86 rfl h.sh f13' ?_
        refine G_ifeq 81 71 d_Alg_count_68 rfl rfl (fun h68 => ?_) (fun h68 => ?_)
        · exact absurd h68 (by decide)
        · refine G_aload0 72 d_Alg_count_71 rfl ?_
          refine G_getR 75 d_Alg_count_72 rfl f_Alg_75 rfl h.sh r10 ?_
          refine G_getIv 78 d_Alg_count_75 rfl f_Alg_294 rfl s1 t1 ?_
          refine G_goto 82 d_Alg_count_78 rfl ?_
          refine G_iret d_Alg_count_82 rfl ?_
          exact ⟨rfl, h, hI, cF.rf⟩
    · refine G_tableIn 83 d_Alg_count_1 (by decide) (by decide) rfl rfl ?_
      refine G_aload0 84 d_Alg_count_83 rfl ?_
      refine G_getR 87 d_Alg_count_84 rfl f_Alg_20 rfl h.sh h.f1 ?_
      refine G_getIv 90 d_Alg_count_87 rfl f_Alg_112 rfl h.s1 o0 ?_
      refine G_iret d_Alg_count_90 rfl ?_
      exact ⟨rfl, h, hI, cF.rf⟩
    · refine G_tableIn 91 d_Alg_count_1 (by decide) (by decide) rfl rfl ?_
      cases hx : tX S with
      | none =>
        rw [hx] at a11
        have k12 : x_FR X lo 12 = none := a11
        have e : cntA S 4 = 0 := by unfold cntA; simp [hx]
        rw [e]
        refine G_aload0 92 d_Alg_count_91 rfl ?_
        refine G_getR0 95 d_Alg_count_92 rfl f_Alg_82 rfl h.sh ?_
        rw [k12]
        refine G_ifnullN (x := 0) 102 d_Alg_count_95 rfl ?_
        refine G_iconstN 0 103 d_Alg_count_102 rfl rfl ?_
        refine G_iret d_Alg_count_103 rfl ?_
        exact ⟨rfl, h, hI, cF.rf⟩
      | some K =>
        rw [hx] at a11
        obtain ⟨kb, k12, -⟩ := a11
        have e : cntA S 4 = 1 := by unfold cntA; simp [hx]
        rw [e]
        refine G_aload0 92 d_Alg_count_91 rfl ?_
        refine G_getR 95 d_Alg_count_92 rfl f_Alg_82 rfl h.sh k12 ?_
        refine G_ifnull 98 d_Alg_count_95 rfl ?_
        refine G_iconstN 1 99 d_Alg_count_98 rfl rfl ?_
        refine G_goto 103 d_Alg_count_99 rfl ?_
        refine G_iret d_Alg_count_103 rfl ?_
        exact ⟨rfl, h, hI, cF.rf⟩
    · refine G_tableIn 104 d_Alg_count_1 (by decide) (by decide) rfl rfl ?_
      have hs := s_sheetsThere (V := V) (d := d + 1) (FI := FI) (AI := AI) (AL := AL) h a8
      refine G_aload0 105 d_Alg_count_104 rfl ?_
      refine G_invV0d 108 d_Alg_count_105 rfl e_Alg_429 M_Alg_sheetsThere rfl h.sh (Nat.le_of_ble_eq_true rfl) (Nat.le_of_ble_eq_true rfl) rfl (hs) ?_
      refine G_iret d_Alg_count_108 rfl ?_
      exact ⟨rfl, h, hI, cF.rf⟩
    · refine G_tableIn 109 d_Alg_count_1 (by decide) (by decide) rfl rfl ?_
      cases hw : (tW S).1 with
      | false =>
        rw [hw] at f13
        have f13' : FI lo 13 = 0 := f13
        have e : cntA S 6 = 0 := by unfold cntA; simp [hw]
        rw [e]
        refine G_aload0 110 d_Alg_count_109 rfl ?_
        refine G_getIv 113 d_Alg_count_110 rfl f_Alg_86 rfl h.sh f13' ?_
        refine G_ifeq 120 116 d_Alg_count_113 rfl rfl (fun h113 => ?_) (fun h113 => ?_)
        · refine G_iconstN 0 121 d_Alg_count_120 rfl rfl ?_
          refine G_iret d_Alg_count_121 rfl ?_
          exact ⟨rfl, h, hI, cF.rf⟩
        · exact absurd rfl h113
      | true =>
        rw [hw] at f13
        have f13' : FI lo 13 = 1 := f13
        have e : cntA S 6 = 1 := by unfold cntA; simp [hw]
        rw [e]
        refine G_aload0 110 d_Alg_count_109 rfl ?_
        refine G_getIv 113 d_Alg_count_110 rfl f_Alg_86 rfl h.sh f13' ?_
        refine G_ifeq 120 116 d_Alg_count_113 rfl rfl (fun h113 => ?_) (fun h113 => ?_)
        · exact absurd h113 (by decide)
        · refine G_iconstN 1 117 d_Alg_count_116 rfl rfl ?_
          refine G_goto 121 d_Alg_count_117 rfl ?_
          refine G_iret d_Alg_count_121 rfl ?_
          exact ⟨rfl, h, hI, cF.rf⟩
    · refine G_tableIn 122 d_Alg_count_1 (by decide) (by decide) rfl rfl ?_
      refine G_aload0 123 d_Alg_count_122 rfl ?_
      refine G_getIv 126 d_Alg_count_123 rfl f_Alg_96 rfl h.sh f16 ?_
      refine G_iret d_Alg_count_126 rfl ?_
      exact ⟨rfl, h, hI, cF.rf⟩
  · have q1 := bN_f hx (show 8 < 2 ^ 31 by omega)
    simp only [fCount, q1, Bool.false_and, Bool.and_false, Bool.false_eq_true, if_false]
    rw [isN_iff (by omega)] at hx
    refine G_tableOut 127 d_Alg_count_1 (by omega) rfl ?_
    refine G_iconst (-1) 128 d_Alg_count_127 rfl rfl ?_
    refine G_iret d_Alg_count_128 rfl ?_
    exact ⟨rfl, h, hI, cF.rf⟩
