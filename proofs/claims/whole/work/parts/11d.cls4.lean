/-! ===== the class: times, even, like, orbit, lead, order ===== -/
theorem s_multiplyWork {V : GV} {d lo p q : Nat} {X : XT} {FI AI : FT} {AL : LT} (h : CO X lo) (hP : PO X p q) (hq : q ≠ lo + 57) : G V m_Alg_multiplyWork (d + 2) 0 [some (.ref lo), some (.ref p)] [] X FI AI AL (fun r X' FI' AI' AL' => X' = X ∧ FI' = FI ∧ AI' = AI ∧ if 0 < deg1 (AL (lo + 57)) ∧ 0 < deg1 (AL q) ∧ 8 < deg1 (AL (lo + 57)) + deg1 (AL q) then r = some (.int (-6)) ∧ AL' = AL else if prodA (norm (AL (lo + 57))) (norm (AL q)) < 0 then r = some (.int (-5)) ∧ AL' = AL else r = some (.int (nI 0)) ∧ AL' = sr AL (lo + 57) (mulP (AL (lo + 57)) (AL q))) := by
  have wk := h.wk
  have wks := wk.1
  have spp := h.sp
  have sps := spp.1
  have ps := hP.1
  have d1 := (show deg1 (AL (lo + 57)) ≤ 7 from pdeg_le _ 84 (Nat.le_refl _))
  have d2 := (show deg1 (AL q) ≤ 7 from pdeg_le _ 84 (Nat.le_refl _))
  have fin : ¬ (0 < deg1 (AL (lo + 57)) ∧ 0 < deg1 (AL q) ∧ 8 < deg1 (AL (lo + 57)) + deg1 (AL q)) → G V m_Alg_multiplyWork (d + 2) 37 [some (.ref lo), some (.ref p)] [] X FI AI AL (fun r X' FI' AI' AL' => X' = X ∧ FI' = FI ∧ AI' = AI ∧ if 0 < deg1 (AL (lo + 57)) ∧ 0 < deg1 (AL q) ∧ 8 < deg1 (AL (lo + 57)) + deg1 (AL q) then r = some (.int (-6)) ∧ AL' = AL else if prodA (norm (AL (lo + 57))) (norm (AL q)) < 0 then r = some (.int (-5)) ∧ AL' = AL else r = some (.int (nI 0)) ∧ AL' = sr AL (lo + 57) (mulP (AL (lo + 57)) (AL q))) := by
    intro hn
    refine G_aload0 38 d_Alg_multiplyWork_37 rfl ?_
    refine G_getR 41 d_Alg_multiplyWork_38 rfl f_Alg_65 rfl h.sh h.f8 ?_
    refine G_invV0d 44 d_Alg_multiplyWork_41 rfl e_Alg_132 M_Poly_normNow rfl h.s8 (Nat.le_of_ble_eq_true rfl) (Nat.le_of_ble_eq_true rfl) rfl (s_norm' (by assumption)) ?_
    refine G_aload1 45 d_Alg_multiplyWork_44 rfl ?_
    refine G_invV0d 48 d_Alg_multiplyWork_45 rfl e_Alg_132 M_Poly_normNow rfl (by assumption) (Nat.le_of_ble_eq_true rfl) (Nat.le_of_ble_eq_true rfl) rfl (s_norm' (by assumption)) ?_
    refine G_invS2d 51 d_Alg_multiplyWork_48 rfl e_Alg_163 M_Alg_productOrAbove (Nat.le_of_ble_eq_true rfl) (Nat.le_of_ble_eq_true rfl) rfl (s_prodA) ?_
    refine G_ldc2 54 d_Alg_multiplyWork_51 rfl k_Alg_146 ?_
    refine G_lcne 61 58 d_Alg_multiplyWork_54 d_Alg_multiplyWork_55 rfl rfl (fun h54 => ?_) (fun h54 => ?_)
    · rw [← prodA_neg] at h54
      refine G_aload0 62 d_Alg_multiplyWork_61 rfl ?_
      refine G_getR 65 d_Alg_multiplyWork_62 rfl f_Alg_65 rfl h.sh h.f8 ?_
      refine G_aload1 66 d_Alg_multiplyWork_65 rfl ?_
      refine G_invV1v 69 d_Alg_multiplyWork_66 rfl e_Alg_442 M_Poly_multiplyBy rfl h.s8 (Nat.le_of_ble_eq_true rfl) (Nat.le_of_ble_eq_true rfl) rfl (s_multiplyBy (by assumption) (by assumption) (by first | assumption | omega)) ?_
      refine G_iconstN 0 70 d_Alg_multiplyWork_69 rfl rfl ?_
      refine G_iret d_Alg_multiplyWork_70 rfl ?_
      exact ⟨rfl, rfl, rfl, by rw [if_neg hn, if_neg h54]; exact ⟨rfl, rfl⟩⟩
    · rw [← prodA_neg] at h54
      refine G_bipush (-5) 60 d_Alg_multiplyWork_58 rfl rfl ?_
      refine G_iret d_Alg_multiplyWork_60 rfl ?_
      exact ⟨rfl, rfl, rfl, by rw [if_neg hn, if_pos h54]; exact ⟨rfl, rfl⟩⟩
  rcases Nat.eq_zero_or_pos (deg1 (AL (lo + 57))) with ha | ha
  · refine G_aload0 1 d_Alg_multiplyWork_0 rfl ?_
    refine G_getR 4 d_Alg_multiplyWork_1 rfl f_Alg_65 rfl h.sh h.f8 ?_
    refine G_invV0d 7 d_Alg_multiplyWork_4 rfl e_Alg_363 M_Poly_isZero rfl h.s8 (Nat.le_of_ble_eq_true rfl) (Nat.le_of_ble_eq_true rfl) rfl (s_isZero (by assumption)) ?_
    refine G_ifne 37 10 d_Alg_multiplyWork_7 rfl rfl (fun h7 => ?_) (fun h7 => ?_)
    · exact fin (fun k => by omega)
    · rw [if_pos ha] at h7; exact absurd h7 (by decide)
  · rcases Nat.eq_zero_or_pos (deg1 (AL q)) with hb | hb
    · refine G_aload0 1 d_Alg_multiplyWork_0 rfl ?_
      refine G_getR 4 d_Alg_multiplyWork_1 rfl f_Alg_65 rfl h.sh h.f8 ?_
      refine G_invV0d 7 d_Alg_multiplyWork_4 rfl e_Alg_363 M_Poly_isZero rfl h.s8 (Nat.le_of_ble_eq_true rfl) (Nat.le_of_ble_eq_true rfl) rfl (s_isZero (by assumption)) ?_
      refine G_ifne 37 10 d_Alg_multiplyWork_7 rfl rfl (fun h7 => ?_) (fun h7 => ?_)
      · exact fin (fun k => by omega)
      · refine G_aload1 11 d_Alg_multiplyWork_10 rfl ?_
        refine G_invV0d 14 d_Alg_multiplyWork_11 rfl e_Alg_363 M_Poly_isZero rfl (by assumption) (Nat.le_of_ble_eq_true rfl) (Nat.le_of_ble_eq_true rfl) rfl (s_isZero (by assumption)) ?_
        refine G_ifne 37 17 d_Alg_multiplyWork_14 rfl rfl (fun h14 => ?_) (fun h14 => ?_)
        · exact fin (fun k => by omega)
        · rw [if_pos hb] at h14; exact absurd h14 (by decide)
    · obtain ⟨a, ha'⟩ : ∃ a, deg1 (AL (lo + 57)) = a + 1 := ⟨deg1 (AL (lo + 57)) - 1, by omega⟩
      obtain ⟨b, hb'⟩ : ∃ b, deg1 (AL q) = b + 1 := ⟨deg1 (AL q) - 1, by omega⟩
      have ea : dI (deg1 (AL (lo + 57))) = nI a := by rw [ha', dI_s]
      have eb : dI (deg1 (AL q)) = nI b := by rw [hb', dI_s]
      refine G_aload0 1 d_Alg_multiplyWork_0 rfl ?_
      refine G_getR 4 d_Alg_multiplyWork_1 rfl f_Alg_65 rfl h.sh h.f8 ?_
      refine G_invV0d 7 d_Alg_multiplyWork_4 rfl e_Alg_363 M_Poly_isZero rfl h.s8 (Nat.le_of_ble_eq_true rfl) (Nat.le_of_ble_eq_true rfl) rfl (s_isZero (by assumption)) ?_
      refine G_ifne 37 10 d_Alg_multiplyWork_7 rfl rfl (fun h7 => ?_) (fun h7 => ?_)
      · exact fin (fun k => by rw [if_neg (by omega)] at h7; exact h7 rfl)
      · refine G_aload1 11 d_Alg_multiplyWork_10 rfl ?_
        refine G_invV0d 14 d_Alg_multiplyWork_11 rfl e_Alg_363 M_Poly_isZero rfl (by assumption) (Nat.le_of_ble_eq_true rfl) (Nat.le_of_ble_eq_true rfl) rfl (s_isZero (by assumption)) ?_
        refine G_ifne 37 17 d_Alg_multiplyWork_14 rfl rfl (fun h14 => ?_) (fun h14 => ?_)
        · exact fin (fun k => by rw [if_neg (by omega)] at h14; exact h14 rfl)
        · refine G_aload0 18 d_Alg_multiplyWork_17 rfl ?_
          refine G_getR 21 d_Alg_multiplyWork_18 rfl f_Alg_65 rfl h.sh h.f8 ?_
          refine G_invV0d 24 d_Alg_multiplyWork_21 rfl e_Alg_439 M_Poly_degree rfl h.s8 (Nat.le_of_ble_eq_true rfl) (Nat.le_of_ble_eq_true rfl) rfl (s_degree (by assumption)) ?_
          refine G_aload1 25 d_Alg_multiplyWork_24 rfl ?_
          refine G_invV0d 28 d_Alg_multiplyWork_25 rfl e_Alg_439 M_Poly_degree rfl (by assumption) (Nat.le_of_ble_eq_true rfl) (Nat.le_of_ble_eq_true rfl) rfl (s_degree (by assumption)) ?_
          rw [ea, eb]
          first | refine G_iaddN 29 d_Alg_multiplyWork_28 rfl ?_ | refine G_iadd 29 d_Alg_multiplyWork_28 rfl ?_
          refine G_bipushN 6 31 d_Alg_multiplyWork_29 rfl rfl ?_
          first | refine G_icleN 37 34 d_Alg_multiplyWork_31 rfl rfl (by omega) (by omega) (fun h31 => ?_) (fun h31 => ?_) | refine G_icle 37 34 d_Alg_multiplyWork_31 rfl rfl (fun h31 => ?_) (fun h31 => ?_)
          · exact fin (fun k => by omega)
          · refine G_bipush (-6) 36 d_Alg_multiplyWork_34 rfl rfl ?_
            refine G_iret d_Alg_multiplyWork_36 rfl ?_
            exact ⟨rfl, rfl, rfl, by rw [if_pos ⟨by omega, by omega, by omega⟩]; exact ⟨rfl, rfl⟩⟩
theorem c_times {V : GV} {d lo C E : Nat} {S : ST} {s t : Int32} {X : XT} {FI AI : FT} {AL : LT} (h : CO X lo) (hI : CIv C E S X FI AI AL lo) (hW : WS S) : G V m_Alg_times (d + 3) 0 [some (.ref lo), some (.int s), some (.int t), none] [] X FI AI AL (fun r X' FI' AI' AL' => r = some (.int (fTimes S s t).1) ∧ CO X' lo ∧ CIv C E (fTimes S s t).2 X' FI' AI' AL' lo ∧ cF X X' FI FI' AI AI' AL AL' lo) := by
  have wk := h.wk
  have wks := wk.1
  have spp := h.sp
  have sps := spp.1
  refine G_iload1 1 d_Alg_times_0 rfl ?_
  refine G_invS1b 4 d_Alg_times_1 rfl e_Alg_119 M_Alg_isSlot (Nat.le_of_ble_eq_true rfl) (Nat.le_of_ble_eq_true rfl) rfl (s_isSlot) (fun h1 => G_ifeq1 7 d_Alg_times_4 14 rfl rfl ?_) (fun h1 => G_ifeq0 7 d_Alg_times_4 14 rfl rfl ?_)
  · obtain ⟨k, hk, rfl⟩ := h1
    have qk := bN_t hk (show 6 < 2 ^ 31 by omega)
    have zk := ni_nI (show k < 2 ^ 31 by omega)
    obtain ⟨ark, pok⟩ := h.sl hk
    have psk := pok.1
    have ek := hI.1 k hk
    refine G_iload2 8 d_Alg_times_7 rfl ?_
    refine G_invS1b 11 d_Alg_times_8 rfl e_Alg_119 M_Alg_isSlot (Nat.le_of_ble_eq_true rfl) (Nat.le_of_ble_eq_true rfl) rfl (s_isSlot) (fun h8 => G_ifne1 14 d_Alg_times_11 16 rfl rfl ?_) (fun h8 => G_ifne0 14 d_Alg_times_11 16 rfl rfl ?_)
    · obtain ⟨l, hl, rfl⟩ := h8
      have ql := bN_t hl (show 6 < 2 ^ 31 by omega)
      have zl := ni_nI (show l < 2 ^ 31 by omega)
      obtain ⟨arl, pol⟩ := h.sl hl
      have psl := pol.1
      have el := hI.1 l hl
      simp only [fTimes, qk, zk, ql, zl, Bool.and_self, if_true]
      have hm := s_multiplyWork (V := V) (d := d) (FI := FI) (AI := AI) (AL := sr AL (lo + 57) (AL (lo + 67 + 2 * k))) h pol (by omega)
      rw [sr_at, sr_ne _ _ (show lo + 67 + 2 * l ≠ lo + 57 by omega), ek, el] at hm
      refine G_aload0 17 d_Alg_times_16 rfl ?_
      refine G_getR 20 d_Alg_times_17 rfl f_Alg_65 rfl h.sh h.f8 ?_
      refine G_aload0 21 d_Alg_times_20 rfl ?_
      refine G_getR 24 d_Alg_times_21 rfl f_Alg_13 rfl h.sh h.f0 ?_
      refine G_iload1 25 d_Alg_times_24 rfl ?_
      refine G_aaload 26 d_Alg_times_25 rfl h.s0 (by decide) (by decide) (ix_nI (by omega) (by omega)) (by assumption) ?_
      refine G_invV1v 29 d_Alg_times_26 rfl e_Alg_170 M_Poly_becomeLike rfl h.s8 (Nat.le_of_ble_eq_true rfl) (Nat.le_of_ble_eq_true rfl) rfl (s_becomeLike (by assumption) (by assumption)) ?_
      refine G_aload0 30 d_Alg_times_29 rfl ?_
      refine G_aload0 31 d_Alg_times_30 rfl ?_
      refine G_getR 34 d_Alg_times_31 rfl f_Alg_13 rfl h.sh h.f0 ?_
      refine G_iload2 35 d_Alg_times_34 rfl ?_
      refine G_aaload 36 d_Alg_times_35 rfl h.s0 (by decide) (by decide) (ix_nI (by omega) (by omega)) (by assumption) ?_
      rw [ek]
      refine G_invV1 39 d_Alg_times_36 rfl e_Alg_174 M_Alg_multiplyWork rfl h.sh (Nat.le_of_ble_eq_true rfl) (Nat.le_of_ble_eq_true rfl) rfl (G.conseq (hm) (fun r36 X36 FI36 AI36 AL36 h36 => ?_))
      obtain ⟨a1, a2, a3, a4⟩ := h36
      replace a1 := a1.symm
      replace a2 := a2.symm
      replace a3 := a3.symm
      subst a1 a2 a3
      have hw : CIv C E S X FI AI (sr AL (lo + 57) (tS S k)) lo := hI.wk hW (fun c h1 _ => sr_ne _ _ h1)
      split at a4
      · rename_i hd
        obtain ⟨rfl, rfl⟩ := a4
        rw [if_pos hd]
        refine G_istore3 40 d_Alg_times_39 rfl (by decide) rfl ?_
        refine G_iload3 41 d_Alg_times_40 rfl ?_
        refine G_ifeq 48 44 d_Alg_times_41 rfl rfl (fun h41 => ?_) (fun h41 => ?_)
        · exact absurd h41 (by decide)
        · refine G_iload3 45 d_Alg_times_44 rfl ?_
          refine G_goto 53 d_Alg_times_45 rfl ?_
          refine G_iret d_Alg_times_53 rfl ?_
          exact ⟨rfl, h, hw, cF.al (fun c hc => sr_ne _ _ (by omega))⟩
      · rename_i hd
        rw [if_neg hd]
        split at a4
        · rename_i hp
          obtain ⟨rfl, rfl⟩ := a4
          rw [if_pos hp]
          refine G_istore3 40 d_Alg_times_39 rfl (by decide) rfl ?_
          refine G_iload3 41 d_Alg_times_40 rfl ?_
          refine G_ifeq 48 44 d_Alg_times_41 rfl rfl (fun h41 => ?_) (fun h41 => ?_)
          · exact absurd h41 (by decide)
          · refine G_iload3 45 d_Alg_times_44 rfl ?_
            refine G_goto 53 d_Alg_times_45 rfl ?_
            refine G_iret d_Alg_times_53 rfl ?_
            exact ⟨rfl, h, hw, cF.al (fun c hc => sr_ne _ _ (by omega))⟩
        · rename_i hp
          obtain ⟨rfl, rfl⟩ := a4
          rw [if_neg hp]
          refine G_istore3 40 d_Alg_times_39 rfl (by decide) rfl ?_
          refine G_iload3 41 d_Alg_times_40 rfl ?_
          refine G_ifeq 48 44 d_Alg_times_41 rfl rfl (fun h41 => ?_) (fun h41 => ?_)
          · refine G_aload0 49 d_Alg_times_48 rfl ?_
            refine G_iload1 50 d_Alg_times_49 rfl ?_
            refine G_invV1d 53 d_Alg_times_50 rfl e_Alg_178 M_Alg_putWork rfl h.sh (Nat.le_of_ble_eq_true rfl) (Nat.le_of_ble_eq_true rfl) rfl (s_putWork (by assumption) (by omega)) ?_
            refine G_iret d_Alg_times_53 rfl ?_
            rw [sr_at]
            exact ⟨rfl, h, hI.s1 hW hk (fun c h1 _ hc => by rw [sr_ne _ _ hc, sr_ne _ _ h1, sr_ne _ _ h1]) (sr_at _ _ _), cF.al (fun c hc => by rw [sr_ne _ _ (by omega), sr_ne _ _ (by omega), sr_ne _ _ (by omega)])⟩
          · exact absurd rfl h41
    · have q2 := bN_f h8 (show 6 < 2 ^ 31 by omega)
      simp only [fTimes, q2, Bool.false_and, Bool.and_false, Bool.false_eq_true, if_false]
      refine G_iconst (-1) 15 d_Alg_times_14 rfl rfl ?_
      refine G_iret d_Alg_times_15 rfl ?_
      exact ⟨rfl, h, hI, cF.rf⟩
  · have q1 := bN_f h1 (show 6 < 2 ^ 31 by omega)
    simp only [fTimes, q1, Bool.false_and, Bool.and_false, Bool.false_eq_true, if_false]
    refine G_iconst (-1) 15 d_Alg_times_14 rfl rfl ?_
    refine G_iret d_Alg_times_15 rfl ?_
    exact ⟨rfl, h, hI, cF.rf⟩
theorem c_even {V : GV} {d lo C E : Nat} {S : ST} {s : Int32} {X : XT} {FI AI : FT} {AL : LT} (h : CO X lo) (hI : CIv C E S X FI AI AL lo) (hW : WS S) : G V m_Alg_even (d + 3) 0 [some (.ref lo), some (.int s), none] [] X FI AI AL (fun r X' FI' AI' AL' => r = some (.int (fEven S s).1) ∧ CO X' lo ∧ CIv C E (fEven S s).2 X' FI' AI' AL' lo ∧ cF X X' FI FI' AI AI' AL AL' lo) := by
  have wk := h.wk
  have wks := wk.1
  have spp := h.sp
  have sps := spp.1
  refine G_iload1 1 d_Alg_even_0 rfl ?_
  refine G_invS1b 4 d_Alg_even_1 rfl e_Alg_119 M_Alg_isSlot (Nat.le_of_ble_eq_true rfl) (Nat.le_of_ble_eq_true rfl) rfl (s_isSlot) (fun h1 => G_ifne1 7 d_Alg_even_4 9 rfl rfl ?_) (fun h1 => G_ifne0 7 d_Alg_even_4 9 rfl rfl ?_)
  · obtain ⟨k, hk, rfl⟩ := h1
    have qk := bN_t hk (show 6 < 2 ^ 31 by omega)
    have zk := ni_nI (show k < 2 ^ 31 by omega)
    obtain ⟨ark, pok⟩ := h.sl hk
    have psk := pok.1
    have ek := hI.1 k hk
    simp only [fEven, qk, zk, if_true]
    refine G_ldc2 12 d_Alg_even_9 rfl k_Alg_188 ?_
    refine G_aload0 13 d_Alg_even_12 rfl ?_
    refine G_getR 16 d_Alg_even_13 rfl f_Alg_13 rfl h.sh h.f0 ?_
    refine G_iload1 17 d_Alg_even_16 rfl ?_
    refine G_aaload 18 d_Alg_even_17 rfl h.s0 (by decide) (by decide) (ix_nI (by omega) (by omega)) (by assumption) ?_
    refine G_invV0d 21 d_Alg_even_18 rfl e_Alg_132 M_Poly_normNow rfl (by assumption) (Nat.le_of_ble_eq_true rfl) (Nat.le_of_ble_eq_true rfl) rfl (s_norm' (by assumption)) ?_
    refine G_invS2d 24 d_Alg_even_21 rfl e_Alg_163 M_Alg_productOrAbove (Nat.le_of_ble_eq_true rfl) (Nat.le_of_ble_eq_true rfl) rfl (s_prodA) ?_
    refine G_ldc2 27 d_Alg_even_24 rfl k_Alg_146 ?_
    refine G_lcne 34 31 d_Alg_even_27 d_Alg_even_28 rfl rfl (fun h27 => ?_) (fun h27 => ?_)
    · rw [ek, ← prodA_neg] at h27
      rw [if_neg h27]
      have L : ∀ j, j ≤ 6 → ∀ AJ : LT, (∀ c, c ≠ lo + 57 → c ≠ lo + 59 → AJ c = AL c) → AJ (lo + 57) = evP (tS S k) j → G V m_Alg_even (d + 3) 43 [some (.ref lo), some (.int (nI k)), some (.int (nI j))] [] X FI AI AJ (fun r X' FI' AI' AL' => r = some (.int (nI (cnt (evP (tS S k) 6)), set1 S k (evP (tS S k) 6)).1) ∧ CO X' lo ∧ CIv C E (nI (cnt (evP (tS S k) 6)), set1 S k (evP (tS S k) 6)).2 X' FI' AI' AL' lo ∧ cF X X' FI FI' AI AI' AL AL' lo) := by
        refine upto ?_ ?_
        · intro AJ k1 k2
          refine G_iload2 44 d_Alg_even_43 rfl ?_
          refine G_bipushN 6 46 d_Alg_even_44 rfl rfl ?_
          first | refine G_icgeN 81 49 d_Alg_even_46 rfl rfl (by omega) (by omega) (fun h46 => ?_) (fun h46 => ?_) | refine G_icge 81 49 d_Alg_even_46 rfl rfl (fun h46 => ?_) (fun h46 => ?_)
          · refine G_aload0 82 d_Alg_even_81 rfl ?_
            refine G_iload1 83 d_Alg_even_82 rfl ?_
            refine G_invV1d 86 d_Alg_even_83 rfl e_Alg_178 M_Alg_putWork rfl h.sh (Nat.le_of_ble_eq_true rfl) (Nat.le_of_ble_eq_true rfl) rfl (s_putWork (by assumption) (by omega)) ?_
            refine G_iret d_Alg_even_86 rfl ?_
            rw [k2]
            exact ⟨rfl, h, hI.s1 hW hk (fun c h1 h2 hc => by rw [sr_ne _ _ hc]; exact k1 c h1 h2) (sr_at _ _ _), cF.al (fun c hc => by rw [sr_ne _ _ (by omega)]; exact k1 c (by omega) (by omega))⟩
          · omega
        · intro j hj ih AJ k1 k2
          have e3 : AJ (lo + 67 + 2 * k) = tS S k := by rw [k1 _ (by omega) (by omega)]; exact ek
          refine G_iload2 44 d_Alg_even_43 rfl ?_
          refine G_bipushN 6 46 d_Alg_even_44 rfl rfl ?_
          first | refine G_icgeN 81 49 d_Alg_even_46 rfl rfl (by omega) (by omega) (fun h46 => ?_) (fun h46 => ?_) | refine G_icge 81 49 d_Alg_even_46 rfl rfl (fun h46 => ?_) (fun h46 => ?_)
          · omega
          · refine G_aload0 50 d_Alg_even_49 rfl ?_
            refine G_getR 53 d_Alg_even_50 rfl f_Alg_69 rfl h.sh h.f9 ?_
            refine G_aload0 54 d_Alg_even_53 rfl ?_
            refine G_getR 57 d_Alg_even_54 rfl f_Alg_13 rfl h.sh h.f0 ?_
            refine G_iload1 58 d_Alg_even_57 rfl ?_
            refine G_aaload 59 d_Alg_even_58 rfl h.s0 (by decide) (by decide) (ix_nI (by omega) (by omega)) (by assumption) ?_
            refine G_iload2 60 d_Alg_even_59 rfl ?_
            refine G_invV2v 63 d_Alg_even_60 rfl e_Alg_184 M_Poly_becomeTurned rfl h.s9 (Nat.le_of_ble_eq_true rfl) (Nat.le_of_ble_eq_true rfl) rfl (s_becomeTurned (by assumption) (by assumption) (by first | assumption | omega) (by omega)) ?_
            refine G_aload0 64 d_Alg_even_63 rfl ?_
            refine G_getR 67 d_Alg_even_64 rfl f_Alg_65 rfl h.sh h.f8 ?_
            refine G_aload0 68 d_Alg_even_67 rfl ?_
            refine G_getR 71 d_Alg_even_68 rfl f_Alg_69 rfl h.sh h.f9 ?_
            refine G_lconst 1 72 d_Alg_even_71 rfl rfl ?_
            refine G_invV2v 75 d_Alg_even_72 rfl e_Alg_166 M_Poly_addMultiple rfl h.s8 (Nat.le_of_ble_eq_true rfl) (Nat.le_of_ble_eq_true rfl) rfl (s_addMultiple (by assumption) (by assumption)) ?_
            first | refine G_iincN2 78 d_Alg_even_75 rfl (by decide) rfl ?_ | refine G_iinc2 _ 78 d_Alg_even_75 rfl (by decide) rfl rfl ?_
            refine G_goto 43 d_Alg_even_78 rfl ?_
            refine ih _ (fun c h1 h2 => by rw [sr_ne _ _ h1, sr_ne _ _ h2]; exact k1 c h1 h2) ?_
            rw [sr_at, sr_at, sr_ne _ _ (show lo + 57 ≠ lo + 59 by omega), k2, e3]
            rfl
      refine G_aload0 35 d_Alg_even_34 rfl ?_
      refine G_getR 38 d_Alg_even_35 rfl f_Alg_65 rfl h.sh h.f8 ?_
      refine G_invV0v 41 d_Alg_even_38 rfl e_Alg_160 M_Poly_becomeZero rfl h.s8 (Nat.le_of_ble_eq_true rfl) (Nat.le_of_ble_eq_true rfl) rfl (s_becomeZero (by assumption)) ?_
      refine G_iconstN 0 42 d_Alg_even_41 rfl rfl ?_
      refine G_istore2 43 d_Alg_even_42 rfl (by decide) rfl ?_
      exact L 0 (by omega) _ (fun c h1 _ => sr_ne _ _ h1) (by rw [sr_at]; rfl)
    · rw [ek, ← prodA_neg] at h27
      rw [if_pos h27]
      refine G_bipush (-5) 33 d_Alg_even_31 rfl rfl ?_
      refine G_iret d_Alg_even_33 rfl ?_
      exact ⟨rfl, h, hI, cF.rf⟩
  · have q1 := bN_f h1 (show 6 < 2 ^ 31 by omega)
    simp only [fEven, q1, Bool.false_and, Bool.and_false, Bool.false_eq_true, if_false]
    refine G_iconst (-1) 8 d_Alg_even_7 rfl rfl ?_
    refine G_iret d_Alg_even_8 rfl ?_
    exact ⟨rfl, h, hI, cF.rf⟩
theorem c_like {V : GV} {d lo C E : Nat} {S : ST} {s : Int32} {X : XT} {FI AI : FT} {AL : LT} (h : CO X lo) (hI : CIv C E S X FI AI AL lo) (hW : WS S) : G V m_Alg_like (d + 2) 0 [some (.ref lo), some (.int s), none] [] X FI AI AL (fun r X' FI' AI' AL' => r = some (.int (fLike S s).1) ∧ CO X' lo ∧ CIv C E (fLike S s).2 X' FI' AI' AL' lo ∧ cF X X' FI FI' AI AI' AL AL' lo) := by
  refine G_iload1 1 d_Alg_like_0 rfl ?_
  refine G_invS1b 4 d_Alg_like_1 rfl e_Alg_119 M_Alg_isSlot (Nat.le_of_ble_eq_true rfl) (Nat.le_of_ble_eq_true rfl) rfl (s_isSlot) (fun h1 => G_ifne1 7 d_Alg_like_4 9 rfl rfl ?_) (fun h1 => G_ifne0 7 d_Alg_like_4 9 rfl rfl ?_)
  · obtain ⟨k, hk, rfl⟩ := h1
    have qk := bN_t hk (show 6 < 2 ^ 31 by omega)
    have zk := ni_nI (show k < 2 ^ 31 by omega)
    obtain ⟨ark, pok⟩ := h.sl hk
    have psk := pok.1
    have ek := hI.1 k hk
    simp only [fLike, qk, zk, if_true]
    have L : ∀ m, m ≤ k → G V m_Alg_like (d + 2) 11 [some (.ref lo), some (.int (nI k)), some (.int (nI (k - m)))] [] X FI AI AL (fun r X' FI' AI' AL' => r = some (.int (nI (lkS (tS S) k m))) ∧ CO X' lo ∧ CIv C E S X' FI' AI' AL' lo ∧ cF X X' FI FI' AI AI' AL AL' lo) := by
      intro m
      induction m with
      | zero =>
        intro _
        refine G_iload2 12 d_Alg_like_11 rfl ?_
        refine G_iload1 13 d_Alg_like_12 rfl ?_
        first | refine G_icgeN 42 16 d_Alg_like_13 rfl rfl (by omega) (by omega) (fun h13 => ?_) (fun h13 => ?_) | refine G_icge 42 16 d_Alg_like_13 rfl rfl (fun h13 => ?_) (fun h13 => ?_)
        · refine G_iload1 43 d_Alg_like_42 rfl ?_
          refine G_iret d_Alg_like_43 rfl ?_
          exact ⟨rfl, h, hI, cF.rf⟩
        · omega
      | succ m ih =>
        intro hm
        have ih := ih (by omega)
        obtain ⟨arl, pol⟩ := h.sl (show k - (m + 1) < 6 by omega)
        have psl := pol.1
        have el := hI.1 (k - (m + 1)) (by omega)
        refine G_iload2 12 d_Alg_like_11 rfl ?_
        refine G_iload1 13 d_Alg_like_12 rfl ?_
        first | refine G_icgeN 42 16 d_Alg_like_13 rfl rfl (by omega) (by omega) (fun h13 => ?_) (fun h13 => ?_) | refine G_icge 42 16 d_Alg_like_13 rfl rfl (fun h13 => ?_) (fun h13 => ?_)
        · omega
        · refine G_aload0 17 d_Alg_like_16 rfl ?_
          refine G_getR 20 d_Alg_like_17 rfl f_Alg_13 rfl h.sh h.f0 ?_
          refine G_iload2 21 d_Alg_like_20 rfl ?_
          refine G_aaload 22 d_Alg_like_21 rfl h.s0 (by decide) (by decide) (ix_nI (by omega) (by omega)) (by assumption) ?_
          refine G_aload0 23 d_Alg_like_22 rfl ?_
          refine G_getR 26 d_Alg_like_23 rfl f_Alg_13 rfl h.sh h.f0 ?_
          refine G_iload1 27 d_Alg_like_26 rfl ?_
          refine G_aaload 28 d_Alg_like_27 rfl h.s0 (by decide) (by decide) (ix_nI (by omega) (by omega)) (by assumption) ?_
          refine G_invV1b 31 d_Alg_like_28 rfl e_Alg_190 M_Poly_isLike rfl (by assumption) (Nat.le_of_ble_eq_true rfl) (Nat.le_of_ble_eq_true rfl) rfl (s_isLike' (by assumption) (by assumption)) (fun h28 => G_ifeq1 34 d_Alg_like_31 36 rfl rfl ?_) (fun h28 => G_ifeq0 34 d_Alg_like_31 36 rfl rfl ?_)
          · rw [el, ek] at h28
            have e : lkS (tS S) k (m + 1) = k - (m + 1) := by rw [lkS, if_pos (lkB_iff.mpr h28)]
            rw [e]
            refine G_iload2 35 d_Alg_like_34 rfl ?_
            refine G_iret d_Alg_like_35 rfl ?_
            exact ⟨rfl, h, hI, cF.rf⟩
          · rw [el, ek] at h28
            have e : lkS (tS S) k (m + 1) = lkS (tS S) k m := by rw [lkS, lkB_f h28, if_neg (by decide)]
            rw [e]
            first | refine G_iincN2 39 d_Alg_like_36 rfl (by decide) rfl ?_ | refine G_iinc2 _ 39 d_Alg_like_36 rfl (by decide) rfl rfl ?_
            refine G_goto 11 d_Alg_like_39 rfl ?_
            rw [show k - (m + 1) + 1 = k - m by omega]
            exact ih
    refine G_iconstN 0 10 d_Alg_like_9 rfl rfl ?_
    refine G_istore2 11 d_Alg_like_10 rfl (by decide) rfl ?_
    have L0 := L k (Nat.le_refl _)
    rw [Nat.sub_self] at L0
    exact L0
  · have q1 := bN_f h1 (show 6 < 2 ^ 31 by omega)
    simp only [fLike, q1, Bool.false_and, Bool.and_false, Bool.false_eq_true, if_false]
    refine G_iconst (-1) 8 d_Alg_like_7 rfl rfl ?_
    refine G_iret d_Alg_like_8 rfl ?_
    exact ⟨rfl, h, hI, cF.rf⟩
theorem c_orbit {V : GV} {d lo C E : Nat} {S : ST} {s : Int32} {X : XT} {FI AI : FT} {AL : LT} (h : CO X lo) (hI : CIv C E S X FI AI AL lo) (hW : WS S) : G V m_Alg_orbit (d + 3) 0 [some (.ref lo), some (.int s), none, none, none, none] [] X FI AI AL (fun r X' FI' AI' AL' => r = some (.int (fOrbit S s).1) ∧ CO X' lo ∧ CIv C E (fOrbit S s).2 X' FI' AI' AL' lo ∧ cF X X' FI FI' AI AI' AL AL' lo) := by
  have wk := h.wk
  have wks := wk.1
  have spp := h.sp
  have sps := spp.1
  refine G_iload1 1 d_Alg_orbit_0 rfl ?_
  refine G_invS1b 4 d_Alg_orbit_1 rfl e_Alg_119 M_Alg_isSlot (Nat.le_of_ble_eq_true rfl) (Nat.le_of_ble_eq_true rfl) rfl (s_isSlot) (fun h1 => G_ifne1 7 d_Alg_orbit_4 9 rfl rfl ?_) (fun h1 => G_ifne0 7 d_Alg_orbit_4 9 rfl rfl ?_)
  · obtain ⟨k, hk, rfl⟩ := h1
    have qk := bN_t hk (show 6 < 2 ^ 31 by omega)
    have zk := ni_nI (show k < 2 ^ 31 by omega)
    obtain ⟨ark, pok⟩ := h.sl hk
    have psk := pok.1
    have ek := hI.1 k hk
    simp only [fOrbit, qk, zk, if_true]
    have hL6 := orN_le (tS S k)
    have O : ∀ i, i ≤ 6 → ∀ (v4 v5 : Option Value) (AJ : LT), (∀ c, c ≠ lo + 57 → c ≠ lo + 59 → AJ c = AL c) → G V m_Alg_orbit (d + 3) 13 [some (.ref lo), some (.int (nI k)), some (.int (nI (orN (tS S k) i))), some (.int (nI i)), v4, v5] [] X FI AI AJ (fun r X' FI' AI' AL' => r = some (.int (nI (orN (tS S k) 6))) ∧ CO X' lo ∧ CIv C E S X' FI' AI' AL' lo ∧ cF X X' FI FI' AI AI' AL AL' lo) := by
      refine upto ?_ ?_
      · intro v4 v5 AJ k1
        refine G_iload3 14 d_Alg_orbit_13 rfl ?_
        refine G_bipushN 6 16 d_Alg_orbit_14 rfl rfl ?_
        first | refine G_icgeN 98 19 d_Alg_orbit_16 rfl rfl (by omega) (by omega) (fun h16 => ?_) (fun h16 => ?_) | refine G_icge 98 19 d_Alg_orbit_16 rfl rfl (fun h16 => ?_) (fun h16 => ?_)
        · refine G_iload2 99 d_Alg_orbit_98 rfl ?_
          refine G_iret d_Alg_orbit_99 rfl ?_
          exact ⟨rfl, h, hI.wk hW k1, cF.al (fun c hc => k1 c (by omega) (by omega))⟩
        · omega
      · intro i hi nx v4 v5 AJ k1
        have hle := hL6 i
        -- met
        have M : ∀ j, orB (tS S k) i = false → ∀ AJ : LT, (∀ c, c ≠ lo + 57 → c ≠ lo + 59 → AJ c = AL c) → G V m_Alg_orbit (d + 3) 84 [some (.ref lo), some (.int (nI k)), some (.int (nI (orN (tS S k) i))), some (.int (nI i)), some (.int 1), some (.int (nI j))] [] X FI AI AJ (fun r X' FI' AI' AL' => r = some (.int (nI (orN (tS S k) 6))) ∧ CO X' lo ∧ CIv C E S X' FI' AI' AL' lo ∧ cF X X' FI FI' AI AI' AL AL' lo) := by
          intro j hb AJ k1
          have hN : orN (tS S k) (i + 1) = orN (tS S k) i := by rw [orN, hb, if_neg (by decide), Nat.add_zero]
          rw [hN] at nx
          refine G_iload4 86 d_Alg_orbit_84 rfl ?_
          refine G_ifne 92 89 d_Alg_orbit_86 rfl rfl (fun h86 => ?_) (fun h86 => ?_)
          · first | refine G_iincN3 95 d_Alg_orbit_92 rfl (by decide) rfl ?_ | refine G_iinc3 _ 95 d_Alg_orbit_92 rfl (by decide) rfl rfl ?_
            refine G_goto 13 d_Alg_orbit_95 rfl ?_
            exact nx _ _ AJ k1
          · exact absurd h86 (by decide)
        have I : ∀ j, j ≤ i → ∀ AJ : LT, (∀ c, c ≠ lo + 57 → c ≠ lo + 59 → AJ c = AL c) → AJ (lo + 57) = trn (tS S k) i → (∀ q, q < j → ¬ like (trn (tS S k) i) (trn (tS S k) q)) → G V m_Alg_orbit (d + 3) 39 [some (.ref lo), some (.int (nI k)), some (.int (nI (orN (tS S k) i))), some (.int (nI i)), some (.int (nI 0)), some (.int (nI j))] [] X FI AI AJ (fun r X' FI' AI' AL' => r = some (.int (nI (orN (tS S k) 6))) ∧ CO X' lo ∧ CIv C E S X' FI' AI' AL' lo ∧ cF X X' FI FI' AI AI' AL AL' lo) := by
          refine upto ?_ ?_
          · intro AJ k1 k2 k3
            have hN : orN (tS S k) (i + 1) = orN (tS S k) i + 1 := by rw [orN, orB_t k3, if_pos rfl]
            rw [hN] at nx
            refine G_iload5 41 d_Alg_orbit_39 rfl ?_
            refine G_iload3 42 d_Alg_orbit_41 rfl ?_
            first | refine G_icgeN 84 45 d_Alg_orbit_42 rfl rfl (by omega) (by omega) (fun h42 => ?_) (fun h42 => ?_) | refine G_icge 84 45 d_Alg_orbit_42 rfl rfl (fun h42 => ?_) (fun h42 => ?_)
            · refine G_iload4 86 d_Alg_orbit_84 rfl ?_
              refine G_ifne 92 89 d_Alg_orbit_86 rfl rfl (fun h86 => ?_) (fun h86 => ?_)
              · exact absurd rfl h86
              · first | refine G_iincN2 92 d_Alg_orbit_89 rfl (by decide) rfl ?_ | refine G_iinc2 _ 92 d_Alg_orbit_89 rfl (by decide) rfl rfl ?_
                first | refine G_iincN3 95 d_Alg_orbit_92 rfl (by decide) rfl ?_ | refine G_iinc3 _ 95 d_Alg_orbit_92 rfl (by decide) rfl rfl ?_
                refine G_goto 13 d_Alg_orbit_95 rfl ?_
                exact nx _ _ AJ k1
            · omega
          · intro j hj ih AJ k1 k2 k3
            have e3 : AJ (lo + 67 + 2 * k) = tS S k := by rw [k1 _ (by omega) (by omega)]; exact ek
            refine G_iload5 41 d_Alg_orbit_39 rfl ?_
            refine G_iload3 42 d_Alg_orbit_41 rfl ?_
            first | refine G_icgeN 84 45 d_Alg_orbit_42 rfl rfl (by omega) (by omega) (fun h42 => ?_) (fun h42 => ?_) | refine G_icge 84 45 d_Alg_orbit_42 rfl rfl (fun h42 => ?_) (fun h42 => ?_)
            · omega
            · refine G_iload4 47 d_Alg_orbit_45 rfl ?_
              refine G_ifne 84 50 d_Alg_orbit_47 rfl rfl (fun h47 => ?_) (fun h47 => ?_)
              · exact absurd rfl h47
              · refine G_aload0 51 d_Alg_orbit_50 rfl ?_
                refine G_getR 54 d_Alg_orbit_51 rfl f_Alg_69 rfl h.sh h.f9 ?_
                refine G_aload0 55 d_Alg_orbit_54 rfl ?_
                refine G_getR 58 d_Alg_orbit_55 rfl f_Alg_13 rfl h.sh h.f0 ?_
                refine G_iload1 59 d_Alg_orbit_58 rfl ?_
                refine G_aaload 60 d_Alg_orbit_59 rfl h.s0 (by decide) (by decide) (ix_nI (by omega) (by omega)) (by assumption) ?_
                refine G_iload5 62 d_Alg_orbit_60 rfl ?_
                refine G_invV2v 65 d_Alg_orbit_62 rfl e_Alg_184 M_Poly_becomeTurned rfl h.s9 (Nat.le_of_ble_eq_true rfl) (Nat.le_of_ble_eq_true rfl) rfl (s_becomeTurned (by assumption) (by assumption) (by first | assumption | omega) (by omega)) ?_
                refine G_aload0 66 d_Alg_orbit_65 rfl ?_
                refine G_getR 69 d_Alg_orbit_66 rfl f_Alg_65 rfl h.sh h.f8 ?_
                refine G_aload0 70 d_Alg_orbit_69 rfl ?_
                refine G_getR 73 d_Alg_orbit_70 rfl f_Alg_69 rfl h.sh h.f9 ?_
                refine G_invV1b 76 d_Alg_orbit_73 rfl e_Alg_190 M_Poly_isLike rfl h.s8 (Nat.le_of_ble_eq_true rfl) (Nat.le_of_ble_eq_true rfl) rfl (s_isLike' (by assumption) (by assumption)) (fun h73 => ?_) (fun h73 => ?_)
                · rw [sr_at, sr_ne _ _ (show lo + 57 ≠ lo + 59 by omega), k2, e3] at h73
                  have hb := orB_f hj h73
                  refine G_istore4 78 d_Alg_orbit_76 rfl (by decide) rfl ?_
                  first | refine G_iincN5 81 d_Alg_orbit_78 rfl (by decide) rfl ?_ | refine G_iinc5 _ 81 d_Alg_orbit_78 rfl (by decide) rfl rfl ?_
                  refine G_goto 39 d_Alg_orbit_81 rfl ?_
                  refine G_iload5 41 d_Alg_orbit_39 rfl ?_
                  refine G_iload3 42 d_Alg_orbit_41 rfl ?_
                  first | refine G_icgeN 84 45 d_Alg_orbit_42 rfl rfl (by omega) (by omega) (fun h42 => ?_) (fun h42 => ?_) | refine G_icge 84 45 d_Alg_orbit_42 rfl rfl (fun h42 => ?_) (fun h42 => ?_)
                  · exact M _ hb _ (fun c h1 h2 => by rw [sr_ne _ _ h2]; exact k1 c h1 h2)
                  · refine G_iload4 47 d_Alg_orbit_45 rfl ?_
                    refine G_ifne 84 50 d_Alg_orbit_47 rfl rfl (fun h47 => ?_) (fun h47 => ?_)
                    · exact M _ hb _ (fun c h1 h2 => by rw [sr_ne _ _ h2]; exact k1 c h1 h2)
                    · exact absurd h47 (by decide)
                · rw [sr_at, sr_ne _ _ (show lo + 57 ≠ lo + 59 by omega), k2, e3] at h73
                  refine G_istore4 78 d_Alg_orbit_76 rfl (by decide) rfl ?_
                  first | refine G_iincN5 81 d_Alg_orbit_78 rfl (by decide) rfl ?_ | refine G_iinc5 _ 81 d_Alg_orbit_78 rfl (by decide) rfl rfl ?_
                  refine G_goto 39 d_Alg_orbit_81 rfl ?_
                  refine ih _ (fun c h1 h2 => by rw [sr_ne _ _ h2]; exact k1 c h1 h2) (by rw [sr_ne _ _ (by omega)]; exact k2) (fun q hq => ?_)
                  by_cases e : q = j
                  · rw [e]; exact h73
                  · exact k3 q (by omega)
        have e3 : AJ (lo + 67 + 2 * k) = tS S k := by rw [k1 _ (by omega) (by omega)]; exact ek
        refine G_iload3 14 d_Alg_orbit_13 rfl ?_
        refine G_bipushN 6 16 d_Alg_orbit_14 rfl rfl ?_
        first | refine G_icgeN 98 19 d_Alg_orbit_16 rfl rfl (by omega) (by omega) (fun h16 => ?_) (fun h16 => ?_) | refine G_icge 98 19 d_Alg_orbit_16 rfl rfl (fun h16 => ?_) (fun h16 => ?_)
        · omega
        · refine G_aload0 20 d_Alg_orbit_19 rfl ?_
          refine G_getR 23 d_Alg_orbit_20 rfl f_Alg_65 rfl h.sh h.f8 ?_
          refine G_aload0 24 d_Alg_orbit_23 rfl ?_
          refine G_getR 27 d_Alg_orbit_24 rfl f_Alg_13 rfl h.sh h.f0 ?_
          refine G_iload1 28 d_Alg_orbit_27 rfl ?_
          refine G_aaload 29 d_Alg_orbit_28 rfl h.s0 (by decide) (by decide) (ix_nI (by omega) (by omega)) (by assumption) ?_
          refine G_iload3 30 d_Alg_orbit_29 rfl ?_
          refine G_invV2v 33 d_Alg_orbit_30 rfl e_Alg_184 M_Poly_becomeTurned rfl h.s8 (Nat.le_of_ble_eq_true rfl) (Nat.le_of_ble_eq_true rfl) rfl (s_becomeTurned (by assumption) (by assumption) (by first | assumption | omega) (by omega)) ?_
          refine G_iconstN 0 34 d_Alg_orbit_33 rfl rfl ?_
          refine G_istore4 36 d_Alg_orbit_34 rfl (by decide) rfl ?_
          refine G_iconstN 0 37 d_Alg_orbit_36 rfl rfl ?_
          refine G_istore5 39 d_Alg_orbit_37 rfl (by decide) rfl ?_
          exact I 0 (by omega) _ (fun c h1 h2 => by rw [sr_ne _ _ h1]; exact k1 c h1 h2) (by rw [sr_at, e3]) (fun q hq => by omega)
    refine G_iconstN 0 10 d_Alg_orbit_9 rfl rfl ?_
    refine G_istore2 11 d_Alg_orbit_10 rfl (by decide) rfl ?_
    refine G_iconstN 0 12 d_Alg_orbit_11 rfl rfl ?_
    refine G_istore3 13 d_Alg_orbit_12 rfl (by decide) rfl ?_
    exact O 0 (by omega) _ _ AL (fun _ _ _ => rfl)
  · have q1 := bN_f h1 (show 6 < 2 ^ 31 by omega)
    simp only [fOrbit, q1, Bool.false_and, Bool.and_false, Bool.false_eq_true, if_false]
    refine G_iconst (-1) 8 d_Alg_orbit_7 rfl rfl ?_
    refine G_iret d_Alg_orbit_8 rfl ?_
    exact ⟨rfl, h, hI, cF.rf⟩
theorem c_lead {V : GV} {d lo C E : Nat} {S : ST} {s w : Int32} {X : XT} {FI AI : FT} {AL : LT} (h : CO X lo) (hI : CIv C E S X FI AI AL lo) (hW : WS S) : G V m_Alg_lead (d + 2) 0 [some (.ref lo), some (.int s), some (.int w), none] [] X FI AI AL (fun r X' FI' AI' AL' => r = some (.int (fLead S s w).1) ∧ CO X' lo ∧ CIv C E (fLead S s w).2 X' FI' AI' AL' lo ∧ cF X X' FI FI' AI AI' AL AL' lo) := by
  have rkk := h.rk
  have hod := hI.2.1
  have ho := hW.1
  refine G_iload1 1 d_Alg_lead_0 rfl ?_
  refine G_invS1b 4 d_Alg_lead_1 rfl e_Alg_119 M_Alg_isSlot (Nat.le_of_ble_eq_true rfl) (Nat.le_of_ble_eq_true rfl) rfl (s_isSlot) (fun h1 => G_ifeq1 7 d_Alg_lead_4 16 rfl rfl ?_) (fun h1 => G_ifeq0 7 d_Alg_lead_4 16 rfl rfl ?_)
  · obtain ⟨k, hk, rfl⟩ := h1
    have qk := bN_t hk (show 6 < 2 ^ 31 by omega)
    have zk := ni_nI (show k < 2 ^ 31 by omega)
    obtain ⟨ark, pok⟩ := h.sl hk
    have psk := pok.1
    have ek := hI.1 k hk
    have l84 : lead1 (tS S k) (tO S) ≤ 84 := pld_le _ ho 84 (Nat.le_refl _)
    have bd : ¬ isN w 5 → G V m_Alg_lead (d + 2) 16 [some (.ref lo), some (.int (nI k)), some (.int w), none] [] X FI AI AL (fun r X' FI' AI' AL' => r = some (.int (fLead S (nI k) w).1) ∧ CO X' lo ∧ CIv C E (fLead S (nI k) w).2 X' FI' AI' AL' lo ∧ cF X X' FI FI' AI AI' AL AL' lo) := by
      intro hn
      have q2 := bN_f hn (show 5 < 2 ^ 31 by omega)
      simp only [fLead, q2, Bool.false_and, Bool.and_false, Bool.false_eq_true, if_false]
      refine G_iconst (-1) 17 d_Alg_lead_16 rfl rfl ?_
      refine G_iret d_Alg_lead_17 rfl ?_
      exact ⟨rfl, h, hI, cF.rf⟩
    refine G_iload2 8 d_Alg_lead_7 rfl ?_
    first | refine G_ifltD 16 11 d_Alg_lead_8 rfl rfl (by omega) (fun h8 => ?_) (fun j h8 => ?_) | refine G_iflt 16 11 d_Alg_lead_8 rfl rfl (fun h8 => ?_) (fun h8 => ?_)
    · exact bd (fun ⟨j, hj, e⟩ => by rw [e, lt0_iff, nI_toInt (by omega)] at h8; omega)
    · obtain ⟨l, hl31, rfl⟩ := nI_of h8
      refine G_iload2 12 d_Alg_lead_11 rfl ?_
      refine G_iconstN 4 13 d_Alg_lead_12 rfl rfl ?_
      first | refine G_icleN 18 16 d_Alg_lead_13 rfl rfl (by omega) (by omega) (fun h13 => ?_) (fun h13 => ?_) | refine G_icle 18 16 d_Alg_lead_13 rfl rfl (fun h13 => ?_) (fun h13 => ?_)
      · have hl : l < 5 := by omega
        have q2 := bN_t hl (show 5 < 2 ^ 31 by omega)
        have z2 := ni_nI hl31
        simp only [fLead, qk, zk, q2, z2, Bool.and_self, if_true]
        refine G_iload2 19 d_Alg_lead_18 rfl ?_
        refine G_iconstN 4 20 d_Alg_lead_19 rfl rfl ?_
        first | refine G_icneN 33 23 d_Alg_lead_20 rfl rfl (by omega) (by omega) (fun h20 => ?_) (fun h20 => ?_) | refine G_icne 33 23 d_Alg_lead_20 rfl rfl (fun h20 => ?_) (fun h20 => ?_)
        · rw [if_neg h20]
          have hle := s_leadOf (V := V) (d := d + 1) (FI := FI) (AL := AL) rkk pok ho hod.2
          rw [ek] at hle
          refine G_aload0 34 d_Alg_lead_33 rfl ?_
          refine G_getR 37 d_Alg_lead_34 rfl f_Alg_20 rfl h.sh h.f1 ?_
          refine G_aload0 38 d_Alg_lead_37 rfl ?_
          refine G_getR 41 d_Alg_lead_38 rfl f_Alg_13 rfl h.sh h.f0 ?_
          refine G_iload1 42 d_Alg_lead_41 rfl ?_
          refine G_aaload 43 d_Alg_lead_42 rfl h.s0 (by decide) (by decide) (ix_nI (by omega) (by omega)) (by assumption) ?_
          refine G_invV1d 46 d_Alg_lead_43 rfl e_Alg_196 M_Rank_leadOf rfl h.s1 (Nat.le_of_ble_eq_true rfl) (Nat.le_of_ble_eq_true rfl) rfl (hle) ?_
          cases hq : lead1 (tS S k) (tO S) with
          | zero =>
            rw [if_pos rfl, dI_0]
            refine G_istore3 47 d_Alg_lead_46 rfl (by decide) rfl ?_
            refine G_iload3 48 d_Alg_lead_47 rfl ?_
            refine G_ifge 54 51 d_Alg_lead_48 rfl rfl (fun h48 => ?_) (fun h48 => ?_)
            · exact absurd h48 (by decide)
            · refine G_bipush (-2) 53 d_Alg_lead_51 rfl rfl ?_
              refine G_iret d_Alg_lead_53 rfl ?_
              exact ⟨rfl, h, hI, cF.rf⟩
          | succ t =>
            have ht : t < 84 := by omega
            rw [if_neg (by omega), dI_s, show t + 1 - 1 = t by omega]
            refine G_istore3 47 d_Alg_lead_46 rfl (by decide) rfl ?_
            refine G_iload3 48 d_Alg_lead_47 rfl ?_
            refine G_ifge 54 51 d_Alg_lead_48 rfl rfl (fun h48 => ?_) (fun h48 => ?_)
            · refine G_iload2 55 d_Alg_lead_54 rfl ?_
              refine G_iconstN 3 56 d_Alg_lead_55 rfl rfl ?_
              first | refine G_icneN 67 59 d_Alg_lead_56 rfl rfl (by omega) (by omega) (fun h56 => ?_) (fun h56 => ?_) | refine G_icne 67 59 d_Alg_lead_56 rfl rfl (fun h56 => ?_) (fun h56 => ?_)
              · rw [if_neg h56]
                refine G_iload3 68 d_Alg_lead_67 rfl ?_
                refine G_iload2 69 d_Alg_lead_68 rfl ?_
                refine G_invS2d 72 d_Alg_lead_69 rfl e_Alg_203 M_Terms_exponent (Nat.le_of_ble_eq_true rfl) (Nat.le_of_ble_eq_true rfl) rfl (s_exponent (by omega) (by omega)) ?_
                refine G_iret d_Alg_lead_72 rfl ?_
                exact ⟨rfl, h, hI, cF.rf⟩
              · rw [if_pos h56]
                refine G_gets 0 62 d_Alg_lead_59 rfl rfl s_Alg_199 ?_
                refine G_iload3 63 d_Alg_lead_62 rfl ?_
                refine G_st0 64 d_Alg_lead_63 rfl (ix_nI (by omega) (by omega)) ?_
                refine G_goto 72 d_Alg_lead_64 rfl ?_
                refine G_iret d_Alg_lead_72 rfl ?_
                exact ⟨rfl, h, hI, cF.rf⟩
            · exact absurd (by rw [Int32.le_iff_toInt_le, nI_toInt (by omega)]; show (0 : Int) ≤ _; omega) h48
        · rw [if_pos h20]
          refine G_aload0 24 d_Alg_lead_23 rfl ?_
          refine G_getR 27 d_Alg_lead_24 rfl f_Alg_13 rfl h.sh h.f0 ?_
          refine G_iload1 28 d_Alg_lead_27 rfl ?_
          refine G_aaload 29 d_Alg_lead_28 rfl h.s0 (by decide) (by decide) (ix_nI (by omega) (by omega)) (by assumption) ?_
          refine G_invV0d 32 d_Alg_lead_29 rfl e_Alg_156 M_Poly_termCount rfl (by assumption) (Nat.le_of_ble_eq_true rfl) (Nat.le_of_ble_eq_true rfl) rfl (s_termCount (by assumption)) ?_
          refine G_iret d_Alg_lead_32 rfl ?_
          exact ⟨by rw [ek], h, hI, cF.rf⟩
      · exact bd (fun ⟨j, hj, e⟩ => by rw [nI_eq hl31 (by omega)] at e; omega)
  · have q1 := bN_f h1 (show 6 < 2 ^ 31 by omega)
    simp only [fLead, q1, Bool.false_and, Bool.and_false, Bool.false_eq_true, if_false]
    refine G_iconst (-1) 17 d_Alg_lead_16 rfl rfl ?_
    refine G_iret d_Alg_lead_17 rfl ?_
    exact ⟨rfl, h, hI, cF.rf⟩
