/-! ===== the class: poly ===== -/
theorem s_readTold {V : GV} {d lo l k sz : Nat} {row : Nat → Int32} {a : Int32} {X : XT} {FI AI : FT} {AL : LT} (h : CO X lo) (hl : l < 4) (es : FI (lo + 78 + 2 * l) 1 = nI sz) (hsz : sz ≤ 40) (er : ∀ j, j < 40 → AI (lo + 79 + 2 * l) j = row j) (hk : k ≤ 10) (ha : k = 0 ∨ 0 ≤ a.toInt) : G V m_Alg_readTold (d + 2) 0 [some (.ref lo), some (.ref (lo + 78 + 2 * l)), some (.int a), some (.int (nI k)), none, none, none, none, none, none] [] X FI AI AL (fun r X' FI' AI' AL' => X' = X ∧ FI' = FI ∧ AI' = AI ∧ r = some (.int (tlB row sz (a.toInt + 4 * (k : Int)))) ∧ (¬ tlB row sz (a.toInt + 4 * (k : Int)) = 0 → AL' = AL) ∧ (tlB row sz (a.toInt + 4 * (k : Int)) = 0 → tlT row (a.toInt + 4 * (k : Int)) < 84 ∧ AL' = u2 (u2 AL (lo + 57) (tlT row (a.toInt + 4 * (k : Int))) (AL (lo + 57) (tlT row (a.toInt + 4 * (k : Int))) + (row (a.toInt + 4 * (k : Int)).toNat).toInt64)) (lo + 59) (tlT row (a.toInt + 4 * (k : Int))) 1)) := by
  obtain ⟨arl, pol⟩ := h.shs hl
  have psl := pol.1
  have pfl := pol.2.1
  have prl := pol.2.2
  have wk := h.wk
  have wks := wk.1
  have spp := h.sp
  have sps := spp.1
  have wkf := wk.2.1
  have wkq := wk.2.2
  have spf := spp.2.1
  have spq := spp.2.2
  have out : (a.toInt + 4 * (k : Int) < 0 ∨ (sz : Int) < a.toInt + 4 * (k : Int) + 4) → ∀ l4 l5 l6 l7 l8 l9, G V m_Alg_readTold (d + 2) 30 [some (.ref lo), some (.ref (lo + 78 + 2 * l)), some (.int a), some (.int (nI k)), l4, l5, l6, l7, l8, l9] [] X FI AI AL (fun r X' FI' AI' AL' => X' = X ∧ FI' = FI ∧ AI' = AI ∧ r = some (.int (tlB row sz (a.toInt + 4 * (k : Int)))) ∧ (¬ tlB row sz (a.toInt + 4 * (k : Int)) = 0 → AL' = AL) ∧ (tlB row sz (a.toInt + 4 * (k : Int)) = 0 → tlT row (a.toInt + 4 * (k : Int)) < 84 ∧ AL' = u2 (u2 AL (lo + 57) (tlT row (a.toInt + 4 * (k : Int))) (AL (lo + 57) (tlT row (a.toInt + 4 * (k : Int))) + (row (a.toInt + 4 * (k : Int)).toNat).toInt64)) (lo + 59) (tlT row (a.toInt + 4 * (k : Int))) 1)) := by
    intro h0 l4 l5 l6 l7 l8 l9
    have hB : tlB row sz (a.toInt + 4 * (k : Int)) = -12 := if_pos h0
    refine G_bipush (-12) 32 d_Alg_readTold_30 rfl rfl ?_
    refine G_iret d_Alg_readTold_32 rfl ?_
    exact ⟨rfl, rfl, rfl, by rw [hB], fun _ => rfl, fun e => absurd e (by rw [hB]; decide)⟩
  have bad : ¬ (a.toInt + 4 * (k : Int) < 0 ∨ (sz : Int) < a.toInt + 4 * (k : Int) + 4) → (bB (row (a.toInt + 4 * (k : Int)).toNat) (-999) 999 && bT (row ((a.toInt + 4 * (k : Int)).toNat + 1)) (row ((a.toInt + 4 * (k : Int)).toNat + 2)) (row ((a.toInt + 4 * (k : Int)).toNat + 3))) = false → ∀ l4 l5 l6 l7 l8 l9, G V m_Alg_readTold (d + 2) 103 [some (.ref lo), some (.ref (lo + 78 + 2 * l)), some (.int a), some (.int (nI k)), l4, l5, l6, l7, l8, l9] [] X FI AI AL (fun r X' FI' AI' AL' => X' = X ∧ FI' = FI ∧ AI' = AI ∧ r = some (.int (tlB row sz (a.toInt + 4 * (k : Int)))) ∧ (¬ tlB row sz (a.toInt + 4 * (k : Int)) = 0 → AL' = AL) ∧ (tlB row sz (a.toInt + 4 * (k : Int)) = 0 → tlT row (a.toInt + 4 * (k : Int)) < 84 ∧ AL' = u2 (u2 AL (lo + 57) (tlT row (a.toInt + 4 * (k : Int))) (AL (lo + 57) (tlT row (a.toInt + 4 * (k : Int))) + (row (a.toInt + 4 * (k : Int)).toNat).toInt64)) (lo + 59) (tlT row (a.toInt + 4 * (k : Int))) 1)) := by
    intro h0 hb l4 l5 l6 l7 l8 l9
    have hB : tlB row sz (a.toInt + 4 * (k : Int)) = -1 := by unfold tlB; rw [if_neg h0, hb]; rfl
    refine G_iconst (-1) 104 d_Alg_readTold_103 rfl rfl ?_
    refine G_iret d_Alg_readTold_104 rfl ?_
    exact ⟨rfl, rfl, rfl, by rw [hB], fun _ => rfl, fun e => absurd e (by rw [hB]; decide)⟩
  refine G_iconstN 4 1 d_Alg_readTold_0 rfl rfl ?_
  refine G_iload3 2 d_Alg_readTold_1 rfl ?_
  first | refine G_imulN 3 d_Alg_readTold_2 rfl ?_ | refine G_imul 3 d_Alg_readTold_2 rfl ?_
  refine G_istore4 5 d_Alg_readTold_3 rfl (by decide) rfl ?_
  refine G_iload2 6 d_Alg_readTold_5 rfl ?_
  first | refine G_ifltD 30 9 d_Alg_readTold_6 rfl rfl (by omega) (fun h6 => ?_) (fun j h6 => ?_) | refine G_iflt 30 9 d_Alg_readTold_6 rfl rfl (fun h6 => ?_) (fun h6 => ?_)
  · rw [lt0_iff] at h6
    exact out (by omega) _ _ _ _ _ _
  · obtain ⟨m, hm, rfl⟩ := nI_of h6
    rw [nI_toInt hm] at out bad ⊢
    refine G_iload2 10 d_Alg_readTold_9 rfl ?_
    refine G_aload1 11 d_Alg_readTold_10 rfl ?_
    refine G_getIv 14 d_Alg_readTold_11 rfl f_Alg_225 rfl (by assumption) es ?_
    first | refine G_icgtN 30 17 d_Alg_readTold_14 rfl rfl (by omega) (by omega) (fun h14 => ?_) (fun h14 => ?_) | refine G_icgt 30 17 d_Alg_readTold_14 rfl rfl (fun h14 => ?_) (fun h14 => ?_)
    · exact out (by omega) _ _ _ _ _ _
    · refine G_iload2 18 d_Alg_readTold_17 rfl ?_
      refine G_iload4 20 d_Alg_readTold_18 rfl ?_
      first | refine G_iaddN 21 d_Alg_readTold_20 rfl ?_ | refine G_iadd 21 d_Alg_readTold_20 rfl ?_
      refine G_iconstN 4 22 d_Alg_readTold_21 rfl rfl ?_
      first | refine G_iaddN 23 d_Alg_readTold_22 rfl ?_ | refine G_iadd 23 d_Alg_readTold_22 rfl ?_
      refine G_aload1 24 d_Alg_readTold_23 rfl ?_
      refine G_getIv 27 d_Alg_readTold_24 rfl f_Alg_225 rfl (by assumption) es ?_
      first | refine G_icleN 33 30 d_Alg_readTold_27 rfl rfl (by omega) (by omega) (fun h27 => ?_) (fun h27 => ?_) | refine G_icle 33 30 d_Alg_readTold_27 rfl rfl (fun h27 => ?_) (fun h27 => ?_)
      · have h0 : ¬ ((m : Int) + 4 * (k : Int) < 0 ∨ (sz : Int) < (m : Int) + 4 * (k : Int) + 4) := by omega
        have en : ((m : Int) + 4 * (k : Int)).toNat = m + 4 * k := by omega
        rw [en] at bad
        have r0 := er (m + 4 * k) (by omega)
        have r1 := er (m + 4 * k + 1) (by omega)
        have r2 := er (m + 4 * k + 2) (by omega)
        have r3 := er (m + 4 * k + 3) (by omega)
        refine G_aload1 34 d_Alg_readTold_33 rfl ?_
        refine G_getR 37 d_Alg_readTold_34 rfl f_Alg_385 rfl (by assumption) (by assumption) ?_
        refine G_iload2 38 d_Alg_readTold_37 rfl ?_
        refine G_iload4 40 d_Alg_readTold_38 rfl ?_
        first | refine G_iaddN 41 d_Alg_readTold_40 rfl ?_ | refine G_iadd 41 d_Alg_readTold_40 rfl ?_
        refine G_ialoadv 42 d_Alg_readTold_41 rfl (by assumption) (ix_nI (by omega) (by omega)) r0 ?_
        refine G_istore5 44 d_Alg_readTold_42 rfl (by decide) rfl ?_
        refine G_aload1 45 d_Alg_readTold_44 rfl ?_
        refine G_getR 48 d_Alg_readTold_45 rfl f_Alg_385 rfl (by assumption) (by assumption) ?_
        refine G_iload2 49 d_Alg_readTold_48 rfl ?_
        refine G_iload4 51 d_Alg_readTold_49 rfl ?_
        first | refine G_iaddN 52 d_Alg_readTold_51 rfl ?_ | refine G_iadd 52 d_Alg_readTold_51 rfl ?_
        refine G_iconstN 1 53 d_Alg_readTold_52 rfl rfl ?_
        first | refine G_iaddN 54 d_Alg_readTold_53 rfl ?_ | refine G_iadd 54 d_Alg_readTold_53 rfl ?_
        refine G_ialoadv 55 d_Alg_readTold_54 rfl (by assumption) (ix_nI (by omega) (by omega)) r1 ?_
        refine G_istore6 57 d_Alg_readTold_55 rfl (by decide) rfl ?_
        refine G_aload1 58 d_Alg_readTold_57 rfl ?_
        refine G_getR 61 d_Alg_readTold_58 rfl f_Alg_385 rfl (by assumption) (by assumption) ?_
        refine G_iload2 62 d_Alg_readTold_61 rfl ?_
        refine G_iload4 64 d_Alg_readTold_62 rfl ?_
        first | refine G_iaddN 65 d_Alg_readTold_64 rfl ?_ | refine G_iadd 65 d_Alg_readTold_64 rfl ?_
        refine G_iconstN 2 66 d_Alg_readTold_65 rfl rfl ?_
        first | refine G_iaddN 67 d_Alg_readTold_66 rfl ?_ | refine G_iadd 67 d_Alg_readTold_66 rfl ?_
        refine G_ialoadv 68 d_Alg_readTold_67 rfl (by assumption) (ix_nI (by omega) (by omega)) r2 ?_
        refine G_istore7 70 d_Alg_readTold_68 rfl (by decide) rfl ?_
        refine G_aload1 71 d_Alg_readTold_70 rfl ?_
        refine G_getR 74 d_Alg_readTold_71 rfl f_Alg_385 rfl (by assumption) (by assumption) ?_
        refine G_iload2 75 d_Alg_readTold_74 rfl ?_
        refine G_iload4 77 d_Alg_readTold_75 rfl ?_
        first | refine G_iaddN 78 d_Alg_readTold_77 rfl ?_ | refine G_iadd 78 d_Alg_readTold_77 rfl ?_
        refine G_iconstN 3 79 d_Alg_readTold_78 rfl rfl ?_
        first | refine G_iaddN 80 d_Alg_readTold_79 rfl ?_ | refine G_iadd 80 d_Alg_readTold_79 rfl ?_
        refine G_ialoadv 81 d_Alg_readTold_80 rfl (by assumption) (ix_nI (by omega) (by omega)) r3 ?_
        refine G_istore8 83 d_Alg_readTold_81 rfl (by decide) rfl ?_
        refine G_iload5 85 d_Alg_readTold_83 rfl ?_
        refine G_invS1b 88 d_Alg_readTold_85 rfl e_Alg_123 M_Alg_isFactor (Nat.le_of_ble_eq_true rfl) (Nat.le_of_ble_eq_true rfl) rfl (s_isFactor) (fun h85 => G_ifeq1 91 d_Alg_readTold_88 103 rfl rfl ?_) (fun h85 => G_ifeq0 91 d_Alg_readTold_88 103 rfl rfl ?_)
        · have q3 := bB_iff.mpr h85
          refine G_iload6 93 d_Alg_readTold_91 rfl ?_
          refine G_iload7 95 d_Alg_readTold_93 rfl ?_
          refine G_iload8 97 d_Alg_readTold_95 rfl ?_
          refine G_invS3b 100 d_Alg_readTold_97 rfl e_Alg_126 M_Terms_isTerm (Nat.le_of_ble_eq_true rfl) (Nat.le_of_ble_eq_true rfl) rfl (s_isTerm) (fun h97 => G_ifne1 103 d_Alg_readTold_100 105 rfl rfl ?_) (fun h97 => G_ifne0 103 d_Alg_readTold_100 105 rfl rfl ?_)
          · obtain ⟨x, y, z, hs, ex, ey, ez⟩ := h97
            have hw := pl_lt hs
            have q2 := bT_t hs
            rw [← ex, ← ey, ← ez] at q2
            have hB : tlB row sz ((m : Int) + 4 * (k : Int)) = 0 := by unfold tlB; rw [if_neg h0, en, q3, q2]; rfl
            have hTt : tlT row ((m : Int) + 4 * (k : Int)) = pl x y z := by
              unfold tlT
              rw [en, ex, ey, ez, ni_nI (by omega), ni_nI (by omega), ni_nI (by omega)]
            rw [ex, ey, ez]
            refine G_iload6 107 d_Alg_readTold_105 rfl ?_
            refine G_iload7 109 d_Alg_readTold_107 rfl ?_
            refine G_iload8 111 d_Alg_readTold_109 rfl ?_
            refine G_invS3d 114 d_Alg_readTold_111 rfl e_Alg_152 M_Terms_placeOf (Nat.le_of_ble_eq_true rfl) (Nat.le_of_ble_eq_true rfl) rfl (s_placeOf (by omega)) ?_
            refine G_istore9 116 d_Alg_readTold_114 rfl (by decide) rfl ?_
            refine G_aload0 117 d_Alg_readTold_116 rfl ?_
            refine G_getR 120 d_Alg_readTold_117 rfl f_Alg_65 rfl h.sh h.f8 ?_
            refine G_getR 123 d_Alg_readTold_120 rfl f_Alg_148 rfl h.s8 (by assumption) ?_
            refine G_iload9 125 d_Alg_readTold_123 rfl ?_
            refine G_dup2 126 d_Alg_readTold_125 rfl rfl rfl ?_
            refine G_laload 127 d_Alg_readTold_126 rfl (by assumption) (ix_nI (by omega) (by omega)) ?_
            refine G_iload5 129 d_Alg_readTold_127 rfl ?_
            refine G_i2l 130 d_Alg_readTold_129 rfl ?_
            refine G_ladd 131 d_Alg_readTold_130 rfl ?_
            refine G_lastore 132 d_Alg_readTold_131 rfl (by assumption) (ix_nI (by omega) (by omega)) ?_
            refine G_aload0 133 d_Alg_readTold_132 rfl ?_
            refine G_getR 136 d_Alg_readTold_133 rfl f_Alg_69 rfl h.sh h.f9 ?_
            refine G_getR 139 d_Alg_readTold_136 rfl f_Alg_148 rfl h.s9 (by assumption) ?_
            refine G_iload9 141 d_Alg_readTold_139 rfl ?_
            refine G_lconst 1 142 d_Alg_readTold_141 rfl rfl ?_
            refine G_lastore 143 d_Alg_readTold_142 rfl (by assumption) (ix_nI (by omega) (by omega)) ?_
            refine G_iconstN 0 144 d_Alg_readTold_143 rfl rfl ?_
            refine G_iret d_Alg_readTold_144 rfl ?_
            refine ⟨rfl, rfl, rfl, by rw [hB]; rfl, fun e => absurd hB e, fun _ => ?_⟩
            rw [hTt, en]
            exact ⟨hw, rfl⟩
          · exact bad h0 (by rw [bT_f h97, Bool.and_false]) _ _ _ _ _ _
        · exact bad h0 (by rw [bB_f h85, Bool.false_and]) _ _ _ _ _ _
      · exact out (by omega) _ _ _ _ _ _
theorem u2_up {α : Type} (F : Nat → Nat → α) (a i : Nat) (x : α) : u2 F a i x a = upn (F a) i x := by
  rw [u2_row]; rfl
theorem pcnt_up1 {g : Nat → Int64} {t : Nat} : ∀ k, pcnt (upn g t 1) k = pcnt g k + (if t < k ∧ g t = 0 then 1 else 0)
  | 0 => by rw [if_neg (by omega)]; rfl
  | k + 1 => by
    rw [pcnt, pcnt, pcnt_up1 k]
    by_cases e : k = t
    · subst e
      rw [upn_at, if_neg (show ¬ (k < k ∧ g k = 0) by omega)]
      by_cases z : g k = 0
      · simp [z]
      · simp [z]
    · rw [upn_ne _ _ e]
      have : (t < k + 1 ∧ g t = 0) ↔ (t < k ∧ g t = 0) := by constructor <;> intro q <;> exact ⟨by omega, q.2⟩
      simp only [this]
      omega
theorem cnt_up1 {g : Nat → Int64} {t : Nat} (ht : t < 84) : cnt (upn g t 1) = cnt g + (if g t = 0 then 1 else 0) := by
  unfold cnt
  rw [pcnt_up1]
  simp only [ht, true_and]
theorem c_poly {V : GV} {d lo C E : Nat} {S : ST} {s x a m : Int32} {X : XT} {FI AI : FT} {AL : LT} (h : CO X lo) (hI : CIv C E S X FI AI AL lo) (hW : WS S) : G V m_Alg_poly (d + 3) 0 [some (.ref lo), some (.int s), some (.int x), some (.int a), some (.int m), none, none, none] [] X FI AI AL (fun r X' FI' AI' AL' => r = some (.int (fPoly S s x a m).1) ∧ CO X' lo ∧ CIv C E (fPoly S s x a m).2 X' FI' AI' AL' lo ∧ cF X X' FI FI' AI AI' AL AL' lo) := by
  have wk := h.wk
  have wks := wk.1
  have spp := h.sp
  have sps := spp.1
  have wkf := wk.2.1
  have wkq := wk.2.2
  have spf := spp.2.1
  have spq := spp.2.2
  refine G_iload1 1 d_Alg_poly_0 rfl ?_
  refine G_invS1b 4 d_Alg_poly_1 rfl e_Alg_119 M_Alg_isSlot (Nat.le_of_ble_eq_true rfl) (Nat.le_of_ble_eq_true rfl) rfl (s_isSlot) (fun h1 => G_ifeq1 7 d_Alg_poly_4 26 rfl rfl ?_) (fun h1 => G_ifeq0 7 d_Alg_poly_4 26 rfl rfl ?_)
  · obtain ⟨k, hk, rfl⟩ := h1
    have qk := bN_t hk (show 6 < 2 ^ 31 by omega)
    have zk := ni_nI (show k < 2 ^ 31 by omega)
    obtain ⟨ark, pok⟩ := h.sl hk
    have psk := pok.1
    have ek := hI.1 k hk
    refine G_iload2 8 d_Alg_poly_7 rfl ?_
    refine G_invS1b 11 d_Alg_poly_8 rfl e_Alg_214 M_Alg_isSheet (Nat.le_of_ble_eq_true rfl) (Nat.le_of_ble_eq_true rfl) rfl (s_isSheet) (fun h8 => G_ifeq1 14 d_Alg_poly_11 26 rfl rfl ?_) (fun h8 => G_ifeq0 14 d_Alg_poly_11 26 rfl rfl ?_)
    · obtain ⟨l, hl, rfl⟩ := h8
      have ql := bN_t hl (show 4 < 2 ^ 31 by omega)
      have zl := ni_nI (show l < 2 ^ 31 by omega)
      obtain ⟨arl, pol⟩ := h.shs hl
      have psl := pol.1
      have pfl := pol.2.1
      have prl := pol.2.2
      obtain ⟨sol, sil, cel⟩ := hI.2.2.2.2.2.2.2.1 l hl
      have wsl := hW.2.2.2.2.1 l hl
      have s4l : (tH S).2.1 l ≤ 40 := by
        rcases wsl with ⟨-, e⟩ | ⟨-, e⟩ <;> omega
      refine G_iload4 16 d_Alg_poly_14 rfl ?_
      first | refine G_ifltD 26 19 d_Alg_poly_16 rfl rfl (by omega) (fun h16 => ?_) (fun j h16 => ?_) | refine G_iflt 26 19 d_Alg_poly_16 rfl rfl (fun h16 => ?_) (fun h16 => ?_)
      · have q3 : bN m 11 = false := bN_f (fun e => by obtain ⟨j, hj, rfl⟩ := e; exact absurd h16 (nI_pos (by omega))) (by omega)
        simp only [fPoly, q3, Bool.false_and, Bool.and_false, Bool.false_eq_true, if_false]
        refine G_iconst (-1) 27 d_Alg_poly_26 rfl rfl ?_
        refine G_iret d_Alg_poly_27 rfl ?_
        exact ⟨rfl, h, hI, cF.rf⟩
      · obtain ⟨n, hn31, rfl⟩ := nI_of h16
        refine G_iload4 21 d_Alg_poly_19 rfl ?_
        refine G_bipushN 10 23 d_Alg_poly_21 rfl rfl ?_
        first | refine G_icleN 28 26 d_Alg_poly_23 rfl rfl (by omega) (by omega) (fun h23 => ?_) (fun h23 => ?_) | refine G_icle 28 26 d_Alg_poly_23 rfl rfl (fun h23 => ?_) (fun h23 => ?_)
        · have hn : n < 11 := by omega
          have q3 := bN_t hn (show 11 < 2 ^ 31 by omega)
          have z3 := ni_nI (show n < 2 ^ 31 by omega)
          simp only [fPoly, qk, ql, q3, zk, zl, z3, Bool.and_self, if_true]
          refine G_aload0 29 d_Alg_poly_28 rfl ?_
          refine G_getR 32 d_Alg_poly_29 rfl f_Alg_54 rfl h.sh h.f6 ?_
          refine G_iload2 33 d_Alg_poly_32 rfl ?_
          refine G_aaload 34 d_Alg_poly_33 rfl h.s6 (by decide) (by decide) (ix_nI (by omega) (by omega)) (by assumption) ?_
          refine G_astore5 36 d_Alg_poly_34 rfl (by decide) rfl ?_
          refine G_aload5 38 d_Alg_poly_36 rfl ?_
          refine G_invV0b 41 d_Alg_poly_38 rfl e_Alg_217 M_Sheet_isMissing rfl (by assumption) (Nat.le_of_ble_eq_true rfl) (Nat.le_of_ble_eq_true rfl) rfl (s_isMissing (by assumption)) (fun h38 => G_ifeq1 44 d_Alg_poly_41 47 rfl rfl ?_) (fun h38 => G_ifeq0 44 d_Alg_poly_41 47 rfl rfl ?_)
          · rw [sol] at h38
            simp only [if_pos h38]
            refine G_bipush (-11) 46 d_Alg_poly_44 rfl rfl ?_
            refine G_iret d_Alg_poly_46 rfl ?_
            exact ⟨rfl, h, hI, cF.rf⟩
          · rw [sol] at h38
            simp only [if_neg h38]
            have L : ∀ i, i ≤ n → ∀ (q : Nat × (Nat → Int64) × (Nat → Int64)) (AJ : LT) (v7 : Option Value), (∀ c, c ≠ lo + 57 → c ≠ lo + 59 → AJ c = AL c) → AJ (lo + 57) = q.2.1 → AJ (lo + 59) = q.2.2 → q.1 = cnt q.2.2 → (i = 0 ∨ 0 ≤ a.toInt) → plF ((tH S).2.2 l) ((tH S).2.1 l) a.toInt (n - i) i q = (plR S l a.toInt n) → G V m_Alg_poly (d + 3) 64 [some (.ref lo), some (.int (nI k)), some (.int (nI l)), some (.int a), some (.int (nI n)), some (.ref (lo + 78 + 2 * l)), some (.int (nI i)), v7] [] X FI AI AJ (fun r X' FI' AI' AL' => r = some (.int (fPo1 S k (plR S l a.toInt n)).1) ∧ CO X' lo ∧ CIv C E (fPo1 S k (plR S l a.toInt n)).2 X' FI' AI' AL' lo ∧ cF X X' FI FI' AI AI' AL AL' lo) := by
              refine upto ?_ ?_
              · intro q AJ v7 k1 k2 k3 k4 _ k8
                rw [Nat.sub_self, plF] at k8
                rw [← k8]
                have e0 : fPo1 S k (0, q) = (nI q.1, set1 S k q.2.1) := if_pos rfl
                rw [e0, k4]
                refine G_iload6 66 d_Alg_poly_64 rfl ?_
                refine G_iload4 68 d_Alg_poly_66 rfl ?_
                first | refine G_icgeN 96 71 d_Alg_poly_68 rfl rfl (by omega) (by omega) (fun h68 => ?_) (fun h68 => ?_) | refine G_icge 96 71 d_Alg_poly_68 rfl rfl (fun h68 => ?_) (fun h68 => ?_)
                · refine G_aload0 97 d_Alg_poly_96 rfl ?_
                  refine G_getR 100 d_Alg_poly_97 rfl f_Alg_13 rfl h.sh h.f0 ?_
                  refine G_iload1 101 d_Alg_poly_100 rfl ?_
                  refine G_aaload 102 d_Alg_poly_101 rfl h.s0 (by decide) (by decide) (ix_nI (by omega) (by omega)) (by assumption) ?_
                  refine G_aload0 103 d_Alg_poly_102 rfl ?_
                  refine G_getR 106 d_Alg_poly_103 rfl f_Alg_65 rfl h.sh h.f8 ?_
                  refine G_invV1v 109 d_Alg_poly_106 rfl e_Alg_170 M_Poly_becomeLike rfl (by assumption) (Nat.le_of_ble_eq_true rfl) (Nat.le_of_ble_eq_true rfl) rfl (s_becomeLike (by assumption) (by assumption)) ?_
                  refine G_aload0 110 d_Alg_poly_109 rfl ?_
                  refine G_getR 113 d_Alg_poly_110 rfl f_Alg_69 rfl h.sh h.f9 ?_
                  refine G_invV0d 116 d_Alg_poly_113 rfl e_Alg_156 M_Poly_termCount rfl h.s9 (Nat.le_of_ble_eq_true rfl) (Nat.le_of_ble_eq_true rfl) rfl (s_termCount (by assumption)) ?_
                  refine G_iret d_Alg_poly_116 rfl ?_
                  refine ⟨by rw [sr_ne _ _ (by omega), k3], h, hI.s1 hW hk (fun c h1 h2 hc => by rw [sr_ne _ _ hc]; exact k1 c h1 h2) (by rw [sr_at, k2]), cF.al (fun c hc => by rw [sr_ne _ _ (by omega)]; exact k1 c (by omega) (by omega))⟩
                · omega
              · intro i hi ih q AJ v7 k1 k2 k3 k4 k5 k8
                have hrt := s_readTold (V := V) (d := d) (k := i) (AL := AJ) h hl sil s4l cel (by omega) k5
                rw [show n - i = (n - (i + 1)) + 1 by omega, plF] at k8
                refine G_iload6 66 d_Alg_poly_64 rfl ?_
                refine G_iload4 68 d_Alg_poly_66 rfl ?_
                first | refine G_icgeN 96 71 d_Alg_poly_68 rfl rfl (by omega) (by omega) (fun h68 => ?_) (fun h68 => ?_) | refine G_icge 96 71 d_Alg_poly_68 rfl rfl (fun h68 => ?_) (fun h68 => ?_)
                · omega
                · refine G_aload0 72 d_Alg_poly_71 rfl ?_
                  refine G_aload5 74 d_Alg_poly_72 rfl ?_
                  refine G_iload3 75 d_Alg_poly_74 rfl ?_
                  refine G_iload6 77 d_Alg_poly_75 rfl ?_
                  refine G_invV3 80 d_Alg_poly_77 rfl e_Alg_221 M_Alg_readTold rfl h.sh (Nat.le_of_ble_eq_true rfl) (Nat.le_of_ble_eq_true rfl) rfl (G.conseq (hrt) (fun r77 X77 FI77 AI77 AL77 h77 => ?_))
                  obtain ⟨t1, t2, t3, t4, t5, t6⟩ := h77
                  replace t1 := t1.symm
                  replace t2 := t2.symm
                  replace t3 := t3.symm
                  subst t1 t2 t3 t4
                  by_cases hB : tlB ((tH S).2.2 l) ((tH S).2.1 l) (a.toInt + 4 * (i : Int)) = 0
                  · obtain ⟨u0, u1⟩ := t6 hB
                    rw [if_pos hB] at k8
                    refine G_istore7 82 d_Alg_poly_80 rfl (by decide) rfl ?_
                    refine G_iload7 84 d_Alg_poly_82 rfl ?_
                    refine G_ifeq 90 87 d_Alg_poly_84 rfl rfl (fun h84 => ?_) (fun h84 => ?_)
                    · first | refine G_iincN6 93 d_Alg_poly_90 rfl (by decide) rfl ?_ | refine G_iinc6 _ 93 d_Alg_poly_90 rfl (by decide) rfl rfl ?_
                      refine G_goto 64 d_Alg_poly_93 rfl ?_
                      refine ih _ _ _ (fun c h1 h2 => by rw [u1, u2_off _ _ _ h2, u2_off _ _ _ h1]; exact k1 c h1 h2) ?_ ?_ ?_ (Or.inr ?_) k8
                      · rw [u1, u2_off _ _ _ (by omega), u2_up, k2]
                      · rw [u1, u2_up, u2_off _ _ _ (by omega), k3]
                      · simp only [k4]; exact (cnt_up1 u0).symm
                      · rcases k5 with e | e
                        · subst e
                          have : ¬ (a.toInt + 4 * ((0 : Nat) : Int) < 0 ∨ (((tH S).2.1 l : Nat) : Int) < a.toInt + 4 * ((0 : Nat) : Int) + 4) := fun e => by
                            rw [show tlB ((tH S).2.2 l) ((tH S).2.1 l) (a.toInt + 4 * ((0 : Nat) : Int)) = -12 from if_pos e] at hB
                            exact absurd hB (by decide)
                          omega
                        · exact e
                    · exact absurd hB h84
                  · have u1 := t5 hB
                    subst u1
                    rw [if_neg hB] at k8
                    rw [← k8]
                    have e0 : ∀ v : Int32, ¬ v = 0 → fPo1 S k (v, q) = (v, S) := fun v hv => if_neg hv
                    rw [e0 _ hB]
                    refine G_istore7 82 d_Alg_poly_80 rfl (by decide) rfl ?_
                    refine G_iload7 84 d_Alg_poly_82 rfl ?_
                    refine G_ifeq 90 87 d_Alg_poly_84 rfl rfl (fun h84 => ?_) (fun h84 => ?_)
                    · exact absurd h84 hB
                    · refine G_iload7 89 d_Alg_poly_87 rfl ?_
                      refine G_iret d_Alg_poly_89 rfl ?_
                      exact ⟨rfl, h, hI.wk hW k1, cF.al (fun c hc => k1 c (by omega) (by omega))⟩
            refine G_aload0 48 d_Alg_poly_47 rfl ?_
            refine G_getR 51 d_Alg_poly_48 rfl f_Alg_65 rfl h.sh h.f8 ?_
            refine G_invV0v 54 d_Alg_poly_51 rfl e_Alg_160 M_Poly_becomeZero rfl h.s8 (Nat.le_of_ble_eq_true rfl) (Nat.le_of_ble_eq_true rfl) rfl (s_becomeZero (by assumption)) ?_
            refine G_aload0 55 d_Alg_poly_54 rfl ?_
            refine G_getR 58 d_Alg_poly_55 rfl f_Alg_69 rfl h.sh h.f9 ?_
            refine G_invV0v 61 d_Alg_poly_58 rfl e_Alg_160 M_Poly_becomeZero rfl h.s9 (Nat.le_of_ble_eq_true rfl) (Nat.le_of_ble_eq_true rfl) rfl (s_becomeZero (by assumption)) ?_
            refine G_iconstN 0 62 d_Alg_poly_61 rfl rfl ?_
            refine G_istore6 64 d_Alg_poly_62 rfl (by decide) rfl ?_
            refine L 0 (Nat.zero_le _) (0, (fun _ => 0), (fun _ => 0)) _ _ (fun c h1 h2 => by rw [sr_ne _ _ h2, sr_ne _ _ h1]) (by rw [sr_ne _ _ (by omega), sr_at]) (by rw [sr_at]) (by show 0 = cnt _; decide) (Or.inl rfl) rfl
        · have q3 : bN (nI n) 11 = false := bN_f (fun e => by obtain ⟨j, hj, e2⟩ := e; have := (nI_eq (by omega) (by omega)).mp e2; omega) (by omega)
          simp only [fPoly, q3, Bool.false_and, Bool.and_false, Bool.false_eq_true, if_false]
          refine G_iconst (-1) 27 d_Alg_poly_26 rfl rfl ?_
          refine G_iret d_Alg_poly_27 rfl ?_
          exact ⟨rfl, h, hI, cF.rf⟩
    · have q1 := bN_f h8 (show 4 < 2 ^ 31 by omega)
      simp only [fPoly, q1, Bool.false_and, Bool.and_false, Bool.false_eq_true, if_false]
      refine G_iconst (-1) 27 d_Alg_poly_26 rfl rfl ?_
      refine G_iret d_Alg_poly_27 rfl ?_
      exact ⟨rfl, h, hI, cF.rf⟩
  · have q1 := bN_f h1 (show 6 < 2 ^ 31 by omega)
    simp only [fPoly, q1, Bool.false_and, Bool.and_false, Bool.false_eq_true, if_false]
    refine G_iconst (-1) 27 d_Alg_poly_26 rfl rfl ?_
    refine G_iret d_Alg_poly_27 rfl ?_
    exact ⟨rfl, h, hI, cF.rf⟩
