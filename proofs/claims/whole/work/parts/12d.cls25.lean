/-! ===== the class: family ===== -/
def fmT (k : Nat) : Nat → List (Nat × Int32 × Nat × Nat × Nat)
  | 0 => []
  | m + 1 => if tab8.getD (6 * (39 - m)) 0 = nI k then (ni (tab8.getD (6 * (39 - m) + 1) 0), tab8.getD (6 * (39 - m) + 2) 0, ni (tab8.getD (6 * (39 - m) + 3) 0), ni (tab8.getD (6 * (39 - m) + 4) 0), ni (tab8.getD (6 * (39 - m) + 5) 0)) :: fmT k m else fmT k m
def fmE : List (Nat × Int32 × Nat × Nat × Nat) → List (Nat × Int32 × Nat × Nat × Nat) → Bool
  | [], [] => true
  | a :: l, b :: m => decide (a.1 = b.1 ∧ a.2.1 = b.2.1 ∧ a.2.2.1 = b.2.2.1 ∧ a.2.2.2.1 = b.2.2.2.1 ∧ a.2.2.2.2 = b.2.2.2.2) && fmE l m
  | _, _ => false
theorem fmE_eq : ∀ a b, fmE a b = true → a = b
  | [], [], _ => rfl
  | (a1, a2, a3, a4, a5) :: l, (b1, b2, b3, b4, b5) :: m, h => by
    rw [fmE, Bool.and_eq_true, decide_eq_true_eq] at h
    obtain ⟨⟨h1, h2, h3, h4, h5⟩, h6⟩ := h
    simp only at h1 h2 h3 h4 h5
    rw [h1, h2, h3, h4, h5, fmE_eq l m h6]
  | [], _ :: _, h => by simp [fmE] at h
  | _ :: _, [], h => by simp [fmE] at h
theorem fmT_b : ∀ k, k < 6 → fmE (fmT k 40) (famL k) = true := by decide +kernel
theorem fmT_eq (k : Nat) (h : k < 6) : fmT k 40 = famL k := fmE_eq _ _ (fmT_b k h)
theorem tab8_ok : ∀ r, r < 40 → (ni (tab8.getD (6 * r + 1) 0) < 6 ∧ tab8.getD (6 * r + 1) 0 = nI (ni (tab8.getD (6 * r + 1) 0))) ∧ ni (tab8.getD (6 * r + 3) 0) + ni (tab8.getD (6 * r + 4) 0) + ni (tab8.getD (6 * r + 5) 0) ≤ 6 ∧ tab8.getD (6 * r + 3) 0 = nI (ni (tab8.getD (6 * r + 3) 0)) ∧ tab8.getD (6 * r + 4) 0 = nI (ni (tab8.getD (6 * r + 4) 0)) ∧ tab8.getD (6 * r + 5) 0 = nI (ni (tab8.getD (6 * r + 5) 0)) := by decide +kernel
theorem tab8_len : tab8.length = 240 := by decide +kernel
theorem tn7f : ∀ k, k < 6 → tn 7 k = fmN k ∧ fmN k ≤ 4 := by decide +kernel
theorem c_family {V : GV} {d lo C E : Nat} {S : ST} {x : Int32} {X : XT} {FI AI : FT} {AL : LT} (h : CO X lo) (hI : CIv C E S X FI AI AL lo) (hW : WS S) : G V m_Alg_family (d + 3) 0 [some (.ref lo), some (.int x), none, none, none] [] X FI AI AL (fun r X' FI' AI' AL' => r = some (.int (fFamily S x).1) ∧ CO X' lo ∧ CIv C E (fFamily S x).2 X' FI' AI' AL' lo ∧ cF X X' FI FI' AI AI' AL AL' lo) := by
  refine G_iload1 1 d_Alg_family_0 rfl ?_
  first | refine G_ifltD 12 4 d_Alg_family_1 rfl rfl (by omega) (fun h1 => ?_) (fun j h1 => ?_) | refine G_iflt 12 4 d_Alg_family_1 rfl rfl (fun h1 => ?_) (fun h1 => ?_)
  · have q3 : bN x 6 = false := bN_f (fun e => by obtain ⟨j, hj, rfl⟩ := e; exact absurd h1 (nI_pos (by omega))) (by omega)
    simp only [fFamily, q3, Bool.false_and, Bool.and_false, Bool.false_eq_true, if_false]
    refine G_iconst (-1) 13 d_Alg_family_12 rfl rfl ?_
    refine G_iret d_Alg_family_13 rfl ?_
    exact ⟨rfl, h, hI, cF.rf⟩
  · obtain ⟨k, hk31, rfl⟩ := nI_of h1
    refine G_iload1 5 d_Alg_family_4 rfl ?_
    refine G_gets 7 8 d_Alg_family_5 rfl rfl s_Alg_233 ?_
    refine G_salen 7 9 d_Alg_family_8 rfl rfl ?_
    first | refine G_icltN 14 12 d_Alg_family_9 rfl rfl (by omega) (by omega) (fun h9 => ?_) (fun h9 => ?_) | refine G_iclt 14 12 d_Alg_family_9 rfl rfl (fun h9 => ?_) (fun h9 => ?_)
    · have h9' : nI k < nI 6 := h9
      rw [Int32.lt_iff_toInt_lt, nI_toInt hk31, nI_toInt (by omega)] at h9'
      have hk : k < 6 := by omega
      have q3 := bN_t hk (show 6 < 2 ^ 31 by omega)
      have z3 := ni_nI hk31
      simp only [fFamily, q3, z3, if_true]
      obtain ⟨t7, t4⟩ := tn7f k hk
      have L2 : ∀ m, m ≤ 40 → ∀ (sl : Nat → Nat → Int64) (AJ : LT) (l4 : Option Value), (∀ c, ¬ isSC lo c → AJ c = AL c) → CSl sl AJ lo → fmLay sl (fmT k m) = (fmLay (clS (tS S) (fmN k)) (famL k)) → G V m_Alg_family (d + 3) 44 [some (.ref lo), some (.int (nI k)), some (.int (nI (fmN k))), some (.int (nI (6 * (40 - m)))), l4] [] X FI AI AJ (fun r X' FI' AI' AL' => r = some (.int (nI (fmN k))) ∧ CO X' lo ∧ CIv C E (stS S (fmLay (clS (tS S) (fmN k)) (famL k))) X' FI' AI' AL' lo ∧ cF X X' FI FI' AI AI' AL AL' lo) := by
        intro m
        induction m with
        | zero =>
          intro _ sl AJ l4 k1 k2 k3
          rw [fmT, fmLay] at k3
          subst k3
          refine G_iload3 45 d_Alg_family_44 rfl ?_
          refine G_iconstN 5 46 d_Alg_family_45 rfl rfl ?_
          first | refine G_iaddN 47 d_Alg_family_46 rfl ?_ | refine G_iadd 47 d_Alg_family_46 rfl ?_
          refine G_gets 8 50 d_Alg_family_47 rfl rfl s_Alg_236 ?_
          refine G_salen 8 51 d_Alg_family_50 rfl rfl ?_
          first | refine G_icgeN 124 54 d_Alg_family_51 rfl rfl (by omega) (by omega) (fun h51 => ?_) (fun h51 => ?_) | refine G_icge 124 54 d_Alg_family_51 rfl rfl (fun h51 => ?_) (fun h51 => ?_)
          · refine G_iload2 125 d_Alg_family_124 rfl ?_
            refine G_iret d_Alg_family_125 rfl ?_
            exact ⟨rfl, h, hI.sl hW _ k1 k2, cF.al (fun c hc => k1 c (by unfold isSC; omega))⟩
          · rw [tab8_len, Int32.le_iff_toInt_le, nI_toInt (by omega), nI_toInt (by omega)] at h51
            omega
        | succ m ih =>
          intro hm sl AJ l4 k1 k2 k3
          rw [fmT] at k3
          obtain ⟨⟨p6, e1⟩, hs, e3, e4, e5⟩ := tab8_ok (39 - m) (by omega)
          rw [show 40 - (m + 1) = 39 - m by omega]
          refine G_iload3 45 d_Alg_family_44 rfl ?_
          refine G_iconstN 5 46 d_Alg_family_45 rfl rfl ?_
          first | refine G_iaddN 47 d_Alg_family_46 rfl ?_ | refine G_iadd 47 d_Alg_family_46 rfl ?_
          refine G_gets 8 50 d_Alg_family_47 rfl rfl s_Alg_236 ?_
          refine G_salen 8 51 d_Alg_family_50 rfl rfl ?_
          first | refine G_icgeN 124 54 d_Alg_family_51 rfl rfl (by omega) (by omega) (fun h51 => ?_) (fun h51 => ?_) | refine G_icge 124 54 d_Alg_family_51 rfl rfl (fun h51 => ?_) (fun h51 => ?_)
          · rw [tab8_len, Int32.le_iff_toInt_le, nI_toInt (by omega), nI_toInt (by omega)] at h51
            omega
          · by_cases hq : tab8.getD (6 * (39 - m)) 0 = nI k
            · rw [if_pos hq, fmLay] at k3
              obtain ⟨ars, pos⟩ := h.sl p6
              have pss := pos.1
              have psf := pos.2.1
              have psq := pos.2.2
              have hw := pl_lt hs
              refine G_gets 8 57 d_Alg_family_54 rfl rfl s_Alg_236 ?_
              refine G_iload3 58 d_Alg_family_57 rfl ?_
              refine G_st8 59 d_Alg_family_58 rfl (ix_nI (by omega) (by omega)) ?_
              refine G_iload1 60 d_Alg_family_59 rfl ?_
              first | refine G_icneN 118 63 d_Alg_family_60 rfl rfl (by omega) (by omega) (fun h60 => ?_) (fun h60 => ?_) | refine G_icne 118 63 d_Alg_family_60 rfl rfl (fun h60 => ?_) (fun h60 => ?_)
              · exact absurd hq h60
              · refine G_gets 8 66 d_Alg_family_63 rfl rfl s_Alg_236 ?_
                refine G_iload3 67 d_Alg_family_66 rfl ?_
                refine G_iconstN 3 68 d_Alg_family_67 rfl rfl ?_
                first | refine G_iaddN 69 d_Alg_family_68 rfl ?_ | refine G_iadd 69 d_Alg_family_68 rfl ?_
                refine G_st8 70 d_Alg_family_69 rfl (ix_nI (by omega) (by omega)) ?_
                refine G_gets 8 73 d_Alg_family_70 rfl rfl s_Alg_236 ?_
                refine G_iload3 74 d_Alg_family_73 rfl ?_
                refine G_iconstN 4 75 d_Alg_family_74 rfl rfl ?_
                first | refine G_iaddN 76 d_Alg_family_75 rfl ?_ | refine G_iadd 76 d_Alg_family_75 rfl ?_
                refine G_st8 77 d_Alg_family_76 rfl (ix_nI (by omega) (by omega)) ?_
                refine G_gets 8 80 d_Alg_family_77 rfl rfl s_Alg_236 ?_
                refine G_iload3 81 d_Alg_family_80 rfl ?_
                refine G_iconstN 5 82 d_Alg_family_81 rfl rfl ?_
                first | refine G_iaddN 83 d_Alg_family_82 rfl ?_ | refine G_iadd 83 d_Alg_family_82 rfl ?_
                refine G_st8 84 d_Alg_family_83 rfl (ix_nI (by omega) (by omega)) ?_
                rw [e3, e4, e5]
                refine G_invS3d 87 d_Alg_family_84 rfl e_Alg_152 M_Terms_placeOf (Nat.le_of_ble_eq_true rfl) (Nat.le_of_ble_eq_true rfl) rfl (s_placeOf (by omega)) ?_
                refine G_istore4 89 d_Alg_family_87 rfl (by decide) rfl ?_
                refine G_aload0 90 d_Alg_family_89 rfl ?_
                refine G_getR 93 d_Alg_family_90 rfl f_Alg_13 rfl h.sh h.f0 ?_
                refine G_gets 8 96 d_Alg_family_93 rfl rfl s_Alg_236 ?_
                refine G_iload3 97 d_Alg_family_96 rfl ?_
                refine G_iconstN 1 98 d_Alg_family_97 rfl rfl ?_
                first | refine G_iaddN 99 d_Alg_family_98 rfl ?_ | refine G_iadd 99 d_Alg_family_98 rfl ?_
                refine G_st8 100 d_Alg_family_99 rfl (ix_nI (by omega) (by omega)) ?_
                rw [e1]
                refine G_aaload 101 d_Alg_family_100 rfl h.s0 (by decide) (by decide) (ix_nI (by omega) (by omega)) (by assumption) ?_
                refine G_getR 104 d_Alg_family_101 rfl f_Alg_148 rfl (by assumption) (by assumption) ?_
                refine G_iload4 106 d_Alg_family_104 rfl ?_
                refine G_dup2 107 d_Alg_family_106 rfl rfl rfl ?_
                refine G_laload 108 d_Alg_family_107 rfl (by assumption) (ix_nI (by omega) (by omega)) ?_
                refine G_gets 8 111 d_Alg_family_108 rfl rfl s_Alg_236 ?_
                refine G_iload3 112 d_Alg_family_111 rfl ?_
                refine G_iconstN 2 113 d_Alg_family_112 rfl rfl ?_
                first | refine G_iaddN 114 d_Alg_family_113 rfl ?_ | refine G_iadd 114 d_Alg_family_113 rfl ?_
                refine G_st8 115 d_Alg_family_114 rfl (ix_nI (by omega) (by omega)) ?_
                refine G_i2l 116 d_Alg_family_115 rfl ?_
                refine G_ladd 117 d_Alg_family_116 rfl ?_
                refine G_lastore 118 d_Alg_family_117 rfl (by assumption) (ix_nI (by omega) (by omega)) ?_
                first | refine G_iinc3 _ 121 d_Alg_family_118 rfl (by decide) rfl (nI_add _ 6) ?_ | refine G_iinc3 _ 121 d_Alg_family_118 rfl (by decide) rfl rfl ?_
                refine G_goto 44 d_Alg_family_121 rfl ?_
                rw [show 6 * (39 - m) + 6 = 6 * (40 - m) by omega]
                refine ih (by omega) _ _ _ (fun c hc => ?_) (fun s hs => ?_) k3
                · rw [u2_off _ _ _ (by unfold isSC at hc; omega)]; exact k1 c hc
                · unfold ly1
                  by_cases e : s = ni (tab8.getD (6 * (39 - m) + 1) 0)
                  · subst e
                    rw [upn_at, u2_row, k2 _ hs]
                    funext j
                    unfold lyP
                    by_cases e9 : j = pl (ni (tab8.getD (6 * (39 - m) + 3) 0)) (ni (tab8.getD (6 * (39 - m) + 4) 0)) (ni (tab8.getD (6 * (39 - m) + 5) 0))
                    · rw [if_pos e9, if_pos e9, e9]
                    · rw [if_neg e9, if_neg e9]
                  · rw [upn_ne _ _ e, u2_off _ _ _ (by omega)]; exact k2 s hs
            · rw [if_neg hq] at k3
              refine G_gets 8 57 d_Alg_family_54 rfl rfl s_Alg_236 ?_
              refine G_iload3 58 d_Alg_family_57 rfl ?_
              refine G_st8 59 d_Alg_family_58 rfl (ix_nI (by omega) (by omega)) ?_
              refine G_iload1 60 d_Alg_family_59 rfl ?_
              first | refine G_icneN 118 63 d_Alg_family_60 rfl rfl (by omega) (by omega) (fun h60 => ?_) (fun h60 => ?_) | refine G_icne 118 63 d_Alg_family_60 rfl rfl (fun h60 => ?_) (fun h60 => ?_)
              · first | refine G_iinc3 _ 121 d_Alg_family_118 rfl (by decide) rfl (nI_add _ 6) ?_ | refine G_iinc3 _ 121 d_Alg_family_118 rfl (by decide) rfl rfl ?_
                refine G_goto 44 d_Alg_family_121 rfl ?_
                rw [show 6 * (39 - m) + 6 = 6 * (40 - m) by omega]
                exact ih (by omega) _ _ _ k1 k2 k3
              · exact absurd h60 hq
      have L1 : ∀ i, i ≤ fmN k → ∀ (AJ : LT), (∀ c, ¬ isSC lo c → AJ c = AL c) → CSl (clS (tS S) i) AJ lo → G V m_Alg_family (d + 3) 22 [some (.ref lo), some (.int (nI k)), some (.int (nI (fmN k))), some (.int (nI i)), none] [] X FI AI AJ (fun r X' FI' AI' AL' => r = some (.int (nI (fmN k))) ∧ CO X' lo ∧ CIv C E (stS S (fmLay (clS (tS S) (fmN k)) (famL k))) X' FI' AI' AL' lo ∧ cF X X' FI FI' AI AI' AL AL' lo) := by
        refine upto ?_ ?_
        · intro AJ k1 k2
          refine G_iload3 23 d_Alg_family_22 rfl ?_
          refine G_iload2 24 d_Alg_family_23 rfl ?_
          first | refine G_icgeN 42 27 d_Alg_family_24 rfl rfl (by omega) (by omega) (fun h24 => ?_) (fun h24 => ?_) | refine G_icge 42 27 d_Alg_family_24 rfl rfl (fun h24 => ?_) (fun h24 => ?_)
          · refine G_iconstN 0 43 d_Alg_family_42 rfl rfl ?_
            refine G_istore3 44 d_Alg_family_43 rfl (by decide) rfl ?_
            exact L2 40 (Nat.le_refl _) _ AJ _ k1 k2 (by rw [fmT_eq k hk])
          · omega
        · intro i hi ih AJ k1 k2
          obtain ⟨ars, pos⟩ := h.sl (show i < 6 by omega)
          have pss := pos.1
          refine G_iload3 23 d_Alg_family_22 rfl ?_
          refine G_iload2 24 d_Alg_family_23 rfl ?_
          first | refine G_icgeN 42 27 d_Alg_family_24 rfl rfl (by omega) (by omega) (fun h24 => ?_) (fun h24 => ?_) | refine G_icge 42 27 d_Alg_family_24 rfl rfl (fun h24 => ?_) (fun h24 => ?_)
          · omega
          · refine G_aload0 28 d_Alg_family_27 rfl ?_
            refine G_getR 31 d_Alg_family_28 rfl f_Alg_13 rfl h.sh h.f0 ?_
            refine G_iload3 32 d_Alg_family_31 rfl ?_
            refine G_aaload 33 d_Alg_family_32 rfl h.s0 (by decide) (by decide) (ix_nI (by omega) (by omega)) (by assumption) ?_
            refine G_invV0v 36 d_Alg_family_33 rfl e_Alg_160 M_Poly_becomeZero rfl (by assumption) (Nat.le_of_ble_eq_true rfl) (Nat.le_of_ble_eq_true rfl) rfl (s_becomeZero (by assumption)) ?_
            first | refine G_iincN3 39 d_Alg_family_36 rfl (by decide) rfl ?_ | refine G_iinc3 _ 39 d_Alg_family_36 rfl (by decide) rfl rfl ?_
            refine G_goto 22 d_Alg_family_39 rfl ?_
            refine ih _ (fun c hc => ?_) (fun s hs => ?_)
            · rw [sr_ne _ _ (by unfold isSC at hc; omega)]; exact k1 c hc
            · rw [clS]
              by_cases e : s = i
              · subst e; rw [upn_at, sr_at]
              · rw [upn_ne _ _ e, sr_ne _ _ (by omega)]; exact k2 s hs
      have L0 := L1 0 (Nat.zero_le _) AL (fun _ _ => rfl) hI.1
      rw [← t7] at L0 ⊢
      refine G_gets 7 17 d_Alg_family_14 rfl rfl s_Alg_233 ?_
      refine G_iload1 18 d_Alg_family_17 rfl ?_
      refine G_st7 19 d_Alg_family_18 rfl (ix_nI (by omega) (by omega)) ?_
      refine G_istore2 20 d_Alg_family_19 rfl (by decide) rfl ?_
      refine G_iconstN 0 21 d_Alg_family_20 rfl rfl ?_
      refine G_istore3 22 d_Alg_family_21 rfl (by decide) rfl ?_
      exact L0
    · have h9' : ¬ nI k < nI 6 := h9
      rw [Int32.lt_iff_toInt_lt, nI_toInt hk31, nI_toInt (by omega)] at h9'
      have hk : ¬ k < 6 := by omega
      have q3 : bN (nI k) 6 = false := bN_f (fun e => by obtain ⟨j, hj, e2⟩ := e; have := (nI_eq (by omega) (by omega)).mp e2; omega) (by omega)
      simp only [fFamily, q3, Bool.false_and, Bool.and_false, Bool.false_eq_true, if_false]
      refine G_iconst (-1) 13 d_Alg_family_12 rfl rfl ?_
      refine G_iret d_Alg_family_13 rfl ?_
      exact ⟨rfl, h, hI, cF.rf⟩
