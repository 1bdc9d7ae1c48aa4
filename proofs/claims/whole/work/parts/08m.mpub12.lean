/-! ===== the reference: keep and back ===== -/
theorem s_mMoveIn {V : GV} {d b : Nat} {X : XT} {FI AI : FT} {AL : LT} (h : MO X b) : G V m_Mod_moveKept d 0 [some (.ref b), some (.int (nI 0)), none] [] X FI AI AL (fun r X' FI' AI' AL' => r = none ∧ X' = X ∧ FI' = FI ∧ (∀ c, c ≠ b + 15 → AI' c = AI c) ∧ (∀ j, j < 4214 → AI' (b + 15) j = AI (b + 12) j) ∧ (∀ c, c ≠ b + 2 → c ≠ b + 14 → AL' c = AL c) ∧ (∀ j, j < 1092 → AL' (b + 2) j = AL (b + 1) j) ∧ (∀ j, 1092 ≤ j → AL' (b + 2) j = AL (b + 2) j) ∧ ∀ j, j < 602 → AL' (b + 14) j = AL (b + 11) j) := by
  have L3 : ∀ (BJ : LT), (∀ c, c ≠ b + 2 → c ≠ b + 14 → BJ c = AL c) → (∀ j, j < 1092 → BJ (b + 2) j = AL (b + 1) j) → (∀ j, 1092 ≤ j → BJ (b + 2) j = AL (b + 2) j) → (∀ j, j < 602 → BJ (b + 14) j = AL (b + 11) j) → ∀ k, k ≤ 4214 → ∀ AJ : FT, (∀ c, c ≠ b + 15 → AJ c = AI c) → (∀ j, j < k → AJ (b + 15) j = AI (b + 12) j) → G V m_Mod_moveKept d 94 [some (.ref b), some (.int (nI 0)), some (.int (nI k))] [] X FI AJ BJ (fun r X' FI' AI' AL' => r = none ∧ X' = X ∧ FI' = FI ∧ (∀ c, c ≠ b + 15 → AI' c = AI c) ∧ (∀ j, j < 4214 → AI' (b + 15) j = AI (b + 12) j) ∧ (∀ c, c ≠ b + 2 → c ≠ b + 14 → AL' c = AL c) ∧ (∀ j, j < 1092 → AL' (b + 2) j = AL (b + 1) j) ∧ (∀ j, 1092 ≤ j → AL' (b + 2) j = AL (b + 2) j) ∧ ∀ j, j < 602 → AL' (b + 14) j = AL (b + 11) j) := by
    intro BJ j1 j2 j3 j4
    refine upto ?_ ?_
    · intro AJ k1 k2
      refine G_iload2 95 d_Mod_moveKept_94 rfl ?_
      refine G_sipushN 4214 98 d_Mod_moveKept_95 rfl rfl ?_
      first | refine G_icgeN 138 101 d_Mod_moveKept_98 rfl rfl (by omega) (by omega) (fun h98 => ?_) (fun h98 => ?_) | refine G_icge 138 101 d_Mod_moveKept_98 rfl rfl (fun h98 => ?_) (fun h98 => ?_)
      · refine G_vret d_Mod_moveKept_138 rfl ?_
        exact ⟨rfl, rfl, rfl, k1, k2, j1, j2, j3, j4⟩
      · omega
    · intro k hk ih AJ k1 k2
      have e0 : AJ (b + 12) k = AI (b + 12) k := by rw [k1 _ (by omega)]
      refine G_iload2 95 d_Mod_moveKept_94 rfl ?_
      refine G_sipushN 4214 98 d_Mod_moveKept_95 rfl rfl ?_
      first | refine G_icgeN 138 101 d_Mod_moveKept_98 rfl rfl (by omega) (by omega) (fun h98 => ?_) (fun h98 => ?_) | refine G_icge 138 101 d_Mod_moveKept_98 rfl rfl (fun h98 => ?_) (fun h98 => ?_)
      · omega
      · refine G_iload1 102 d_Mod_moveKept_101 rfl ?_
        refine G_ifeq 120 105 d_Mod_moveKept_102 rfl rfl (fun h102 => ?_) (fun h102 => ?_)
        · refine G_aload0 121 d_Mod_moveKept_120 rfl ?_
          refine G_getR 124 d_Mod_moveKept_121 rfl f_Mod_55 rfl h.sh h.f16 ?_
          refine G_iload2 125 d_Mod_moveKept_124 rfl ?_
          refine G_aload0 126 d_Mod_moveKept_125 rfl ?_
          refine G_getR 129 d_Mod_moveKept_126 rfl f_Mod_46 rfl h.sh h.f13 ?_
          refine G_iload2 130 d_Mod_moveKept_129 rfl ?_
          refine G_ialoadv 131 d_Mod_moveKept_130 rfl h.s13 (ix_nI (by omega) (by omega)) e0 ?_
          refine G_iastore 132 d_Mod_moveKept_131 rfl h.s16 (ix_nI (by omega) (by omega)) ?_
          first | refine G_iincN2 135 d_Mod_moveKept_132 rfl (by decide) rfl ?_ | refine G_iinc2 _ 135 d_Mod_moveKept_132 rfl (by decide) rfl rfl ?_
          refine G_goto 94 d_Mod_moveKept_135 rfl ?_
          refine ih _ (fun c hc => by rw [u2_off _ _ _ hc]; exact k1 c hc) (fun j hj => ?_)
          by_cases e : j = k
          · subst e; exact u2_at _ _ _ _
          · rw [u2_ix _ _ e]; exact k2 j (by omega)
        · exact absurd rfl h102
  have L2 : ∀ (B0 : LT), (∀ c, c ≠ b + 2 → B0 c = AL c) → (∀ j, j < 1092 → B0 (b + 2) j = AL (b + 1) j) → (∀ j, 1092 ≤ j → B0 (b + 2) j = AL (b + 2) j) → ∀ k, k ≤ 602 → ∀ BJ : LT, (∀ c, c ≠ b + 14 → BJ c = B0 c) → (∀ j, j < k → BJ (b + 14) j = AL (b + 11) j) → G V m_Mod_moveKept d 48 [some (.ref b), some (.int (nI 0)), some (.int (nI k))] [] X FI AI BJ (fun r X' FI' AI' AL' => r = none ∧ X' = X ∧ FI' = FI ∧ (∀ c, c ≠ b + 15 → AI' c = AI c) ∧ (∀ j, j < 4214 → AI' (b + 15) j = AI (b + 12) j) ∧ (∀ c, c ≠ b + 2 → c ≠ b + 14 → AL' c = AL c) ∧ (∀ j, j < 1092 → AL' (b + 2) j = AL (b + 1) j) ∧ (∀ j, 1092 ≤ j → AL' (b + 2) j = AL (b + 2) j) ∧ ∀ j, j < 602 → AL' (b + 14) j = AL (b + 11) j) := by
    intro B0 j1 j2 j3
    refine upto ?_ ?_
    · intro BJ k1 k2
      refine G_iload2 49 d_Mod_moveKept_48 rfl ?_
      refine G_sipushN 602 52 d_Mod_moveKept_49 rfl rfl ?_
      first | refine G_icgeN 92 55 d_Mod_moveKept_52 rfl rfl (by omega) (by omega) (fun h52 => ?_) (fun h52 => ?_) | refine G_icge 92 55 d_Mod_moveKept_52 rfl rfl (fun h52 => ?_) (fun h52 => ?_)
      · refine G_iconstN 0 93 d_Mod_moveKept_92 rfl rfl ?_
        refine G_istore2 94 d_Mod_moveKept_93 rfl (by decide) rfl ?_
        exact L3 BJ (fun c h1 h2 => by rw [k1 c h2]; exact j1 c h1) (fun j hj => by rw [k1 _ (by omega)]; exact j2 j hj) (fun j hj => by rw [k1 _ (by omega)]; exact j3 j hj) k2 0 (by omega) AI (fun _ _ => rfl) (fun j hj => by omega)
      · omega
    · intro k hk ih BJ k1 k2
      have e0 : BJ (b + 11) k = AL (b + 11) k := by rw [k1 _ (by omega), j1 _ (by omega)]
      refine G_iload2 49 d_Mod_moveKept_48 rfl ?_
      refine G_sipushN 602 52 d_Mod_moveKept_49 rfl rfl ?_
      first | refine G_icgeN 92 55 d_Mod_moveKept_52 rfl rfl (by omega) (by omega) (fun h52 => ?_) (fun h52 => ?_) | refine G_icge 92 55 d_Mod_moveKept_52 rfl rfl (fun h52 => ?_) (fun h52 => ?_)
      · omega
      · refine G_iload1 56 d_Mod_moveKept_55 rfl ?_
        refine G_ifeq 74 59 d_Mod_moveKept_56 rfl rfl (fun h56 => ?_) (fun h56 => ?_)
        · refine G_aload0 75 d_Mod_moveKept_74 rfl ?_
          refine G_getR 78 d_Mod_moveKept_75 rfl f_Mod_52 rfl h.sh h.f15 ?_
          refine G_iload2 79 d_Mod_moveKept_78 rfl ?_
          refine G_aload0 80 d_Mod_moveKept_79 rfl ?_
          refine G_getR 83 d_Mod_moveKept_80 rfl f_Mod_43 rfl h.sh h.f12 ?_
          refine G_iload2 84 d_Mod_moveKept_83 rfl ?_
          refine G_laloadv 85 d_Mod_moveKept_84 rfl h.s12 (ix_nI (by omega) (by omega)) e0 ?_
          refine G_lastore 86 d_Mod_moveKept_85 rfl h.s15 (ix_nI (by omega) (by omega)) ?_
          first | refine G_iincN2 89 d_Mod_moveKept_86 rfl (by decide) rfl ?_ | refine G_iinc2 _ 89 d_Mod_moveKept_86 rfl (by decide) rfl rfl ?_
          refine G_goto 48 d_Mod_moveKept_89 rfl ?_
          refine ih _ (fun c hc => by rw [u2_off _ _ _ hc]; exact k1 c hc) (fun j hj => ?_)
          by_cases e : j = k
          · subst e; exact u2_at _ _ _ _
          · rw [u2_ix _ _ e]; exact k2 j (by omega)
        · exact absurd rfl h56
  have L1 : ∀ k, k ≤ 1092 → ∀ BJ : LT, (∀ c, c ≠ b + 2 → BJ c = AL c) → (∀ j, j < k → BJ (b + 2) j = AL (b + 1) j) → (∀ j, k ≤ j → BJ (b + 2) j = AL (b + 2) j) → G V m_Mod_moveKept d 2 [some (.ref b), some (.int (nI 0)), some (.int (nI k))] [] X FI AI BJ (fun r X' FI' AI' AL' => r = none ∧ X' = X ∧ FI' = FI ∧ (∀ c, c ≠ b + 15 → AI' c = AI c) ∧ (∀ j, j < 4214 → AI' (b + 15) j = AI (b + 12) j) ∧ (∀ c, c ≠ b + 2 → c ≠ b + 14 → AL' c = AL c) ∧ (∀ j, j < 1092 → AL' (b + 2) j = AL (b + 1) j) ∧ (∀ j, 1092 ≤ j → AL' (b + 2) j = AL (b + 2) j) ∧ ∀ j, j < 602 → AL' (b + 14) j = AL (b + 11) j) := by
    refine upto ?_ ?_
    · intro BJ k1 k2 k3
      refine G_iload2 3 d_Mod_moveKept_2 rfl ?_
      refine G_sipushN 1092 6 d_Mod_moveKept_3 rfl rfl ?_
      first | refine G_icgeN 46 9 d_Mod_moveKept_6 rfl rfl (by omega) (by omega) (fun h6 => ?_) (fun h6 => ?_) | refine G_icge 46 9 d_Mod_moveKept_6 rfl rfl (fun h6 => ?_) (fun h6 => ?_)
      · refine G_iconstN 0 47 d_Mod_moveKept_46 rfl rfl ?_
        refine G_istore2 48 d_Mod_moveKept_47 rfl (by decide) rfl ?_
        exact L2 BJ k1 k2 k3 0 (by omega) BJ (fun _ _ => rfl) (fun j hj => by omega)
      · omega
    · intro k hk ih BJ k1 k2 k3
      have e0 : BJ (b + 1) k = AL (b + 1) k := by rw [k1 _ (by omega)]
      refine G_iload2 3 d_Mod_moveKept_2 rfl ?_
      refine G_sipushN 1092 6 d_Mod_moveKept_3 rfl rfl ?_
      first | refine G_icgeN 46 9 d_Mod_moveKept_6 rfl rfl (by omega) (by omega) (fun h6 => ?_) (fun h6 => ?_) | refine G_icge 46 9 d_Mod_moveKept_6 rfl rfl (fun h6 => ?_) (fun h6 => ?_)
      · omega
      · refine G_iload1 10 d_Mod_moveKept_9 rfl ?_
        refine G_ifeq 28 13 d_Mod_moveKept_10 rfl rfl (fun h10 => ?_) (fun h10 => ?_)
        · refine G_aload0 29 d_Mod_moveKept_28 rfl ?_
          refine G_getR 32 d_Mod_moveKept_29 rfl f_Mod_15 rfl h.sh h.f1 ?_
          refine G_iload2 33 d_Mod_moveKept_32 rfl ?_
          refine G_aload0 34 d_Mod_moveKept_33 rfl ?_
          refine G_getR 37 d_Mod_moveKept_34 rfl f_Mod_9 rfl h.sh h.f0 ?_
          refine G_iload2 38 d_Mod_moveKept_37 rfl ?_
          refine G_laloadv 39 d_Mod_moveKept_38 rfl h.s0 (ix_nI (by omega) (by omega)) e0 ?_
          refine G_lastore 40 d_Mod_moveKept_39 rfl h.s1 (ix_nI (by omega) (by omega)) ?_
          first | refine G_iincN2 43 d_Mod_moveKept_40 rfl (by decide) rfl ?_ | refine G_iinc2 _ 43 d_Mod_moveKept_40 rfl (by decide) rfl rfl ?_
          refine G_goto 2 d_Mod_moveKept_43 rfl ?_
          refine ih _ (fun c hc => by rw [u2_off _ _ _ hc]; exact k1 c hc) (fun j hj => ?_) (fun j hj => by rw [u2_ix _ _ (by omega)]; exact k3 j (by omega))
          by_cases e : j = k
          · subst e; exact u2_at _ _ _ _
          · rw [u2_ix _ _ e]; exact k2 j (by omega)
        · exact absurd rfl h10
  refine G_iconstN 0 1 d_Mod_moveKept_0 rfl rfl ?_
  refine G_istore2 2 d_Mod_moveKept_1 rfl (by decide) rfl ?_
  exact L1 0 (by omega) AL (fun _ _ => rfl) (fun j hj => by omega) (fun _ _ => rfl)

theorem s_mMoveOut {V : GV} {d b : Nat} {X : XT} {FI AI : FT} {AL : LT} (h : MO X b) : G V m_Mod_moveKept d 0 [some (.ref b), some (.int (nI 1)), none] [] X FI AI AL (fun r X' FI' AI' AL' => r = none ∧ X' = X ∧ FI' = FI ∧ (∀ c, c ≠ b + 12 → AI' c = AI c) ∧ (∀ j, j < 4214 → AI' (b + 12) j = AI (b + 15) j) ∧ (∀ c, c ≠ b + 1 → c ≠ b + 11 → AL' c = AL c) ∧ (∀ j, j < 1092 → AL' (b + 1) j = AL (b + 2) j) ∧ (∀ j, 1092 ≤ j → AL' (b + 1) j = AL (b + 1) j) ∧ ∀ j, j < 602 → AL' (b + 11) j = AL (b + 14) j) := by
  have L3 : ∀ (BJ : LT), (∀ c, c ≠ b + 1 → c ≠ b + 11 → BJ c = AL c) → (∀ j, j < 1092 → BJ (b + 1) j = AL (b + 2) j) → (∀ j, 1092 ≤ j → BJ (b + 1) j = AL (b + 1) j) → (∀ j, j < 602 → BJ (b + 11) j = AL (b + 14) j) → ∀ k, k ≤ 4214 → ∀ AJ : FT, (∀ c, c ≠ b + 12 → AJ c = AI c) → (∀ j, j < k → AJ (b + 12) j = AI (b + 15) j) → G V m_Mod_moveKept d 94 [some (.ref b), some (.int (nI 1)), some (.int (nI k))] [] X FI AJ BJ (fun r X' FI' AI' AL' => r = none ∧ X' = X ∧ FI' = FI ∧ (∀ c, c ≠ b + 12 → AI' c = AI c) ∧ (∀ j, j < 4214 → AI' (b + 12) j = AI (b + 15) j) ∧ (∀ c, c ≠ b + 1 → c ≠ b + 11 → AL' c = AL c) ∧ (∀ j, j < 1092 → AL' (b + 1) j = AL (b + 2) j) ∧ (∀ j, 1092 ≤ j → AL' (b + 1) j = AL (b + 1) j) ∧ ∀ j, j < 602 → AL' (b + 11) j = AL (b + 14) j) := by
    intro BJ j1 j2 j3 j4
    refine upto ?_ ?_
    · intro AJ k1 k2
      refine G_iload2 95 d_Mod_moveKept_94 rfl ?_
      refine G_sipushN 4214 98 d_Mod_moveKept_95 rfl rfl ?_
      first | refine G_icgeN 138 101 d_Mod_moveKept_98 rfl rfl (by omega) (by omega) (fun h98 => ?_) (fun h98 => ?_) | refine G_icge 138 101 d_Mod_moveKept_98 rfl rfl (fun h98 => ?_) (fun h98 => ?_)
      · refine G_vret d_Mod_moveKept_138 rfl ?_
        exact ⟨rfl, rfl, rfl, k1, k2, j1, j2, j3, j4⟩
      · omega
    · intro k hk ih AJ k1 k2
      have e0 : AJ (b + 15) k = AI (b + 15) k := by rw [k1 _ (by omega)]
      refine G_iload2 95 d_Mod_moveKept_94 rfl ?_
      refine G_sipushN 4214 98 d_Mod_moveKept_95 rfl rfl ?_
      first | refine G_icgeN 138 101 d_Mod_moveKept_98 rfl rfl (by omega) (by omega) (fun h98 => ?_) (fun h98 => ?_) | refine G_icge 138 101 d_Mod_moveKept_98 rfl rfl (fun h98 => ?_) (fun h98 => ?_)
      · omega
      · refine G_iload1 102 d_Mod_moveKept_101 rfl ?_
        refine G_ifeq 120 105 d_Mod_moveKept_102 rfl rfl (fun h102 => ?_) (fun h102 => ?_)
        · exact absurd h102 (by decide)
        · refine G_aload0 106 d_Mod_moveKept_105 rfl ?_
          refine G_getR 109 d_Mod_moveKept_106 rfl f_Mod_46 rfl h.sh h.f13 ?_
          refine G_iload2 110 d_Mod_moveKept_109 rfl ?_
          refine G_aload0 111 d_Mod_moveKept_110 rfl ?_
          refine G_getR 114 d_Mod_moveKept_111 rfl f_Mod_55 rfl h.sh h.f16 ?_
          refine G_iload2 115 d_Mod_moveKept_114 rfl ?_
          refine G_ialoadv 116 d_Mod_moveKept_115 rfl h.s16 (ix_nI (by omega) (by omega)) e0 ?_
          refine G_iastore 117 d_Mod_moveKept_116 rfl h.s13 (ix_nI (by omega) (by omega)) ?_
          refine G_goto 132 d_Mod_moveKept_117 rfl ?_
          first | refine G_iincN2 135 d_Mod_moveKept_132 rfl (by decide) rfl ?_ | refine G_iinc2 _ 135 d_Mod_moveKept_132 rfl (by decide) rfl rfl ?_
          refine G_goto 94 d_Mod_moveKept_135 rfl ?_
          refine ih _ (fun c hc => by rw [u2_off _ _ _ hc]; exact k1 c hc) (fun j hj => ?_)
          by_cases e : j = k
          · subst e; exact u2_at _ _ _ _
          · rw [u2_ix _ _ e]; exact k2 j (by omega)
  have L2 : ∀ (B0 : LT), (∀ c, c ≠ b + 1 → B0 c = AL c) → (∀ j, j < 1092 → B0 (b + 1) j = AL (b + 2) j) → (∀ j, 1092 ≤ j → B0 (b + 1) j = AL (b + 1) j) → ∀ k, k ≤ 602 → ∀ BJ : LT, (∀ c, c ≠ b + 11 → BJ c = B0 c) → (∀ j, j < k → BJ (b + 11) j = AL (b + 14) j) → G V m_Mod_moveKept d 48 [some (.ref b), some (.int (nI 1)), some (.int (nI k))] [] X FI AI BJ (fun r X' FI' AI' AL' => r = none ∧ X' = X ∧ FI' = FI ∧ (∀ c, c ≠ b + 12 → AI' c = AI c) ∧ (∀ j, j < 4214 → AI' (b + 12) j = AI (b + 15) j) ∧ (∀ c, c ≠ b + 1 → c ≠ b + 11 → AL' c = AL c) ∧ (∀ j, j < 1092 → AL' (b + 1) j = AL (b + 2) j) ∧ (∀ j, 1092 ≤ j → AL' (b + 1) j = AL (b + 1) j) ∧ ∀ j, j < 602 → AL' (b + 11) j = AL (b + 14) j) := by
    intro B0 j1 j2 j3
    refine upto ?_ ?_
    · intro BJ k1 k2
      refine G_iload2 49 d_Mod_moveKept_48 rfl ?_
      refine G_sipushN 602 52 d_Mod_moveKept_49 rfl rfl ?_
      first | refine G_icgeN 92 55 d_Mod_moveKept_52 rfl rfl (by omega) (by omega) (fun h52 => ?_) (fun h52 => ?_) | refine G_icge 92 55 d_Mod_moveKept_52 rfl rfl (fun h52 => ?_) (fun h52 => ?_)
      · refine G_iconstN 0 93 d_Mod_moveKept_92 rfl rfl ?_
        refine G_istore2 94 d_Mod_moveKept_93 rfl (by decide) rfl ?_
        exact L3 BJ (fun c h1 h2 => by rw [k1 c h2]; exact j1 c h1) (fun j hj => by rw [k1 _ (by omega)]; exact j2 j hj) (fun j hj => by rw [k1 _ (by omega)]; exact j3 j hj) k2 0 (by omega) AI (fun _ _ => rfl) (fun j hj => by omega)
      · omega
    · intro k hk ih BJ k1 k2
      have e0 : BJ (b + 14) k = AL (b + 14) k := by rw [k1 _ (by omega), j1 _ (by omega)]
      refine G_iload2 49 d_Mod_moveKept_48 rfl ?_
      refine G_sipushN 602 52 d_Mod_moveKept_49 rfl rfl ?_
      first | refine G_icgeN 92 55 d_Mod_moveKept_52 rfl rfl (by omega) (by omega) (fun h52 => ?_) (fun h52 => ?_) | refine G_icge 92 55 d_Mod_moveKept_52 rfl rfl (fun h52 => ?_) (fun h52 => ?_)
      · omega
      · refine G_iload1 56 d_Mod_moveKept_55 rfl ?_
        refine G_ifeq 74 59 d_Mod_moveKept_56 rfl rfl (fun h56 => ?_) (fun h56 => ?_)
        · exact absurd h56 (by decide)
        · refine G_aload0 60 d_Mod_moveKept_59 rfl ?_
          refine G_getR 63 d_Mod_moveKept_60 rfl f_Mod_43 rfl h.sh h.f12 ?_
          refine G_iload2 64 d_Mod_moveKept_63 rfl ?_
          refine G_aload0 65 d_Mod_moveKept_64 rfl ?_
          refine G_getR 68 d_Mod_moveKept_65 rfl f_Mod_52 rfl h.sh h.f15 ?_
          refine G_iload2 69 d_Mod_moveKept_68 rfl ?_
          refine G_laloadv 70 d_Mod_moveKept_69 rfl h.s15 (ix_nI (by omega) (by omega)) e0 ?_
          refine G_lastore 71 d_Mod_moveKept_70 rfl h.s12 (ix_nI (by omega) (by omega)) ?_
          refine G_goto 86 d_Mod_moveKept_71 rfl ?_
          first | refine G_iincN2 89 d_Mod_moveKept_86 rfl (by decide) rfl ?_ | refine G_iinc2 _ 89 d_Mod_moveKept_86 rfl (by decide) rfl rfl ?_
          refine G_goto 48 d_Mod_moveKept_89 rfl ?_
          refine ih _ (fun c hc => by rw [u2_off _ _ _ hc]; exact k1 c hc) (fun j hj => ?_)
          by_cases e : j = k
          · subst e; exact u2_at _ _ _ _
          · rw [u2_ix _ _ e]; exact k2 j (by omega)
  have L1 : ∀ k, k ≤ 1092 → ∀ BJ : LT, (∀ c, c ≠ b + 1 → BJ c = AL c) → (∀ j, j < k → BJ (b + 1) j = AL (b + 2) j) → (∀ j, k ≤ j → BJ (b + 1) j = AL (b + 1) j) → G V m_Mod_moveKept d 2 [some (.ref b), some (.int (nI 1)), some (.int (nI k))] [] X FI AI BJ (fun r X' FI' AI' AL' => r = none ∧ X' = X ∧ FI' = FI ∧ (∀ c, c ≠ b + 12 → AI' c = AI c) ∧ (∀ j, j < 4214 → AI' (b + 12) j = AI (b + 15) j) ∧ (∀ c, c ≠ b + 1 → c ≠ b + 11 → AL' c = AL c) ∧ (∀ j, j < 1092 → AL' (b + 1) j = AL (b + 2) j) ∧ (∀ j, 1092 ≤ j → AL' (b + 1) j = AL (b + 1) j) ∧ ∀ j, j < 602 → AL' (b + 11) j = AL (b + 14) j) := by
    refine upto ?_ ?_
    · intro BJ k1 k2 k3
      refine G_iload2 3 d_Mod_moveKept_2 rfl ?_
      refine G_sipushN 1092 6 d_Mod_moveKept_3 rfl rfl ?_
      first | refine G_icgeN 46 9 d_Mod_moveKept_6 rfl rfl (by omega) (by omega) (fun h6 => ?_) (fun h6 => ?_) | refine G_icge 46 9 d_Mod_moveKept_6 rfl rfl (fun h6 => ?_) (fun h6 => ?_)
      · refine G_iconstN 0 47 d_Mod_moveKept_46 rfl rfl ?_
        refine G_istore2 48 d_Mod_moveKept_47 rfl (by decide) rfl ?_
        exact L2 BJ k1 k2 k3 0 (by omega) BJ (fun _ _ => rfl) (fun j hj => by omega)
      · omega
    · intro k hk ih BJ k1 k2 k3
      have e0 : BJ (b + 2) k = AL (b + 2) k := by rw [k1 _ (by omega)]
      refine G_iload2 3 d_Mod_moveKept_2 rfl ?_
      refine G_sipushN 1092 6 d_Mod_moveKept_3 rfl rfl ?_
      first | refine G_icgeN 46 9 d_Mod_moveKept_6 rfl rfl (by omega) (by omega) (fun h6 => ?_) (fun h6 => ?_) | refine G_icge 46 9 d_Mod_moveKept_6 rfl rfl (fun h6 => ?_) (fun h6 => ?_)
      · omega
      · refine G_iload1 10 d_Mod_moveKept_9 rfl ?_
        refine G_ifeq 28 13 d_Mod_moveKept_10 rfl rfl (fun h10 => ?_) (fun h10 => ?_)
        · exact absurd h10 (by decide)
        · refine G_aload0 14 d_Mod_moveKept_13 rfl ?_
          refine G_getR 17 d_Mod_moveKept_14 rfl f_Mod_9 rfl h.sh h.f0 ?_
          refine G_iload2 18 d_Mod_moveKept_17 rfl ?_
          refine G_aload0 19 d_Mod_moveKept_18 rfl ?_
          refine G_getR 22 d_Mod_moveKept_19 rfl f_Mod_15 rfl h.sh h.f1 ?_
          refine G_iload2 23 d_Mod_moveKept_22 rfl ?_
          refine G_laloadv 24 d_Mod_moveKept_23 rfl h.s1 (ix_nI (by omega) (by omega)) e0 ?_
          refine G_lastore 25 d_Mod_moveKept_24 rfl h.s0 (ix_nI (by omega) (by omega)) ?_
          refine G_goto 40 d_Mod_moveKept_25 rfl ?_
          first | refine G_iincN2 43 d_Mod_moveKept_40 rfl (by decide) rfl ?_ | refine G_iinc2 _ 43 d_Mod_moveKept_40 rfl (by decide) rfl rfl ?_
          refine G_goto 2 d_Mod_moveKept_43 rfl ?_
          refine ih _ (fun c hc => by rw [u2_off _ _ _ hc]; exact k1 c hc) (fun j hj => ?_) (fun j hj => by rw [u2_ix _ _ (by omega)]; exact k3 j (by omega))
          by_cases e : j = k
          · subst e; exact u2_at _ _ _ _
          · rw [u2_ix _ _ e]; exact k2 j (by omega)
  refine G_iconstN 0 1 d_Mod_moveKept_0 rfl rfl ?_
  refine G_istore2 2 d_Mod_moveKept_1 rfl (by decide) rfl ?_
  exact L1 0 (by omega) AL (fun _ _ => rfl) (fun j hj => by omega) (fun _ _ => rfl)

def fKeep (S : ST) : Int32 × ST := (nI (gN (tG S)), stX S (some (tS S, tO S, tG S)))
def fBack (S : ST) : Int32 × ST := match tX S with
  | none => (-2, S)
  | some k => (nI (gN k.2.2), stW (stG (stO (stS S k.1) k.2.1) k.2.2) (false, (tW S).2))
theorem m_keep {V : GV} {d b : Nat} {S : ST} {X : XT} {FI AI : FT} {AL : LT} (h : MO X b) (hI : MIv S FI AI AL b) (hW : WS S) : G V m_Mod_keep (d + 1) 0 [some (.ref b), none] [] X FI AI AL (fun r X' FI' AI' AL' => r = some (.int (fKeep S).1) ∧ X' = X ∧ MIv (fKeep S).2 FI' AI' AL' b ∧ fM FI FI' AI AI' AL AL' b) := by
  obtain ⟨g, a1, a2, a3, a4, a5, a6⟩ := hI.de
  have f9 := g.2.1
  have hn7 := hW.2.1.1
  have hmk := s_mMoveIn (V := V) (d := d) (FI := FI) (AI := AI) (AL := AL) h
  refine G_aload0 1 d_Mod_keep_0 rfl ?_
  refine G_iconstN 0 2 d_Mod_keep_1 rfl rfl ?_
  refine G_invV1 5 d_Mod_keep_2 rfl e_Mod_459 M_Mod_moveKept rfl h.sh (Nat.le_of_ble_eq_true rfl) (Nat.le_of_ble_eq_true rfl) rfl (G.conseq (hmk) (fun r2 X2 FI2 AI2 AL2 h2 => ?_))
  obtain ⟨r1, r2, r3, r4, r5, r6, r7, r8, r9⟩ := h2
  replace r2 := r2.symm
  replace r3 := r3.symm
  subst r1 r2 r3
  have L : ∀ k, k ≤ 7 → ∀ AJ : FT, (∀ c, c ≠ b + 13 → c ≠ b + 15 → AJ c = AI c) → (∀ j, j < 4214 → AJ (b + 15) j = AI (b + 12) j) → (∀ j, j < k → AJ (b + 13) j = AI (b + 10) j) → G V m_Mod_keep (d + 1) 7 [some (.ref b), some (.int (nI k))] [] X FI AJ AL2 (fun r X' FI' AI' AL' => r = some (.int (fKeep S).1) ∧ X' = X ∧ MIv (fKeep S).2 FI' AI' AL' b ∧ fM FI FI' AI AI' AL AL' b) := by
    refine upto ?_ ?_
    · intro AJ k1 k2 k3
      have g1 : u2 FI b 17 (nI (tO S)) b 9 = nI (gN (tG S)) := by rw [u2_ix _ _ (by omega)]; exact f9
      have g2 : u2 (u2 (u2 FI b 17 (nI (tO S))) b 18 (nI (gN (tG S)))) b 19 (nI 1) b 9 = nI (gN (tG S)) := by rw [u2_ix _ _ (by omega), u2_ix _ _ (by omega)]; exact g1
      have hu : ∀ j, j ≠ 17 → j ≠ 18 → j ≠ 19 → u2 (u2 (u2 FI b 17 (nI (tO S))) b 18 (nI (gN (tG S)))) b 19 (nI 1) b j = FI b j := fun j h1 h2 h3 => by rw [u2_ix _ _ h3, u2_ix _ _ h2, u2_ix _ _ h1]
      refine G_iload1 8 d_Mod_keep_7 rfl ?_
      refine G_bipushN 7 10 d_Mod_keep_8 rfl rfl ?_
      first | refine G_icgeN 31 13 d_Mod_keep_10 rfl rfl (by omega) (by omega) (fun h10 => ?_) (fun h10 => ?_) | refine G_icge 31 13 d_Mod_keep_10 rfl rfl (fun h10 => ?_) (fun h10 => ?_)
      · refine G_aload0 32 d_Mod_keep_31 rfl ?_
        refine G_aload0 33 d_Mod_keep_32 rfl ?_
        refine G_getIv 36 d_Mod_keep_33 rfl f_Mod_151 rfl h.sh a1 ?_
        refine G_putI 39 d_Mod_keep_36 rfl f_Mod_463 rfl (by intro C T N h; cases h; rfl) h.sh rfl rfl ?_
        refine G_aload0 40 d_Mod_keep_39 rfl ?_
        refine G_aload0 41 d_Mod_keep_40 rfl ?_
        refine G_getIv 44 d_Mod_keep_41 rfl f_Mod_133 rfl h.sh g1 ?_
        refine G_putI 47 d_Mod_keep_44 rfl f_Mod_466 rfl (by intro C T N h; cases h; rfl) h.sh rfl rfl ?_
        refine G_aload0 48 d_Mod_keep_47 rfl ?_
        refine G_iconstN 1 49 d_Mod_keep_48 rfl rfl ?_
        refine G_putI 52 d_Mod_keep_49 rfl f_Mod_469 rfl (by intro C T N h; cases h; rfl) h.sh rfl rfl ?_
        refine G_aload0 53 d_Mod_keep_52 rfl ?_
        refine G_getIv 56 d_Mod_keep_53 rfl f_Mod_133 rfl h.sh g2 ?_
        refine G_iret d_Mod_keep_56 rfl ?_
        refine ⟨rfl, rfl, MIv.mk (S := (fKeep S).2) ⟨⟨fun s hs => ?_, fun x y z hs => ?_⟩, g2, g.2.2.1, fun j hj => ?_, fun q hq => ?_⟩ (by rw [hu 8 (by omega) (by omega) (by omega)]; exact a1) (fun s hs => by rw [mp_row (r6 _ (by omega) (by omega))]; exact a2 s hs) (a3.tr (hu 23 (by omega) (by omega) (by omega)) (hu 24 (by omega) (by omega) (by omega)) (k1 _ (by omega) (by omega)) (r6 _ (by omega) (by omega))) (a4.tr (k1 _ (by omega) (by omega)) (k1 _ (by omega) (by omega)) (k1 _ (by omega) (by omega))) (a5.tr (hu 48 (by omega) (by omega) (by omega)) (k1 _ (by omega) (by omega)) (k1 _ (by omega) (by omega)) (r6 _ (by omega) (by omega))) ⟨u2_at _ _ _ _, fun s t hs ht => ?_, by rw [u2_ix _ _ (by omega), u2_ix _ _ (by omega), u2_at], by rw [u2_ix _ _ (by omega), u2_at], fun q hq => ?_⟩, fun c hc => ⟨?_, k1 c (by omega) (by omega), r6 c (by omega) (by omega)⟩⟩
        · rw [k1 _ (by omega) (by omega), k1 _ (by omega) (by omega), k1 _ (by omega) (by omega)]; exact g.1.1 s hs
        · rw [k1 _ (by omega) (by omega)]; exact g.1.2 x y z hs
        · rw [k1 _ (by omega) (by omega)]; exact g.2.2.2.1 j hj
        · obtain ⟨b1, b2, b3, b4⟩ := g.2.2.2.2 q hq
          exact ⟨by rw [k1 _ (by omega) (by omega)]; exact b1, by rw [mp_row (r6 _ (by omega) (by omega))]; exact b2, by rw [k1 _ (by omega) (by omega)]; exact b3, fun i hi => ⟨by rw [r6 _ (by omega) (by omega)]; exact (b4 i hi).1, fun f hf => by rw [k1 _ (by omega) (by omega)]; exact (b4 i hi).2 f hf⟩⟩
        · show AL2 (b + 2) (84 * s + t) = tS S s t
          rw [r7 _ (by omega), ← a2 s hs, mp_at ht]
        · have hq' : q < gN (tG S) := hq
          obtain ⟨b1, b2, b3, b4⟩ := g.2.2.2.2 q hq
          have h86 := (hW.2.1.2.1 q hq').2.2.2.2.1
          refine ⟨fun t ht => ?_, by rw [k3 _ (by omega)]; exact b3, fun i hi => ?_⟩
          · show AL2 (b + 2) (84 * (6 + q) + t) = gP (tG S) q t
            rw [r7 _ (by omega), ← b2, mp_at ht]
          · have hi' : i < gK (tG S) q := hi
            exact ⟨by rw [r9 _ (by omega)]; exact (b4 i hi).1, fun f hf => by rw [k2 _ (by omega)]; exact (b4 i hi).2 f hf⟩
        · rw [u2_off _ _ _ (by omega), u2_off _ _ _ (by omega), u2_off _ _ _ (by omega)]
      · omega
    · intro k hk ih AJ k1 k2 k3
      have e0 : AJ (b + 10) k = AI (b + 10) k := by rw [k1 _ (by omega) (by omega)]
      refine G_iload1 8 d_Mod_keep_7 rfl ?_
      refine G_bipushN 7 10 d_Mod_keep_8 rfl rfl ?_
      first | refine G_icgeN 31 13 d_Mod_keep_10 rfl rfl (by omega) (by omega) (fun h10 => ?_) (fun h10 => ?_) | refine G_icge 31 13 d_Mod_keep_10 rfl rfl (fun h10 => ?_) (fun h10 => ?_)
      · omega
      · refine G_aload0 14 d_Mod_keep_13 rfl ?_
        refine G_getR 17 d_Mod_keep_14 rfl f_Mod_49 rfl h.sh h.f14 ?_
        refine G_iload1 18 d_Mod_keep_17 rfl ?_
        refine G_aload0 19 d_Mod_keep_18 rfl ?_
        refine G_getR 22 d_Mod_keep_19 rfl f_Mod_40 rfl h.sh h.f11 ?_
        refine G_iload1 23 d_Mod_keep_22 rfl ?_
        refine G_ialoadv 24 d_Mod_keep_23 rfl h.s11 (ix_nI (by omega) (by omega)) e0 ?_
        refine G_iastore 25 d_Mod_keep_24 rfl h.s14 (ix_nI (by omega) (by omega)) ?_
        first | refine G_iincN1 28 d_Mod_keep_25 rfl (by decide) rfl ?_ | refine G_iinc1 _ 28 d_Mod_keep_25 rfl (by decide) rfl rfl ?_
        refine G_goto 7 d_Mod_keep_28 rfl ?_
        refine ih _ (fun c h1 h2 => by rw [u2_off _ _ _ h1]; exact k1 c h1 h2) (fun j hj => by rw [u2_off _ _ _ (by omega)]; exact k2 j hj) (fun j hj => ?_)
        by_cases e : j = k
        · subst e; exact u2_at _ _ _ _
        · rw [u2_ix _ _ e]; exact k3 j (by omega)
  refine G_iconstN 0 6 d_Mod_keep_5 rfl rfl ?_
  refine G_istore1 7 d_Mod_keep_6 rfl (by decide) rfl ?_
  exact L 0 (by omega) AI2 (fun c h1 h2 => r4 c h2) r5 (fun j hj => by omega)
