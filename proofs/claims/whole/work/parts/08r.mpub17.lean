/-! ===== the reference: count ===== -/
def c1N (S : ST) : Nat → Nat
  | 0 => 0
  | g + 1 => c1N S g + (if 0 < gK (tG S) g then 1 else 0)
def c5N (S : ST) : Nat → Nat
  | 0 => 0
  | i + 1 => c5N S i + (if (tH S).1 i = -1 then 0 else 1)
def cntA (S : ST) (w : Nat) : Nat := if w = 0 then gN (tG S) else if w = 1 then c1N S (gN (tG S)) else if w = 2 then (if (tW S).1 = true then (tW S).2.length else 0) else if w = 3 then tO S else if w = 4 then (if (tX S).isSome = true then 1 else 0) else if w = 5 then c5N S 4 else if w = 6 then (if (tW S).1 = true then 1 else 0) else (tL S).1
def fCount (S : ST) (x : Int32) : Int32 × ST := if bN x 8 = true then (nI (cntA S (ni x)), S) else (-1, S)
theorem s_mWitMany {V : GV} {d b : Nat} {S : ST} {X : XT} {FI AI : FT} {AL : LT} (h : MO X b) (hI : MIv S FI AI AL b) : G V m_Mod_witnessMany d 0 [some (.ref b)] [] X FI AI AL (Pd (some (.int (nI (if (tW S).1 = true then (tW S).2.length else 0)))) X FI AI AL) := by
  obtain ⟨g, a1, a2, a3, a4, a5, a6⟩ := hI.de
  cases hw : (tW S).1 with
  | true =>
    have f23 : FI b 23 = 1 := by rw [a3.1, hw]; rfl
    have f24 := (a3.2 hw).1
    simp only [if_true]
    refine G_aload0 1 d_Mod_witnessMany_0 rfl ?_
    refine G_getIv 4 d_Mod_witnessMany_1 rfl f_Mod_304 rfl h.sh f23 ?_
    refine G_ifeq 14 7 d_Mod_witnessMany_4 rfl rfl (fun h4 => ?_) (fun h4 => ?_)
    · exact absurd h4 (by decide)
    · refine G_aload0 8 d_Mod_witnessMany_7 rfl ?_
      refine G_getIv 11 d_Mod_witnessMany_8 rfl f_Mod_348 rfl h.sh f24 ?_
      refine G_goto 15 d_Mod_witnessMany_11 rfl ?_
      refine G_iret d_Mod_witnessMany_15 rfl ?_
      exact Pd.rf
  | false =>
    have f23 : FI b 23 = 0 := by rw [a3.1, hw]; rfl
    simp only [Bool.false_eq_true, if_false]
    refine G_aload0 1 d_Mod_witnessMany_0 rfl ?_
    refine G_getIv 4 d_Mod_witnessMany_1 rfl f_Mod_304 rfl h.sh f23 ?_
    refine G_ifeq 14 7 d_Mod_witnessMany_4 rfl rfl (fun h4 => ?_) (fun h4 => ?_)
    · refine G_iconstN 0 15 d_Mod_witnessMany_14 rfl rfl ?_
      refine G_iret d_Mod_witnessMany_15 rfl ?_
      exact Pd.rf
    · exact absurd rfl h4
theorem m_count {V : GV} {d b : Nat} {S : ST} {x : Int32} {X : XT} {FI AI : FT} {AL : LT} (h : MO X b) (hI : MIv S FI AI AL b) (hW : WS S) : G V m_Mod_count (d + 1) 0 [some (.ref b), some (.int x), none, none] [] X FI AI AL (fun r X' FI' AI' AL' => r = some (.int (fCount S x).1) ∧ X' = X ∧ MIv (fCount S x).2 FI' AI' AL' b ∧ fM FI FI' AI AI' AL AL' b) := by
  obtain ⟨g, a1, a2, a3, a4, a5, a6⟩ := hI.de
  have f9 := g.2.1
  have hn7 := hW.2.1.1
  refine G_iconstN 0 1 d_Mod_count_0 rfl rfl ?_
  refine G_istore2 2 d_Mod_count_1 rfl (by decide) rfl ?_
  refine G_iload1 3 d_Mod_count_2 rfl ?_
  by_cases hx : isN x 8
  · obtain ⟨w, hw, rfl⟩ := hx
    have q1 := bN_t hw (show 8 < 2 ^ 31 by omega)
    have z1 := ni_nI (show w < 2 ^ 31 by omega)
    simp only [fCount, q1, z1, if_true]
    have hw8 : w = 0 ∨ w = 1 ∨ w = 2 ∨ w = 3 ∨ w = 4 ∨ w = 5 ∨ w = 6 ∨ w = 7 := by omega
    rcases hw8 with rfl | rfl | rfl | rfl | rfl | rfl | rfl | rfl
    · refine G_tableIn 48 d_Mod_count_3 (by decide) (by decide) rfl rfl ?_
      refine G_aload0 49 d_Mod_count_48 rfl ?_
      refine G_getIv 52 d_Mod_count_49 rfl f_Mod_133 rfl h.sh f9 ?_
      refine G_iret d_Mod_count_52 rfl ?_
      exact ⟨rfl, rfl, hI, fM.rf⟩
    · refine G_tableIn 53 d_Mod_count_3 (by decide) (by decide) rfl rfl ?_
      have L : ∀ i, i ≤ gN (tG S) → G V m_Mod_count (d + 1) 55 [some (.ref b), some (.int (nI 1)), some (.int (nI (c1N S i))), some (.int (nI i))] [] X FI AI AL (fun r X' FI' AI' AL' => r = some (.int (nI (c1N S (gN (tG S))))) ∧ X' = X ∧ MIv S FI' AI' AL' b ∧ fM FI FI' AI AI' AL AL' b) := by
        refine upto ?_ ?_
        · refine G_iload3 56 d_Mod_count_55 rfl ?_
          refine G_aload0 57 d_Mod_count_56 rfl ?_
          refine G_getIv 60 d_Mod_count_57 rfl f_Mod_133 rfl h.sh f9 ?_
          first | refine G_icgeN 86 63 d_Mod_count_60 rfl rfl (by omega) (by omega) (fun h60 => ?_) (fun h60 => ?_) | refine G_icge 86 63 d_Mod_count_60 rfl rfl (fun h60 => ?_) (fun h60 => ?_)
          · refine G_iload2 87 d_Mod_count_86 rfl ?_
            refine G_iret d_Mod_count_87 rfl ?_
            exact ⟨rfl, rfl, hI, fM.rf⟩
          · omega
        · intro i hi ih
          have e10 := (g.2.2.2.2 i hi).2.2.1
          have h86 := (hW.2.1.2.1 i hi).2.2.2.2.1
          rw [c1N] at ih
          refine G_iload3 56 d_Mod_count_55 rfl ?_
          refine G_aload0 57 d_Mod_count_56 rfl ?_
          refine G_getIv 60 d_Mod_count_57 rfl f_Mod_133 rfl h.sh f9 ?_
          first | refine G_icgeN 86 63 d_Mod_count_60 rfl rfl (by omega) (by omega) (fun h60 => ?_) (fun h60 => ?_) | refine G_icge 86 63 d_Mod_count_60 rfl rfl (fun h60 => ?_) (fun h60 => ?_)
          · omega
          · by_cases hz : 0 < gK (tG S) i
            · rw [if_pos hz] at ih
              refine G_iload2 64 d_Mod_count_63 rfl ?_
              refine G_aload0 65 d_Mod_count_64 rfl ?_
              refine G_getR 68 d_Mod_count_65 rfl f_Mod_40 rfl h.sh h.f11 ?_
              refine G_iload3 69 d_Mod_count_68 rfl ?_
              refine G_ialoadv 70 d_Mod_count_69 rfl h.s11 (ix_nI (by omega) (by omega)) e10 ?_
              refine G_ifle 77 73 d_Mod_count_70 rfl rfl (fun h70 => ?_) (fun h70 => ?_)
              · exact absurd h70 (nI_nle hz (by omega))
              · refine G_iconstN 1 74 d_Mod_count_73 rfl rfl ?_
                refine G_goto 78 d_Mod_count_74 rfl ?_
                first | refine G_iaddN 79 d_Mod_count_78 rfl ?_ | refine G_iadd 79 d_Mod_count_78 rfl ?_
                refine G_istore2 80 d_Mod_count_79 rfl (by decide) rfl ?_
                first | refine G_iincN3 83 d_Mod_count_80 rfl (by decide) rfl ?_ | refine G_iinc3 _ 83 d_Mod_count_80 rfl (by decide) rfl rfl ?_
                refine G_goto 55 d_Mod_count_83 rfl ?_
                exact ih
            · rw [if_neg hz] at ih
              have hle : nI (gK (tG S) i) ≤ 0 := by rw [show gK (tG S) i = 0 by omega]; decide
              refine G_iload2 64 d_Mod_count_63 rfl ?_
              refine G_aload0 65 d_Mod_count_64 rfl ?_
              refine G_getR 68 d_Mod_count_65 rfl f_Mod_40 rfl h.sh h.f11 ?_
              refine G_iload3 69 d_Mod_count_68 rfl ?_
              refine G_ialoadv 70 d_Mod_count_69 rfl h.s11 (ix_nI (by omega) (by omega)) e10 ?_
              refine G_ifle 77 73 d_Mod_count_70 rfl rfl (fun h70 => ?_) (fun h70 => ?_)
              · refine G_iconstN 0 78 d_Mod_count_77 rfl rfl ?_
                first | refine G_iaddN 79 d_Mod_count_78 rfl ?_ | refine G_iadd 79 d_Mod_count_78 rfl ?_
                refine G_istore2 80 d_Mod_count_79 rfl (by decide) rfl ?_
                first | refine G_iincN3 83 d_Mod_count_80 rfl (by decide) rfl ?_ | refine G_iinc3 _ 83 d_Mod_count_80 rfl (by decide) rfl rfl ?_
                refine G_goto 55 d_Mod_count_83 rfl ?_
                exact ih
              · exact absurd hle h70
      refine G_iconstN 0 54 d_Mod_count_53 rfl rfl ?_
      refine G_istore3 55 d_Mod_count_54 rfl (by decide) rfl ?_
      exact L 0 (by omega)
    · refine G_tableIn 88 d_Mod_count_3 (by decide) (by decide) rfl rfl ?_
      refine G_aload0 89 d_Mod_count_88 rfl ?_
      refine G_invV0d 92 d_Mod_count_89 rfl e_Mod_354 M_Mod_witnessMany rfl h.sh (Nat.le_of_ble_eq_true rfl) (Nat.le_of_ble_eq_true rfl) rfl ((s_mWitMany h hI)) ?_
      refine G_iret d_Mod_count_92 rfl ?_
      exact ⟨rfl, rfl, hI, fM.rf⟩
    · refine G_tableIn 93 d_Mod_count_3 (by decide) (by decide) rfl rfl ?_
      refine G_aload0 94 d_Mod_count_93 rfl ?_
      refine G_getIv 97 d_Mod_count_94 rfl f_Mod_151 rfl h.sh a1 ?_
      refine G_iret d_Mod_count_97 rfl ?_
      exact ⟨rfl, rfl, hI, fM.rf⟩
    · refine G_tableIn 98 d_Mod_count_3 (by decide) (by decide) rfl rfl ?_
      cases hk : tX S with
      | none =>
        rw [hk] at a6
        have f19 : FI b 19 = 0 := a6
        have e : cntA S 4 = 0 := by show (if (tX S).isSome = true then 1 else 0) = 0; rw [hk]; rfl
        rw [e]
        refine G_aload0 99 d_Mod_count_98 rfl ?_
        refine G_getIv 102 d_Mod_count_99 rfl f_Mod_469 rfl h.sh f19 ?_
        refine G_ifeq 109 105 d_Mod_count_102 rfl rfl (fun h102 => ?_) (fun h102 => ?_)
        · refine G_iconstN 0 110 d_Mod_count_109 rfl rfl ?_
          refine G_iret d_Mod_count_110 rfl ?_
          exact ⟨rfl, rfl, hI, fM.rf⟩
        · exact absurd rfl h102
      | some k =>
        rw [hk] at a6
        have f19 : FI b 19 = 1 := a6.1
        have e : cntA S 4 = 1 := by show (if (tX S).isSome = true then 1 else 0) = 1; rw [hk]; rfl
        rw [e]
        refine G_aload0 99 d_Mod_count_98 rfl ?_
        refine G_getIv 102 d_Mod_count_99 rfl f_Mod_469 rfl h.sh f19 ?_
        refine G_ifeq 109 105 d_Mod_count_102 rfl rfl (fun h102 => ?_) (fun h102 => ?_)
        · exact absurd h102 (by decide)
        · refine G_iconstN 1 106 d_Mod_count_105 rfl rfl ?_
          refine G_goto 110 d_Mod_count_106 rfl ?_
          refine G_iret d_Mod_count_110 rfl ?_
          exact ⟨rfl, rfl, hI, fM.rf⟩
    · refine G_tableIn 111 d_Mod_count_3 (by decide) (by decide) rfl rfl ?_
      have L : ∀ i, i ≤ 4 → G V m_Mod_count (d + 1) 113 [some (.ref b), some (.int (nI 5)), some (.int (nI (c5N S i))), some (.int (nI i))] [] X FI AI AL (fun r X' FI' AI' AL' => r = some (.int (nI (c5N S 4))) ∧ X' = X ∧ MIv S FI' AI' AL' b ∧ fM FI FI' AI AI' AL AL' b) := by
        refine upto ?_ ?_
        · refine G_iload3 114 d_Mod_count_113 rfl ?_
          refine G_iconstN 4 115 d_Mod_count_114 rfl rfl ?_
          first | refine G_icgeN 141 118 d_Mod_count_115 rfl rfl (by omega) (by omega) (fun h115 => ?_) (fun h115 => ?_) | refine G_icge 141 118 d_Mod_count_115 rfl rfl (fun h115 => ?_) (fun h115 => ?_)
          · refine G_iload2 142 d_Mod_count_141 rfl ?_
            refine G_iret d_Mod_count_142 rfl ?_
            exact ⟨rfl, rfl, hI, fM.rf⟩
          · omega
        · intro i hi ih
          have e37 := (a4 i hi).1
          rw [c5N] at ih
          refine G_iload3 114 d_Mod_count_113 rfl ?_
          refine G_iconstN 4 115 d_Mod_count_114 rfl rfl ?_
          first | refine G_icgeN 141 118 d_Mod_count_115 rfl rfl (by omega) (by omega) (fun h115 => ?_) (fun h115 => ?_) | refine G_icge 141 118 d_Mod_count_115 rfl rfl (fun h115 => ?_) (fun h115 => ?_)
          · omega
          · by_cases hz : (tH S).1 i = -1
            · rw [if_pos hz] at ih
              rw [hz] at e37
              refine G_iload2 119 d_Mod_count_118 rfl ?_
              refine G_aload0 120 d_Mod_count_119 rfl ?_
              refine G_getR 123 d_Mod_count_120 rfl f_Mod_121 rfl h.sh h.f52 ?_
              refine G_iload3 124 d_Mod_count_123 rfl ?_
              refine G_ialoadv 125 d_Mod_count_124 rfl h.s52 (ix_nI (by omega) (by omega)) e37 ?_
              first | refine G_ifltD 132 128 d_Mod_count_125 rfl rfl (by omega) (fun h125 => ?_) (fun j h125 => ?_) | refine G_iflt 132 128 d_Mod_count_125 rfl rfl (fun h125 => ?_) (fun h125 => ?_)
              · refine G_iconstN 0 133 d_Mod_count_132 rfl rfl ?_
                first | refine G_iaddN 134 d_Mod_count_133 rfl ?_ | refine G_iadd 134 d_Mod_count_133 rfl ?_
                refine G_istore2 135 d_Mod_count_134 rfl (by decide) rfl ?_
                first | refine G_iincN3 138 d_Mod_count_135 rfl (by decide) rfl ?_ | refine G_iinc3 _ 138 d_Mod_count_135 rfl (by decide) rfl rfl ?_
                refine G_goto 113 d_Mod_count_138 rfl ?_
                exact ih
              · exact absurd (by decide) h125
            · rw [if_neg hz] at ih
              have hn : ¬ (tH S).1 i < 0 := by
                rcases hW.2.2.2.2.1 i hi with ⟨e, -⟩ | ⟨e | e, -⟩
                · exact absurd e hz
                · rw [e]; decide
                · rw [e]; decide
              refine G_iload2 119 d_Mod_count_118 rfl ?_
              refine G_aload0 120 d_Mod_count_119 rfl ?_
              refine G_getR 123 d_Mod_count_120 rfl f_Mod_121 rfl h.sh h.f52 ?_
              refine G_iload3 124 d_Mod_count_123 rfl ?_
              refine G_ialoadv 125 d_Mod_count_124 rfl h.s52 (ix_nI (by omega) (by omega)) e37 ?_
              first | refine G_ifltD 132 128 d_Mod_count_125 rfl rfl (by omega) (fun h125 => ?_) (fun j h125 => ?_) | refine G_iflt 132 128 d_Mod_count_125 rfl rfl (fun h125 => ?_) (fun h125 => ?_)
              · exact absurd h125 hn
              · refine G_iconstN 1 129 d_Mod_count_128 rfl rfl ?_
                refine G_goto 133 d_Mod_count_129 rfl ?_
                first | refine G_iaddN 134 d_Mod_count_133 rfl ?_ | refine G_iadd 134 d_Mod_count_133 rfl ?_
                refine G_istore2 135 d_Mod_count_134 rfl (by decide) rfl ?_
                first | refine G_iincN3 138 d_Mod_count_135 rfl (by decide) rfl ?_ | refine G_iinc3 _ 138 d_Mod_count_135 rfl (by decide) rfl rfl ?_
                refine G_goto 113 d_Mod_count_138 rfl ?_
                exact ih
      refine G_iconstN 0 112 d_Mod_count_111 rfl rfl ?_
      refine G_istore3 113 d_Mod_count_112 rfl (by decide) rfl ?_
      exact L 0 (by omega)
    · refine G_tableIn 143 d_Mod_count_3 (by decide) (by decide) rfl rfl ?_
      cases hk : (tW S).1 with
      | false =>
        have f23 : FI b 23 = 0 := by rw [a3.1, hk]; rfl
        have e : cntA S 6 = 0 := by show (if (tW S).1 = true then 1 else 0) = 0; rw [hk]; rfl
        rw [e]
        refine G_aload0 144 d_Mod_count_143 rfl ?_
        refine G_getIv 147 d_Mod_count_144 rfl f_Mod_304 rfl h.sh f23 ?_
        refine G_ifeq 154 150 d_Mod_count_147 rfl rfl (fun h147 => ?_) (fun h147 => ?_)
        · refine G_iconstN 0 155 d_Mod_count_154 rfl rfl ?_
          refine G_iret d_Mod_count_155 rfl ?_
          exact ⟨rfl, rfl, hI, fM.rf⟩
        · exact absurd rfl h147
      | true =>
        have f23 : FI b 23 = 1 := by rw [a3.1, hk]; rfl
        have e : cntA S 6 = 1 := by show (if (tW S).1 = true then 1 else 0) = 1; rw [hk]; rfl
        rw [e]
        refine G_aload0 144 d_Mod_count_143 rfl ?_
        refine G_getIv 147 d_Mod_count_144 rfl f_Mod_304 rfl h.sh f23 ?_
        refine G_ifeq 154 150 d_Mod_count_147 rfl rfl (fun h147 => ?_) (fun h147 => ?_)
        · exact absurd h147 (by decide)
        · refine G_iconstN 1 151 d_Mod_count_150 rfl rfl ?_
          refine G_goto 155 d_Mod_count_151 rfl ?_
          refine G_iret d_Mod_count_155 rfl ?_
          exact ⟨rfl, rfl, hI, fM.rf⟩
    · refine G_tableIn 156 d_Mod_count_3 (by decide) (by decide) rfl rfl ?_
      have f48 := a5.1
      refine G_aload0 157 d_Mod_count_156 rfl ?_
      refine G_getIv 160 d_Mod_count_157 rfl f_Mod_438 rfl h.sh f48 ?_
      refine G_iret d_Mod_count_160 rfl ?_
      exact ⟨rfl, rfl, hI, fM.rf⟩
  · have q1 := bN_f hx (show 8 < 2 ^ 31 by omega)
    simp only [fCount, q1, Bool.false_eq_true, if_false]
    refine G_tableOut 161 d_Mod_count_3 (by rw [isN_iff (by omega)] at hx; omega) rfl ?_
    refine G_iconst (-1) 162 d_Mod_count_161 rfl rfl ?_
    refine G_iret d_Mod_count_162 rfl ?_
    exact ⟨rfl, rfl, hI, fM.rf⟩
