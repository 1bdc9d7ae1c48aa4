/-! ===== the reference: monoid ===== -/
/-- of the terms before t of a degree: how many have ROWS, how many have none, how many ROWS -/
def moA (S : ST) (k : Nat) : Nat → Nat × Nat × Nat
  | 0 => (0, 0, 0)
  | t + 1 => if eD t = k then (if 0 < (tRN S t).length then ((moA S k t).1 + 1, (moA S k t).2.1 + 0, (moA S k t).2.2 + (tRN S t).length) else ((moA S k t).1 + 0, (moA S k t).2.1 + 1, (moA S k t).2.2 + (tRN S t).length)) else moA S k t
def fMonoid (S : ST) (x w : Int32) : Int32 × ST := if (bN x 7 && bN w 3) = true then (nI (if ni w = 0 then (moA S (ni x) 84).1 else if ni w = 1 then (moA S (ni x) 84).2.1 else (moA S (ni x) 84).2.2), S) else (-1, S)
theorem m_monoid {V : GV} {d b : Nat} {S : ST} {x y : Int32} {X : XT} {FI AI : FT} {AL : LT} (h : MO X b) (hI : MIv S FI AI AL b) (hW : WS S) : G V m_Mod_monoid (d + 4) 0 [some (.ref b), some (.int x), some (.int y), none, none, none, none] [] X FI AI AL (fun r X' FI' AI' AL' => r = some (.int (fMonoid S x y).1) ∧ X' = X ∧ MIv (fMonoid S x y).2 FI' AI' AL' b ∧ fM FI FI' AI AI' AL AL' b) := by
  have kx : ((0 : Int64).toInt ≤ x.toInt64.toInt ∧ x.toInt64.toInt ≤ (6 : Int64).toInt) ↔ isN x 7 := by
    rw [toL, isN_iff (by omega), show (0 : Int64).toInt = 0 from rfl, show (6 : Int64).toInt = 6 from rfl]; omega
  have ky : ((0 : Int64).toInt ≤ y.toInt64.toInt ∧ y.toInt64.toInt ≤ (2 : Int64).toInt) ↔ isN y 3 := by
    rw [toL, isN_iff (by omega), show (0 : Int64).toInt = 0 from rfl, show (2 : Int64).toInt = 2 from rfl]; omega
  refine G_iload1 1 d_Mod_monoid_0 rfl ?_
  refine G_i2l 2 d_Mod_monoid_1 rfl ?_
  refine G_lconst 0 3 d_Mod_monoid_2 rfl rfl ?_
  refine G_ldc2 6 d_Mod_monoid_3 rfl k_Mod_137 ?_
  refine G_invS3b 9 d_Mod_monoid_6 rfl e_Mod_139 M_Mod_in (Nat.le_of_ble_eq_true rfl) (Nat.le_of_ble_eq_true rfl) rfl (s_mIn) (fun h6 => G_ifeq1 12 d_Mod_monoid_9 24 rfl rfl ?_) (fun h6 => G_ifeq0 12 d_Mod_monoid_9 24 rfl rfl ?_)
  · obtain ⟨k, hk, rfl⟩ := kx.mp h6
    have q1 := bN_t hk (show 7 < 2 ^ 31 by omega)
    have z1 := ni_nI (show k < 2 ^ 31 by omega)
    refine G_iload2 13 d_Mod_monoid_12 rfl ?_
    refine G_i2l 14 d_Mod_monoid_13 rfl ?_
    refine G_lconst 0 15 d_Mod_monoid_14 rfl rfl ?_
    refine G_ldc2 18 d_Mod_monoid_15 rfl k_Mod_180 ?_
    refine G_invS3b 21 d_Mod_monoid_18 rfl e_Mod_139 M_Mod_in (Nat.le_of_ble_eq_true rfl) (Nat.le_of_ble_eq_true rfl) rfl (s_mIn) (fun h18 => G_ifne1 24 d_Mod_monoid_21 26 rfl rfl ?_) (fun h18 => G_ifne0 24 d_Mod_monoid_21 26 rfl rfl ?_)
    · obtain ⟨w, hw, rfl⟩ := ky.mp h18
      have q2 := bN_t hw (show 3 < 2 ^ 31 by omega)
      have z2 := ni_nI (show w < 2 ^ 31 by omega)
      simp only [fMonoid, q1, q2, z1, z2, Bool.and_self, if_true]
      have L : ∀ t, t ≤ 84 → ∀ FJ AJ : FT, MIv S FJ AJ AL b → fM FI FJ AI AJ AL AL b → G V m_Mod_monoid (d + 4) 37 [some (.ref b), some (.int (nI k)), some (.int (nI w)), some (.int (nI (moA S k t).1)), some (.int (nI (moA S k t).2.1)), some (.int (nI (moA S k t).2.2)), some (.int (nI t))] [] X FJ AJ AL (fun r X' FI' AI' AL' => r = some (.int (nI (if w = 0 then (moA S k 84).1 else if w = 1 then (moA S k 84).2.1 else (moA S k 84).2.2))) ∧ X' = X ∧ MIv S FI' AI' AL' b ∧ fM FI FI' AI AI' AL AL' b) := by
        refine upto ?_ ?_
        · intro FJ AJ hJ hF
          have hw3 : w = 0 ∨ w = 1 ∨ w = 2 := by omega
          refine G_iload6 39 d_Mod_monoid_37 rfl ?_
          refine G_bipushN 84 41 d_Mod_monoid_39 rfl rfl ?_
          first | refine G_icgeN 111 44 d_Mod_monoid_41 rfl rfl (by omega) (by omega) (fun h41 => ?_) (fun h41 => ?_) | refine G_icge 111 44 d_Mod_monoid_41 rfl rfl (fun h41 => ?_) (fun h41 => ?_)
          · rcases hw3 with rfl | rfl | rfl
            · refine G_iload2 112 d_Mod_monoid_111 rfl ?_
              refine G_ifne 119 115 d_Mod_monoid_112 rfl rfl (fun h112 => ?_) (fun h112 => ?_)
              · exact absurd rfl h112
              · refine G_iload3 116 d_Mod_monoid_115 rfl ?_
                refine G_goto 131 d_Mod_monoid_116 rfl ?_
                refine G_iret d_Mod_monoid_131 rfl ?_
                exact ⟨rfl, rfl, hJ, hF⟩
            · refine G_iload2 112 d_Mod_monoid_111 rfl ?_
              refine G_ifne 119 115 d_Mod_monoid_112 rfl rfl (fun h112 => ?_) (fun h112 => ?_)
              · refine G_iload2 120 d_Mod_monoid_119 rfl ?_
                refine G_iconstN 1 121 d_Mod_monoid_120 rfl rfl ?_
                first | refine G_icneN 129 124 d_Mod_monoid_121 rfl rfl (by omega) (by omega) (fun h121 => ?_) (fun h121 => ?_) | refine G_icne 129 124 d_Mod_monoid_121 rfl rfl (fun h121 => ?_) (fun h121 => ?_)
                · exact absurd rfl h121
                · refine G_iload4 126 d_Mod_monoid_124 rfl ?_
                  refine G_goto 131 d_Mod_monoid_126 rfl ?_
                  refine G_iret d_Mod_monoid_131 rfl ?_
                  exact ⟨rfl, rfl, hJ, hF⟩
              · exact absurd h112 (by decide)
            · refine G_iload2 112 d_Mod_monoid_111 rfl ?_
              refine G_ifne 119 115 d_Mod_monoid_112 rfl rfl (fun h112 => ?_) (fun h112 => ?_)
              · refine G_iload2 120 d_Mod_monoid_119 rfl ?_
                refine G_iconstN 1 121 d_Mod_monoid_120 rfl rfl ?_
                first | refine G_icneN 129 124 d_Mod_monoid_121 rfl rfl (by omega) (by omega) (fun h121 => ?_) (fun h121 => ?_) | refine G_icne 129 124 d_Mod_monoid_121 rfl rfl (fun h121 => ?_) (fun h121 => ?_)
                · refine G_iload5 131 d_Mod_monoid_129 rfl ?_
                  refine G_iret d_Mod_monoid_131 rfl ?_
                  exact ⟨rfl, rfl, hJ, hF⟩
                · exact absurd h121 (by decide)
              · exact absurd h112 (by decide)
          · omega
        · intro t ht ih FJ AJ hJ hF
          obtain ⟨hG, hO, hSl, -⟩ := id hJ
          have hT := hG.1
          have hn9 := hG.2.1
          have hn7 := hW.2.1.1
          have hgl := hG.gl hW.2.1
          have hinj := hW.2.1.2.2
          have hl2 : ∀ i, i < gN (tG S) → gL (tG S) i < 84 ∧ 1 ≤ eD (gL (tG S) i) := fun i hi => (hgl i hi).2
          have hlen : (RN (leadL (gL (tG S)) (gN (tG S))) t).length ≤ 120 := by rw [RN, List.length_map]; exact RT_128 hn7 hl2 hinj ht
          have hd6 := (e_all t ht).2.1
          rw [moA] at ih
          refine G_iload6 39 d_Mod_monoid_37 rfl ?_
          refine G_bipushN 84 41 d_Mod_monoid_39 rfl rfl ?_
          first | refine G_icgeN 111 44 d_Mod_monoid_41 rfl rfl (by omega) (by omega) (fun h41 => ?_) (fun h41 => ?_) | refine G_icge 111 44 d_Mod_monoid_41 rfl rfl (fun h41 => ?_) (fun h41 => ?_)
          · omega
          · by_cases he : eD t = k
            · rw [if_pos he] at ih
              refine G_aload0 45 d_Mod_monoid_44 rfl ?_
              refine G_iload6 47 d_Mod_monoid_45 rfl ?_
              refine G_invV1d 50 d_Mod_monoid_47 rfl e_Mod_147 M_Mod_degreeOf rfl h.sh (Nat.le_of_ble_eq_true rfl) (Nat.le_of_ble_eq_true rfl) rfl (s_mDegreeOf (by assumption) (by assumption) (by omega)) ?_
              refine G_iload1 51 d_Mod_monoid_50 rfl ?_
              first | refine G_icneN 105 54 d_Mod_monoid_51 rfl rfl (by omega) (by omega) (fun h51 => ?_) (fun h51 => ?_) | refine G_icne 105 54 d_Mod_monoid_51 rfl rfl (fun h51 => ?_) (fun h51 => ?_)
              · exact absurd he h51
              · have hlay := s_mLay (V := V) (d := d) (FI := FJ) (AL := AL) h hT ht hn7 hgl hinj
                refine G_aload0 55 d_Mod_monoid_54 rfl ?_
                refine G_iload6 57 d_Mod_monoid_55 rfl ?_
                refine G_aload0 58 d_Mod_monoid_57 rfl ?_
                refine G_getIv 61 d_Mod_monoid_58 rfl f_Mod_133 rfl h.sh hn9 ?_
                refine G_invV2 64 d_Mod_monoid_61 rfl e_Mod_298 M_Mod_layRows rfl h.sh (Nat.le_of_ble_eq_true rfl) (Nat.le_of_ble_eq_true rfl) rfl (G.conseq (hlay) (fun r61 X61 FI61 AI61 AL61 h61 => ?_))
                obtain ⟨a1, a2, a3, a4, a5⟩ := h61
                replace a2 := a2.symm
                replace a3 := a3.symm
                subst a1 a2 a3 a4
                have fr : u2 FJ b 30 (nI (RN (leadL (gL (tG S)) (gN (tG S))) t).length) b 30 = nI (RN (leadL (gL (tG S)) (gN (tG S))) t).length := u2_at _ _ _ _
                have ih' := ih _ _ (hJ.nr (nrF.ln (v := nI (RN (leadL (gL (tG S)) (gN (tG S))) t).length) a5)) (hF.tr (nrF.ln a5).fm)
                by_cases hz : 0 < (tRN S t).length
                · rw [if_pos hz] at ih'
                  refine G_iload3 65 d_Mod_monoid_64 rfl ?_
                  refine G_aload0 66 d_Mod_monoid_65 rfl ?_
                  refine G_getIv 69 d_Mod_monoid_66 rfl f_Mod_301 rfl h.sh fr ?_
                  refine G_ifle 76 72 d_Mod_monoid_69 rfl rfl (fun h69 => ?_) (fun h69 => ?_)
                  · exact absurd h69 (nI_nle hz (by omega))
                  · refine G_iconstN 1 73 d_Mod_monoid_72 rfl rfl ?_
                    refine G_goto 77 d_Mod_monoid_73 rfl ?_
                    first | refine G_iaddN 78 d_Mod_monoid_77 rfl ?_ | refine G_iadd 78 d_Mod_monoid_77 rfl ?_
                    refine G_istore3 79 d_Mod_monoid_78 rfl (by decide) rfl ?_
                    refine G_iload4 81 d_Mod_monoid_79 rfl ?_
                    refine G_aload0 82 d_Mod_monoid_81 rfl ?_
                    refine G_getIv 85 d_Mod_monoid_82 rfl f_Mod_301 rfl h.sh fr ?_
                    refine G_ifle 92 88 d_Mod_monoid_85 rfl rfl (fun h85 => ?_) (fun h85 => ?_)
                    · exact absurd h85 (nI_nle hz (by omega))
                    · refine G_iconstN 0 89 d_Mod_monoid_88 rfl rfl ?_
                      refine G_goto 93 d_Mod_monoid_89 rfl ?_
                      first | refine G_iaddN 94 d_Mod_monoid_93 rfl ?_ | refine G_iadd 94 d_Mod_monoid_93 rfl ?_
                      refine G_istore4 96 d_Mod_monoid_94 rfl (by decide) rfl ?_
                      refine G_iload5 98 d_Mod_monoid_96 rfl ?_
                      refine G_aload0 99 d_Mod_monoid_98 rfl ?_
                      refine G_getIv 102 d_Mod_monoid_99 rfl f_Mod_301 rfl h.sh fr ?_
                      first | refine G_iaddN 103 d_Mod_monoid_102 rfl ?_ | refine G_iadd 103 d_Mod_monoid_102 rfl ?_
                      refine G_istore5 105 d_Mod_monoid_103 rfl (by decide) rfl ?_
                      first | refine G_iincN6 108 d_Mod_monoid_105 rfl (by decide) rfl ?_ | refine G_iinc6 _ 108 d_Mod_monoid_105 rfl (by decide) rfl rfl ?_
                      refine G_goto 37 d_Mod_monoid_108 rfl ?_
                      exact ih'
                · rw [if_neg hz] at ih'
                  have hz0 : (RN (leadL (gL (tG S)) (gN (tG S))) t).length = 0 := by
                    have : ¬ 0 < (RN (leadL (gL (tG S)) (gN (tG S))) t).length := hz
                    omega
                  have hle : nI (RN (leadL (gL (tG S)) (gN (tG S))) t).length ≤ 0 := by rw [hz0]; decide
                  refine G_iload3 65 d_Mod_monoid_64 rfl ?_
                  refine G_aload0 66 d_Mod_monoid_65 rfl ?_
                  refine G_getIv 69 d_Mod_monoid_66 rfl f_Mod_301 rfl h.sh fr ?_
                  refine G_ifle 76 72 d_Mod_monoid_69 rfl rfl (fun h69 => ?_) (fun h69 => ?_)
                  · refine G_iconstN 0 77 d_Mod_monoid_76 rfl rfl ?_
                    first | refine G_iaddN 78 d_Mod_monoid_77 rfl ?_ | refine G_iadd 78 d_Mod_monoid_77 rfl ?_
                    refine G_istore3 79 d_Mod_monoid_78 rfl (by decide) rfl ?_
                    refine G_iload4 81 d_Mod_monoid_79 rfl ?_
                    refine G_aload0 82 d_Mod_monoid_81 rfl ?_
                    refine G_getIv 85 d_Mod_monoid_82 rfl f_Mod_301 rfl h.sh fr ?_
                    refine G_ifle 92 88 d_Mod_monoid_85 rfl rfl (fun h85 => ?_) (fun h85 => ?_)
                    · refine G_iconstN 1 93 d_Mod_monoid_92 rfl rfl ?_
                      first | refine G_iaddN 94 d_Mod_monoid_93 rfl ?_ | refine G_iadd 94 d_Mod_monoid_93 rfl ?_
                      refine G_istore4 96 d_Mod_monoid_94 rfl (by decide) rfl ?_
                      refine G_iload5 98 d_Mod_monoid_96 rfl ?_
                      refine G_aload0 99 d_Mod_monoid_98 rfl ?_
                      refine G_getIv 102 d_Mod_monoid_99 rfl f_Mod_301 rfl h.sh fr ?_
                      first | refine G_iaddN 103 d_Mod_monoid_102 rfl ?_ | refine G_iadd 103 d_Mod_monoid_102 rfl ?_
                      refine G_istore5 105 d_Mod_monoid_103 rfl (by decide) rfl ?_
                      first | refine G_iincN6 108 d_Mod_monoid_105 rfl (by decide) rfl ?_ | refine G_iinc6 _ 108 d_Mod_monoid_105 rfl (by decide) rfl rfl ?_
                      refine G_goto 37 d_Mod_monoid_108 rfl ?_
                      exact ih'
                    · exact absurd hle h85
                  · exact absurd hle h69
            · rw [if_neg he] at ih
              refine G_aload0 45 d_Mod_monoid_44 rfl ?_
              refine G_iload6 47 d_Mod_monoid_45 rfl ?_
              refine G_invV1d 50 d_Mod_monoid_47 rfl e_Mod_147 M_Mod_degreeOf rfl h.sh (Nat.le_of_ble_eq_true rfl) (Nat.le_of_ble_eq_true rfl) rfl (s_mDegreeOf (by assumption) (by assumption) (by omega)) ?_
              refine G_iload1 51 d_Mod_monoid_50 rfl ?_
              first | refine G_icneN 105 54 d_Mod_monoid_51 rfl rfl (by omega) (by omega) (fun h51 => ?_) (fun h51 => ?_) | refine G_icne 105 54 d_Mod_monoid_51 rfl rfl (fun h51 => ?_) (fun h51 => ?_)
              · first | refine G_iincN6 108 d_Mod_monoid_105 rfl (by decide) rfl ?_ | refine G_iinc6 _ 108 d_Mod_monoid_105 rfl (by decide) rfl rfl ?_
                refine G_goto 37 d_Mod_monoid_108 rfl ?_
                exact ih _ _ hJ hF
              · exact absurd h51 he
      refine G_iconstN 0 27 d_Mod_monoid_26 rfl rfl ?_
      refine G_istore3 28 d_Mod_monoid_27 rfl (by decide) rfl ?_
      refine G_iconstN 0 29 d_Mod_monoid_28 rfl rfl ?_
      refine G_istore4 31 d_Mod_monoid_29 rfl (by decide) rfl ?_
      refine G_iconstN 0 32 d_Mod_monoid_31 rfl rfl ?_
      refine G_istore5 34 d_Mod_monoid_32 rfl (by decide) rfl ?_
      refine G_iconstN 0 35 d_Mod_monoid_34 rfl rfl ?_
      refine G_istore6 37 d_Mod_monoid_35 rfl (by decide) rfl ?_
      exact L 0 (by omega) FI AI hI fM.rf
    · have q2 := bN_f (fun e => h18 (ky.mpr e)) (show 3 < 2 ^ 31 by omega)
      simp only [fMonoid, q2, Bool.and_false, Bool.false_eq_true, if_false]
      refine G_iconst (-1) 25 d_Mod_monoid_24 rfl rfl ?_
      refine G_iret d_Mod_monoid_25 rfl ?_
      exact ⟨rfl, rfl, hI, fM.rf⟩
  · have q1 := bN_f (fun e => h6 (kx.mpr e)) (show 7 < 2 ^ 31 by omega)
    simp only [fMonoid, q1, Bool.false_and, Bool.false_eq_true, if_false]
    refine G_iconst (-1) 25 d_Mod_monoid_24 rfl rfl ?_
    refine G_iret d_Mod_monoid_25 rfl ?_
    exact ⟨rfl, rfl, hI, fM.rf⟩
