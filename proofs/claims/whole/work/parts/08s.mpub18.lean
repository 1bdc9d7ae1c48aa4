/-! ===== the reference: move ===== -/
def mvH (H : (Nat → Int32) × (Nat → Nat) × (Nat → Nat → Int32)) (a i c j m : Nat) : (Nat → Int32) × (Nat → Nat) × (Nat → Nat → Int32) := (H.1, H.2.1, fun s q => if s = c ∧ j ≤ q ∧ q < j + m then H.2.2 a (i + (q - j)) else H.2.2 s q)
def fMove (S : ST) (a i c j m : Int32) : Int32 × ST := if (bN a 4 && bN c 4) = true then
    (if (tH S).1 (ni a) = -1 ∨ (tH S).1 (ni c) = -1 then (-11, S) else if ¬ (tH S).1 (ni a) = (tH S).1 (ni c) then (-13, S)
     else if 0 ≤ m.toInt ∧ 0 ≤ i.toInt ∧ 0 ≤ j.toInt ∧ m.toInt + i.toInt ≤ ((tH S).2.1 (ni a) : Int) ∧ m.toInt + j.toInt ≤ ((tH S).2.1 (ni c) : Int) then (m, stH S (mvH (tH S) (ni a) (ni i) (ni c) (ni j) (ni m))) else (-12, S)) else (-1, S)
theorem mvS {n k : Nat} (hn : n ≤ 40) (hk : k < 2 ^ 31) : (nI n - nI k).toInt = (n : Int) - (k : Int) := by
  rw [Int32.toInt_sub, nI_toInt (by omega), nI_toInt hk, Int.bmod_eq_of_le_mul_two (by omega) (by omega)]
theorem nn_iff {x : Int32} : ¬ x < 0 ↔ 0 ≤ x.toInt := by rw [lt0_iff]; omega
theorem m_move {V : GV} {d b : Nat} {S : ST} {a i c j m : Int32} {X : XT} {FI AI : FT} {AL : LT} (h : MO X b) (hI : MIv S FI AI AL b) (hW : WS S) : G V m_Mod_move (d + 1) 0 [some (.ref b), some (.int a), some (.int i), some (.int c), some (.int j), some (.int m), none, none, none] [] X FI AI AL (fun r X' FI' AI' AL' => r = some (.int (fMove S a i c j m).1) ∧ X' = X ∧ MIv (fMove S a i c j m).2 FI' AI' AL' b ∧ fM FI FI' AI AI' AL AL' b) := by
  obtain ⟨g, a1, a2, a3, a4, a5, a6⟩ := hI.de
  refine G_iload1 1 d_Mod_move_0 rfl ?_
  refine G_invS1b 4 d_Mod_move_1 rfl e_Mod_261 M_Mod_isSheet (Nat.le_of_ble_eq_true rfl) (Nat.le_of_ble_eq_true rfl) rfl (s_mIsSheet) (fun h1 => G_ifeq1 7 d_Mod_move_4 14 rfl rfl ?_) (fun h1 => G_ifeq0 7 d_Mod_move_4 14 rfl rfl ?_)
  · obtain ⟨ka, hka, rfl⟩ := h1
    have q1 := bN_t hka (show 4 < 2 ^ 31 by omega)
    have z1 := ni_nI (show ka < 2 ^ 31 by omega)
    refine G_iload3 8 d_Mod_move_7 rfl ?_
    refine G_invS1b 11 d_Mod_move_8 rfl e_Mod_261 M_Mod_isSheet (Nat.le_of_ble_eq_true rfl) (Nat.le_of_ble_eq_true rfl) rfl (s_mIsSheet) (fun h8 => G_ifne1 14 d_Mod_move_11 16 rfl rfl ?_) (fun h8 => G_ifne0 14 d_Mod_move_11 16 rfl rfl ?_)
    · obtain ⟨kc, hkc, rfl⟩ := h8
      have q2 := bN_t hkc (show 4 < 2 ^ 31 by omega)
      have z2 := ni_nI (show kc < 2 ^ 31 by omega)
      simp only [fMove, q1, q2, z1, z2, Bool.and_self, if_true]
      obtain ⟨sa, na, -⟩ := a4 ka hka
      obtain ⟨sc, nc, -⟩ := a4 kc hkc
      have hwa := hW.2.2.2.2.1 ka hka
      have hwc := hW.2.2.2.2.1 kc hkc
      have hsa : (tH S).2.1 ka ≤ 40 := by
        rcases hwa with ⟨-, e⟩ | ⟨-, e⟩ <;> omega
      have hsc : (tH S).2.1 kc ≤ 40 := by
        rcases hwc with ⟨-, e⟩ | ⟨-, e⟩ <;> omega
      by_cases ma : (tH S).1 ka = -1
      · simp only [if_pos (Or.inl ma : (tH S).1 ka = -1 ∨ (tH S).1 kc = -1)]
        rw [ma] at sa
        refine G_aload0 17 d_Mod_move_16 rfl ?_
        refine G_getR 20 d_Mod_move_17 rfl f_Mod_121 rfl h.sh h.f52 ?_
        refine G_iload1 21 d_Mod_move_20 rfl ?_
        refine G_ialoadv 22 d_Mod_move_21 rfl h.s52 (ix_nI (by omega) (by omega)) sa ?_
        first | refine G_ifltD 34 25 d_Mod_move_22 rfl rfl (by omega) (fun h22 => ?_) (fun j h22 => ?_) | refine G_iflt 34 25 d_Mod_move_22 rfl rfl (fun h22 => ?_) (fun h22 => ?_)
        · refine G_bipush (-11) 36 d_Mod_move_34 rfl rfl ?_
          refine G_iret d_Mod_move_36 rfl ?_
          exact ⟨rfl, rfl, hI, fM.rf⟩
        · exact absurd (by decide) h22
      · have pa : ¬ (tH S).1 ka < 0 := by
          rcases hwa with ⟨e, -⟩ | ⟨e | e, -⟩
          · exact absurd e ma
          · rw [e]; decide
          · rw [e]; decide
        by_cases mc : (tH S).1 kc = -1
        · simp only [if_pos (Or.inr mc : (tH S).1 ka = -1 ∨ (tH S).1 kc = -1)]
          rw [mc] at sc
          refine G_aload0 17 d_Mod_move_16 rfl ?_
          refine G_getR 20 d_Mod_move_17 rfl f_Mod_121 rfl h.sh h.f52 ?_
          refine G_iload1 21 d_Mod_move_20 rfl ?_
          refine G_ialoadv 22 d_Mod_move_21 rfl h.s52 (ix_nI (by omega) (by omega)) sa ?_
          first | refine G_ifltD 34 25 d_Mod_move_22 rfl rfl (by omega) (fun h22 => ?_) (fun j h22 => ?_) | refine G_iflt 34 25 d_Mod_move_22 rfl rfl (fun h22 => ?_) (fun h22 => ?_)
          · exact absurd h22 pa
          · refine G_aload0 26 d_Mod_move_25 rfl ?_
            refine G_getR 29 d_Mod_move_26 rfl f_Mod_121 rfl h.sh h.f52 ?_
            refine G_iload3 30 d_Mod_move_29 rfl ?_
            refine G_ialoadv 31 d_Mod_move_30 rfl h.s52 (ix_nI (by omega) (by omega)) sc ?_
            refine G_ifge 37 34 d_Mod_move_31 rfl rfl (fun h31 => ?_) (fun h31 => ?_)
            · exact absurd h31 (by decide)
            · refine G_bipush (-11) 36 d_Mod_move_34 rfl rfl ?_
              refine G_iret d_Mod_move_36 rfl ?_
              exact ⟨rfl, rfl, hI, fM.rf⟩
        · have pc : 0 ≤ (tH S).1 kc := by
            rcases hwc with ⟨e, -⟩ | ⟨e | e, -⟩
            · exact absurd e mc
            · rw [e]; decide
            · rw [e]; decide
          have hno : ¬ ((tH S).1 ka = -1 ∨ (tH S).1 kc = -1) := fun e => e.elim ma mc
          simp only [if_neg hno]
          refine G_aload0 17 d_Mod_move_16 rfl ?_
          refine G_getR 20 d_Mod_move_17 rfl f_Mod_121 rfl h.sh h.f52 ?_
          refine G_iload1 21 d_Mod_move_20 rfl ?_
          refine G_ialoadv 22 d_Mod_move_21 rfl h.s52 (ix_nI (by omega) (by omega)) sa ?_
          first | refine G_ifltD 34 25 d_Mod_move_22 rfl rfl (by omega) (fun h22 => ?_) (fun j h22 => ?_) | refine G_iflt 34 25 d_Mod_move_22 rfl rfl (fun h22 => ?_) (fun h22 => ?_)
          · exact absurd h22 pa
          · refine G_aload0 26 d_Mod_move_25 rfl ?_
            refine G_getR 29 d_Mod_move_26 rfl f_Mod_121 rfl h.sh h.f52 ?_
            refine G_iload3 30 d_Mod_move_29 rfl ?_
            refine G_ialoadv 31 d_Mod_move_30 rfl h.s52 (ix_nI (by omega) (by omega)) sc ?_
            refine G_ifge 37 34 d_Mod_move_31 rfl rfl (fun h31 => ?_) (fun h31 => ?_)
            · by_cases hs : (tH S).1 ka = (tH S).1 kc
              · have hs' : ¬ ¬ (tH S).1 ka = (tH S).1 kc := fun e => e hs
                simp only [if_neg hs']
                refine G_aload0 38 d_Mod_move_37 rfl ?_
                refine G_getR 41 d_Mod_move_38 rfl f_Mod_121 rfl h.sh h.f52 ?_
                refine G_iload1 42 d_Mod_move_41 rfl ?_
                refine G_ialoadv 43 d_Mod_move_42 rfl h.s52 (ix_nI (by omega) (by omega)) sa ?_
                refine G_aload0 44 d_Mod_move_43 rfl ?_
                refine G_getR 47 d_Mod_move_44 rfl f_Mod_121 rfl h.sh h.f52 ?_
                refine G_iload3 48 d_Mod_move_47 rfl ?_
                refine G_ialoadv 49 d_Mod_move_48 rfl h.s52 (ix_nI (by omega) (by omega)) sc ?_
                first | refine G_iceqN 55 52 d_Mod_move_49 rfl rfl (by omega) (by omega) (fun h49 => ?_) (fun h49 => ?_) | refine G_iceq 55 52 d_Mod_move_49 rfl rfl (fun h49 => ?_) (fun h49 => ?_)
                · refine G_iload5 57 d_Mod_move_55 rfl ?_
                  first | refine G_ifltD 96 60 d_Mod_move_57 rfl rfl (by omega) (fun h57 => ?_) (fun j h57 => ?_) | refine G_iflt 96 60 d_Mod_move_57 rfl rfl (fun h57 => ?_) (fun h57 => ?_)
                  · have hc : ¬ (0 ≤ m.toInt ∧ 0 ≤ i.toInt ∧ 0 ≤ j.toInt ∧ m.toInt + i.toInt ≤ ((tH S).2.1 ka : Int) ∧ m.toInt + j.toInt ≤ ((tH S).2.1 kc : Int)) := fun e => (nn_iff.mpr e.1) h57
                    simp only [if_neg hc]
                    refine G_bipush (-12) 98 d_Mod_move_96 rfl rfl ?_
                    refine G_iret d_Mod_move_98 rfl ?_
                    exact ⟨rfl, rfl, hI, fM.rf⟩
                  · obtain ⟨m, hm, rfl⟩ := nI_of h57
                    refine G_iload2 61 d_Mod_move_60 rfl ?_
                    first | refine G_ifltD 96 64 d_Mod_move_61 rfl rfl (by omega) (fun h61 => ?_) (fun j h61 => ?_) | refine G_iflt 96 64 d_Mod_move_61 rfl rfl (fun h61 => ?_) (fun h61 => ?_)
                    · have hc : ¬ (0 ≤ (nI m).toInt ∧ 0 ≤ i.toInt ∧ 0 ≤ j.toInt ∧ (nI m).toInt + i.toInt ≤ ((tH S).2.1 ka : Int) ∧ (nI m).toInt + j.toInt ≤ ((tH S).2.1 kc : Int)) := fun e => (nn_iff.mpr e.2.1) h61
                      simp only [if_neg hc]
                      refine G_bipush (-12) 98 d_Mod_move_96 rfl rfl ?_
                      refine G_iret d_Mod_move_98 rfl ?_
                      exact ⟨rfl, rfl, hI, fM.rf⟩
                    · obtain ⟨i, hi, rfl⟩ := nI_of h61
                      refine G_iload4 66 d_Mod_move_64 rfl ?_
                      first | refine G_ifltD 96 69 d_Mod_move_66 rfl rfl (by omega) (fun h66 => ?_) (fun j h66 => ?_) | refine G_iflt 96 69 d_Mod_move_66 rfl rfl (fun h66 => ?_) (fun h66 => ?_)
                      · have hc : ¬ (0 ≤ (nI m).toInt ∧ 0 ≤ (nI i).toInt ∧ 0 ≤ j.toInt ∧ (nI m).toInt + (nI i).toInt ≤ ((tH S).2.1 ka : Int) ∧ (nI m).toInt + j.toInt ≤ ((tH S).2.1 kc : Int)) := fun e => (nn_iff.mpr e.2.2.1) h66
                        simp only [if_neg hc]
                        refine G_bipush (-12) 98 d_Mod_move_96 rfl rfl ?_
                        refine G_iret d_Mod_move_98 rfl ?_
                        exact ⟨rfl, rfl, hI, fM.rf⟩
                      · obtain ⟨j, hj, rfl⟩ := nI_of h66
                        rw [nI_toInt hm, nI_toInt hi, nI_toInt hj, ni_nI hm, ni_nI hi, ni_nI hj]
                        refine G_iload5 71 d_Mod_move_69 rfl ?_
                        refine G_aload0 72 d_Mod_move_71 rfl ?_
                        refine G_getR 75 d_Mod_move_72 rfl f_Mod_124 rfl h.sh h.f53 ?_
                        refine G_iload1 76 d_Mod_move_75 rfl ?_
                        refine G_ialoadv 77 d_Mod_move_76 rfl h.s53 (ix_nI (by omega) (by omega)) na ?_
                        refine G_iload2 78 d_Mod_move_77 rfl ?_
                        refine G_isub 79 d_Mod_move_78 rfl ?_
                        refine G_icgt 96 82 d_Mod_move_79 rfl rfl (fun h79 => ?_) (fun h79 => ?_)
                        · rw [Int32.lt_iff_toInt_lt, mvS hsa hi, nI_toInt hm] at h79
                          have hc : ¬ (0 ≤ (m : Int) ∧ 0 ≤ (i : Int) ∧ 0 ≤ (j : Int) ∧ (m : Int) + (i : Int) ≤ ((tH S).2.1 ka : Int) ∧ (m : Int) + (j : Int) ≤ ((tH S).2.1 kc : Int)) := by omega
                          simp only [if_neg hc]
                          refine G_bipush (-12) 98 d_Mod_move_96 rfl rfl ?_
                          refine G_iret d_Mod_move_98 rfl ?_
                          exact ⟨rfl, rfl, hI, fM.rf⟩
                        · rw [Int32.lt_iff_toInt_lt, mvS hsa hi, nI_toInt hm] at h79
                          refine G_iload5 84 d_Mod_move_82 rfl ?_
                          refine G_aload0 85 d_Mod_move_84 rfl ?_
                          refine G_getR 88 d_Mod_move_85 rfl f_Mod_124 rfl h.sh h.f53 ?_
                          refine G_iload3 89 d_Mod_move_88 rfl ?_
                          refine G_ialoadv 90 d_Mod_move_89 rfl h.s53 (ix_nI (by omega) (by omega)) nc ?_
                          refine G_iload4 92 d_Mod_move_90 rfl ?_
                          refine G_isub 93 d_Mod_move_92 rfl ?_
                          refine G_icle 99 96 d_Mod_move_93 rfl rfl (fun h93 => ?_) (fun h93 => ?_)
                          · rw [Int32.le_iff_toInt_le, mvS hsc hj, nI_toInt hm] at h93
                            have hc : (0 ≤ (m : Int) ∧ 0 ≤ (i : Int) ∧ 0 ≤ (j : Int) ∧ (m : Int) + (i : Int) ≤ ((tH S).2.1 ka : Int) ∧ (m : Int) + (j : Int) ≤ ((tH S).2.1 kc : Int)) := by omega
                            simp only [if_pos hc]
                            have b1 : m + i ≤ 40 := by omega
                            have b2 : m + j ≤ 40 := by omega
                            clear hc h93 h79
                            have fin : ∀ AJ : FT, (∀ c, c ≠ b + 39 → AJ c = AI c) → (∀ y, AJ (b + 39) y = if 40 * kc + j ≤ y ∧ y < 40 * kc + j + m then AI (b + 39) (40 * ka + i + (y - (40 * kc + j))) else AI (b + 39) y) → MIv (stH S (mvH (tH S) ka i kc j m)) FI AJ AL b ∧ fM FI FI AI AJ AL AL b := by
                              intro AJ k1 k2
                              refine hI.sh (fun c hc => k1 c (by omega)) (fun s hs => ?_)
                              obtain ⟨e1, e2, e3⟩ := a4 s hs
                              refine ⟨by rw [k1 _ (by omega)]; exact e1, by rw [k1 _ (by omega)]; exact e2, fun y hy => ?_⟩
                              show _ = if s = kc ∧ j ≤ y ∧ y < j + m then (tH S).2.2 ka (i + (y - j)) else (tH S).2.2 s y
                              rw [k2]
                              by_cases e : s = kc ∧ j ≤ y ∧ y < j + m
                              · have e' : 40 * kc + j ≤ 40 * s + y ∧ 40 * s + y < 40 * kc + j + m := by omega
                                rw [if_pos e', if_pos e, show 40 * ka + i + (40 * s + y - (40 * kc + j)) = 40 * ka + (i + (y - j)) by omega]
                                exact (a4 ka hka).2.2 _ (by omega)
                              · have e' : ¬ (40 * kc + j ≤ 40 * s + y ∧ 40 * s + y < 40 * kc + j + m) := by omega
                                rw [if_neg e', if_neg e]
                                exact e3 y hy
                            have LB : 40 * ka + i < 40 * kc + j → ∀ t, t ≤ m → ∀ (AJ : FT) (v8 : Option Value), (∀ c, c ≠ b + 39 → AJ c = AI c) → (∀ y, AJ (b + 39) y = if 40 * kc + j + m - t ≤ y ∧ y < 40 * kc + j + m then AI (b + 39) (40 * ka + i + (y - (40 * kc + j))) else AI (b + 39) y) → G V m_Mod_move (d + 1) 125 [some (.ref b), some (.int (nI ka)), some (.int (nI i)), some (.int (nI kc)), some (.int (nI j)), some (.int (nI m)), some (.int (nI 1)), some (.int (nI t)), v8] [] X FI AJ AL (fun r X' FI' AI' AL' => r = some (.int (nI m)) ∧ X' = X ∧ MIv (stH S (mvH (tH S) ka i kc j m)) FI' AI' AL' b ∧ fM FI FI' AI AI' AL AL' b) := by
                              intro hlt
                              refine upto ?_ ?_
                              · intro AJ v8 k1 k2
                                refine G_iload7 127 d_Mod_move_125 rfl ?_
                                refine G_iload5 129 d_Mod_move_127 rfl ?_
                                first | refine G_icgeN 186 132 d_Mod_move_129 rfl rfl (by omega) (by omega) (fun h129 => ?_) (fun h129 => ?_) | refine G_icge 186 132 d_Mod_move_129 rfl rfl (fun h129 => ?_) (fun h129 => ?_)
                                · refine G_iload5 188 d_Mod_move_186 rfl ?_
                                  refine G_iret d_Mod_move_188 rfl ?_
                                  have := fin AJ k1 (by rw [Nat.add_sub_cancel] at k2; exact k2)
                                  exact ⟨rfl, rfl, this.1, this.2⟩
                                · omega
                              · intro t ht ih AJ v8 k1 k2
                                have e0 : AJ (b + 39) (40 * ka + i + (m - 1 - t)) = AI (b + 39) (40 * ka + i + (m - 1 - t)) := by rw [k2, if_neg (by omega)]
                                refine G_iload7 127 d_Mod_move_125 rfl ?_
                                refine G_iload5 129 d_Mod_move_127 rfl ?_
                                first | refine G_icgeN 186 132 d_Mod_move_129 rfl rfl (by omega) (by omega) (fun h129 => ?_) (fun h129 => ?_) | refine G_icge 186 132 d_Mod_move_129 rfl rfl (fun h129 => ?_) (fun h129 => ?_)
                                · omega
                                · refine G_iload6 134 d_Mod_move_132 rfl ?_
                                  refine G_ifeq 147 137 d_Mod_move_134 rfl rfl (fun h134 => ?_) (fun h134 => ?_)
                                  · exact absurd h134 (by decide)
                                  · refine G_iload5 139 d_Mod_move_137 rfl ?_
                                    refine G_iconstN 1 140 d_Mod_move_139 rfl rfl ?_
                                    first | refine G_isubN 141 d_Mod_move_140 rfl (by omega) ?_ | refine G_isub 141 d_Mod_move_140 rfl ?_
                                    refine G_iload7 143 d_Mod_move_141 rfl ?_
                                    first | refine G_isubN 144 d_Mod_move_143 rfl (by omega) ?_ | refine G_isub 144 d_Mod_move_143 rfl ?_
                                    refine G_goto 149 d_Mod_move_144 rfl ?_
                                    refine G_istore8 151 d_Mod_move_149 rfl (by decide) rfl ?_
                                    refine G_aload0 152 d_Mod_move_151 rfl ?_
                                    refine G_getR 155 d_Mod_move_152 rfl f_Mod_127 rfl h.sh h.f54 ?_
                                    refine G_bipushN 40 157 d_Mod_move_155 rfl rfl ?_
                                    refine G_iload3 158 d_Mod_move_157 rfl ?_
                                    first | refine G_imulN 159 d_Mod_move_158 rfl ?_ | refine G_imul 159 d_Mod_move_158 rfl ?_
                                    refine G_iload4 161 d_Mod_move_159 rfl ?_
                                    first | refine G_iaddN 162 d_Mod_move_161 rfl ?_ | refine G_iadd 162 d_Mod_move_161 rfl ?_
                                    refine G_iload8 164 d_Mod_move_162 rfl ?_
                                    first | refine G_iaddN 165 d_Mod_move_164 rfl ?_ | refine G_iadd 165 d_Mod_move_164 rfl ?_
                                    refine G_aload0 166 d_Mod_move_165 rfl ?_
                                    refine G_getR 169 d_Mod_move_166 rfl f_Mod_127 rfl h.sh h.f54 ?_
                                    refine G_bipushN 40 171 d_Mod_move_169 rfl rfl ?_
                                    refine G_iload1 172 d_Mod_move_171 rfl ?_
                                    first | refine G_imulN 173 d_Mod_move_172 rfl ?_ | refine G_imul 173 d_Mod_move_172 rfl ?_
                                    refine G_iload2 174 d_Mod_move_173 rfl ?_
                                    first | refine G_iaddN 175 d_Mod_move_174 rfl ?_ | refine G_iadd 175 d_Mod_move_174 rfl ?_
                                    refine G_iload8 177 d_Mod_move_175 rfl ?_
                                    first | refine G_iaddN 178 d_Mod_move_177 rfl ?_ | refine G_iadd 178 d_Mod_move_177 rfl ?_
                                    refine G_ialoadv 179 d_Mod_move_178 rfl h.s54 (ix_nI (by omega) (by omega)) e0 ?_
                                    refine G_iastore 180 d_Mod_move_179 rfl h.s54 (ix_nI (by omega) (by omega)) ?_
                                    first | refine G_iincN7 183 d_Mod_move_180 rfl (by decide) rfl ?_ | refine G_iinc7 _ 183 d_Mod_move_180 rfl (by decide) rfl rfl ?_
                                    refine G_goto 125 d_Mod_move_183 rfl ?_
                                    refine ih _ _ (fun c hc => by rw [u2_off _ _ _ hc]; exact k1 c hc) (fun y => ?_)
                                    by_cases e : y = 40 * kc + j + (m - 1 - t)
                                    · subst e
                                      rw [u2_at, if_pos (by omega), show 40 * kc + j + (m - 1 - t) - (40 * kc + j) = m - 1 - t by omega]
                                    · rw [u2_ix _ _ e, k2]
                                      by_cases e2 : 40 * kc + j + m - t ≤ y ∧ y < 40 * kc + j + m
                                      · rw [if_pos e2, if_pos (by omega)]
                                      · rw [if_neg e2, if_neg (by omega)]
                            have LF : 40 * kc + j ≤ 40 * ka + i → ∀ t, t ≤ m → ∀ (AJ : FT) (v8 : Option Value), (∀ c, c ≠ b + 39 → AJ c = AI c) → (∀ y, AJ (b + 39) y = if 40 * kc + j ≤ y ∧ y < 40 * kc + j + t then AI (b + 39) (40 * ka + i + (y - (40 * kc + j))) else AI (b + 39) y) → G V m_Mod_move (d + 1) 125 [some (.ref b), some (.int (nI ka)), some (.int (nI i)), some (.int (nI kc)), some (.int (nI j)), some (.int (nI m)), some (.int (nI 0)), some (.int (nI t)), v8] [] X FI AJ AL (fun r X' FI' AI' AL' => r = some (.int (nI m)) ∧ X' = X ∧ MIv (stH S (mvH (tH S) ka i kc j m)) FI' AI' AL' b ∧ fM FI FI' AI AI' AL AL' b) := by
                              intro hge
                              refine upto ?_ ?_
                              · intro AJ v8 k1 k2
                                refine G_iload7 127 d_Mod_move_125 rfl ?_
                                refine G_iload5 129 d_Mod_move_127 rfl ?_
                                first | refine G_icgeN 186 132 d_Mod_move_129 rfl rfl (by omega) (by omega) (fun h129 => ?_) (fun h129 => ?_) | refine G_icge 186 132 d_Mod_move_129 rfl rfl (fun h129 => ?_) (fun h129 => ?_)
                                · refine G_iload5 188 d_Mod_move_186 rfl ?_
                                  refine G_iret d_Mod_move_188 rfl ?_
                                  have := fin AJ k1 k2
                                  exact ⟨rfl, rfl, this.1, this.2⟩
                                · omega
                              · intro t ht ih AJ v8 k1 k2
                                have e0 : AJ (b + 39) (40 * ka + i + t) = AI (b + 39) (40 * ka + i + t) := by rw [k2, if_neg (by omega)]
                                refine G_iload7 127 d_Mod_move_125 rfl ?_
                                refine G_iload5 129 d_Mod_move_127 rfl ?_
                                first | refine G_icgeN 186 132 d_Mod_move_129 rfl rfl (by omega) (by omega) (fun h129 => ?_) (fun h129 => ?_) | refine G_icge 186 132 d_Mod_move_129 rfl rfl (fun h129 => ?_) (fun h129 => ?_)
                                · omega
                                · refine G_iload6 134 d_Mod_move_132 rfl ?_
                                  refine G_ifeq 147 137 d_Mod_move_134 rfl rfl (fun h134 => ?_) (fun h134 => ?_)
                                  · refine G_iload7 149 d_Mod_move_147 rfl ?_
                                    refine G_istore8 151 d_Mod_move_149 rfl (by decide) rfl ?_
                                    refine G_aload0 152 d_Mod_move_151 rfl ?_
                                    refine G_getR 155 d_Mod_move_152 rfl f_Mod_127 rfl h.sh h.f54 ?_
                                    refine G_bipushN 40 157 d_Mod_move_155 rfl rfl ?_
                                    refine G_iload3 158 d_Mod_move_157 rfl ?_
                                    first | refine G_imulN 159 d_Mod_move_158 rfl ?_ | refine G_imul 159 d_Mod_move_158 rfl ?_
                                    refine G_iload4 161 d_Mod_move_159 rfl ?_
                                    first | refine G_iaddN 162 d_Mod_move_161 rfl ?_ | refine G_iadd 162 d_Mod_move_161 rfl ?_
                                    refine G_iload8 164 d_Mod_move_162 rfl ?_
                                    first | refine G_iaddN 165 d_Mod_move_164 rfl ?_ | refine G_iadd 165 d_Mod_move_164 rfl ?_
                                    refine G_aload0 166 d_Mod_move_165 rfl ?_
                                    refine G_getR 169 d_Mod_move_166 rfl f_Mod_127 rfl h.sh h.f54 ?_
                                    refine G_bipushN 40 171 d_Mod_move_169 rfl rfl ?_
                                    refine G_iload1 172 d_Mod_move_171 rfl ?_
                                    first | refine G_imulN 173 d_Mod_move_172 rfl ?_ | refine G_imul 173 d_Mod_move_172 rfl ?_
                                    refine G_iload2 174 d_Mod_move_173 rfl ?_
                                    first | refine G_iaddN 175 d_Mod_move_174 rfl ?_ | refine G_iadd 175 d_Mod_move_174 rfl ?_
                                    refine G_iload8 177 d_Mod_move_175 rfl ?_
                                    first | refine G_iaddN 178 d_Mod_move_177 rfl ?_ | refine G_iadd 178 d_Mod_move_177 rfl ?_
                                    refine G_ialoadv 179 d_Mod_move_178 rfl h.s54 (ix_nI (by omega) (by omega)) e0 ?_
                                    refine G_iastore 180 d_Mod_move_179 rfl h.s54 (ix_nI (by omega) (by omega)) ?_
                                    first | refine G_iincN7 183 d_Mod_move_180 rfl (by decide) rfl ?_ | refine G_iinc7 _ 183 d_Mod_move_180 rfl (by decide) rfl rfl ?_
                                    refine G_goto 125 d_Mod_move_183 rfl ?_
                                    refine ih _ _ (fun c hc => by rw [u2_off _ _ _ hc]; exact k1 c hc) (fun y => ?_)
                                    by_cases e : y = 40 * kc + j + t
                                    · subst e
                                      rw [u2_at, if_pos (by omega), show 40 * kc + j + t - (40 * kc + j) = t by omega]
                                    · rw [u2_ix _ _ e, k2]
                                      by_cases e2 : 40 * kc + j ≤ y ∧ y < 40 * kc + j + t
                                      · rw [if_pos e2, if_pos (by omega)]
                                      · rw [if_neg e2, if_neg (by omega)]
                                  · exact absurd rfl h134
                            refine G_bipushN 40 101 d_Mod_move_99 rfl rfl ?_
                            refine G_iload1 102 d_Mod_move_101 rfl ?_
                            first | refine G_imulN 103 d_Mod_move_102 rfl ?_ | refine G_imul 103 d_Mod_move_102 rfl ?_
                            refine G_iload2 104 d_Mod_move_103 rfl ?_
                            first | refine G_iaddN 105 d_Mod_move_104 rfl ?_ | refine G_iadd 105 d_Mod_move_104 rfl ?_
                            refine G_bipushN 40 107 d_Mod_move_105 rfl rfl ?_
                            refine G_iload3 108 d_Mod_move_107 rfl ?_
                            first | refine G_imulN 109 d_Mod_move_108 rfl ?_ | refine G_imul 109 d_Mod_move_108 rfl ?_
                            refine G_iload4 111 d_Mod_move_109 rfl ?_
                            first | refine G_iaddN 112 d_Mod_move_111 rfl ?_ | refine G_iadd 112 d_Mod_move_111 rfl ?_
                            first | refine G_icgeN 119 115 d_Mod_move_112 rfl rfl (by omega) (by omega) (fun h112 => ?_) (fun h112 => ?_) | refine G_icge 119 115 d_Mod_move_112 rfl rfl (fun h112 => ?_) (fun h112 => ?_)
                            · refine G_iconstN 0 120 d_Mod_move_119 rfl rfl ?_
                              refine G_istore6 122 d_Mod_move_120 rfl (by decide) rfl ?_
                              refine G_iconstN 0 123 d_Mod_move_122 rfl rfl ?_
                              refine G_istore7 125 d_Mod_move_123 rfl (by decide) rfl ?_
                              exact LF h112 0 (by omega) AI _ (fun _ _ => rfl) (fun y => by rw [if_neg (by omega)])
                            · refine G_iconstN 1 116 d_Mod_move_115 rfl rfl ?_
                              refine G_goto 120 d_Mod_move_116 rfl ?_
                              refine G_istore6 122 d_Mod_move_120 rfl (by decide) rfl ?_
                              refine G_iconstN 0 123 d_Mod_move_122 rfl rfl ?_
                              refine G_istore7 125 d_Mod_move_123 rfl (by decide) rfl ?_
                              exact LB h112 0 (by omega) AI _ (fun _ _ => rfl) (fun y => by rw [if_neg (by omega)])
                          · rw [Int32.le_iff_toInt_le, mvS hsc hj, nI_toInt hm] at h93
                            have hc : ¬ (0 ≤ (m : Int) ∧ 0 ≤ (i : Int) ∧ 0 ≤ (j : Int) ∧ (m : Int) + (i : Int) ≤ ((tH S).2.1 ka : Int) ∧ (m : Int) + (j : Int) ≤ ((tH S).2.1 kc : Int)) := by omega
                            simp only [if_neg hc]
                            refine G_bipush (-12) 98 d_Mod_move_96 rfl rfl ?_
                            refine G_iret d_Mod_move_98 rfl ?_
                            exact ⟨rfl, rfl, hI, fM.rf⟩
                · exact absurd hs h49
              · simp only [if_pos hs]
                refine G_aload0 38 d_Mod_move_37 rfl ?_
                refine G_getR 41 d_Mod_move_38 rfl f_Mod_121 rfl h.sh h.f52 ?_
                refine G_iload1 42 d_Mod_move_41 rfl ?_
                refine G_ialoadv 43 d_Mod_move_42 rfl h.s52 (ix_nI (by omega) (by omega)) sa ?_
                refine G_aload0 44 d_Mod_move_43 rfl ?_
                refine G_getR 47 d_Mod_move_44 rfl f_Mod_121 rfl h.sh h.f52 ?_
                refine G_iload3 48 d_Mod_move_47 rfl ?_
                refine G_ialoadv 49 d_Mod_move_48 rfl h.s52 (ix_nI (by omega) (by omega)) sc ?_
                first | refine G_iceqN 55 52 d_Mod_move_49 rfl rfl (by omega) (by omega) (fun h49 => ?_) (fun h49 => ?_) | refine G_iceq 55 52 d_Mod_move_49 rfl rfl (fun h49 => ?_) (fun h49 => ?_)
                · exact absurd h49 hs
                · refine G_bipush (-13) 54 d_Mod_move_52 rfl rfl ?_
                  refine G_iret d_Mod_move_54 rfl ?_
                  exact ⟨rfl, rfl, hI, fM.rf⟩
            · exact absurd pc h31
    · have q2 := bN_f h8 (show 4 < 2 ^ 31 by omega)
      simp only [fMove, q2, Bool.and_false, Bool.false_eq_true, if_false]
      refine G_iconst (-1) 15 d_Mod_move_14 rfl rfl ?_
      refine G_iret d_Mod_move_15 rfl ?_
      exact ⟨rfl, rfl, hI, fM.rf⟩
  · have q1 := bN_f h1 (show 4 < 2 ^ 31 by omega)
    simp only [fMove, q1, Bool.false_and, Bool.false_eq_true, if_false]
    refine G_iconst (-1) 15 d_Mod_move_14 rfl rfl ?_
    refine G_iret d_Mod_move_15 rfl ?_
    exact ⟨rfl, rfl, hI, fM.rf⟩
