/-! ===== the class: monoid, ofGenerator, closed ===== -/
theorem moA_le (S : ST) (k : Nat) (h : ∀ t, t < 84 → (tRN S t).length ≤ 344) : ∀ t, t ≤ 84 → (moA S k t).1 ≤ t ∧ (moA S k t).2.1 ≤ t ∧ (moA S k t).2.2 ≤ 344 * t
  | 0, _ => by rw [moA]; exact ⟨Nat.le_refl _, Nat.le_refl _, Nat.le_refl _⟩
  | t + 1, ht => by
    obtain ⟨a, b, c⟩ := moA_le S k h t (by omega)
    have := h t (by omega)
    rw [moA]
    split
    · split <;> (dsimp only; exact ⟨by omega, by omega, by omega⟩)
    · exact ⟨by omega, by omega, by omega⟩
theorem c_monoid {V : GV} {d lo C E : Nat} {S : ST} {x w : Int32} {X : XT} {FI AI : FT} {AL : LT} (h : CO X lo) (hI : CIv C E S X FI AI AL lo) (hW : WS S) : G V m_Alg_monoid (d + 2) 0 [some (.ref lo), some (.int x), some (.int w), none, none, none, none, none] [] X FI AI AL (fun r X' FI' AI' AL' => r = some (.int (fMonoid S x w).1) ∧ CO X' lo ∧ CIv C E (fMonoid S x w).2 X' FI' AI' AL' lo ∧ cF X X' FI FI' AI AI' AL AL' lo) := by
  have hgs := hI.2.2.1
  have g0 := hgs.1
  have hn7 := hgs.2.1
  have hT := hI.2.2.2.1
  obtain ⟨go0, gf1, gf2, gf3, gf4, gf5, gf6, gf7, gf8, gs1, gs2, gs3, gs4, gs5, gs6, gs7, gs8, gpo, -⟩ := h.go
  have gf1' : x_FR X (lo + 4) 1 = some (lo + 5) := gf1
  have gf2' : x_FR X (lo + 4) 2 = some (lo + 6) := gf2
  have gf4' : x_FR X (lo + 4) 4 = some (lo + 8) := gf4
  have gf5' : x_FR X (lo + 4) 5 = some (lo + 9) := gf5
  have gf6' : x_FR X (lo + 4) 6 = some (lo + 10) := gf6
  have gf7' : x_FR X (lo + 4) 7 = some (lo + 11) := gf7
  have gf8' : x_FR X (lo + 4) 8 = some (lo + 12) := gf8
  have gs1' : x_sh X (lo + 5) = some (3, 7) := gs1
  have gs2' : x_sh X (lo + 6) = some (0, 7) := gs2
  have gs4' : x_sh X (lo + 8) = some (0, 7) := gs4
  have gs5' : x_sh X (lo + 9) = some (0, 7) := gs5
  have gs6' : x_sh X (lo + 10) = some (1, 602) := gs6
  have gs7' : x_sh X (lo + 11) = some (0, 602) := gs7
  have gs8' : x_sh X (lo + 12) = some (1, 7) := gs8
  have hgl : ∀ i, i < gN (tG S) → gL (tG S) i < 84 ∧ 1 ≤ eD (gL (tG S) i) := fun i hi => ⟨(hW.2.1.2.1 i hi).1, (hW.2.1.2.1 i hi).2.1⟩
  have eRN : ∀ t, (tRN S t).length = (RT (cLs (tG S)) t).length := fun t => by show (RN (cLs (tG S)) t).length = _; unfold RN; rw [List.length_map]
  have h344 : ∀ t, t < 84 → (RT (cLs (tG S)) t).length ≤ 344 := fun t ht => by
    obtain ⟨S', hS'⟩ := hT
    have := (hS' t ht).2.2.1
    omega
  clear gf1 gf2 gf3 gf4 gf5 gf6 gf7 gf8 gs1 gs2 gs3 gs4 gs5 gs6 gs7 gs8
  have bd : ∀ x' w' : Int32, ¬ (isN x' 7 ∧ isN w' 3) → G V m_Alg_monoid (d + 2) 19 [some (.ref lo), some (.int x'), some (.int w'), none, none, none, none, none] [] X FI AI AL (fun r X' FI' AI' AL' => r = some (.int (fMonoid S x' w').1) ∧ CO X' lo ∧ CIv C E (fMonoid S x' w').2 X' FI' AI' AL' lo ∧ cF X X' FI FI' AI AI' AL AL' lo) := by
    intro x' w' hn
    have eF : fMonoid S x' w' = (-1, S) := by
      unfold fMonoid
      by_cases h1 : isN x' 7
      · have h2 : ¬ isN w' 3 := fun e => hn ⟨h1, e⟩
        rw [bN_f h2 (by omega), Bool.and_false]; rfl
      · rw [bN_f h1 (by omega), Bool.false_and]; rfl
    rw [eF]
    refine G_iconst (-1) 20 d_Alg_monoid_19 rfl rfl ?_
    refine G_iret d_Alg_monoid_20 rfl ?_
    exact ⟨rfl, h, hI, cF.rf⟩
  refine G_iload1 1 d_Alg_monoid_0 rfl ?_
  first | refine G_ifltD 19 4 d_Alg_monoid_1 rfl rfl (by omega) (fun h1 => ?_) (fun j h1 => ?_) | refine G_iflt 19 4 d_Alg_monoid_1 rfl rfl (fun h1 => ?_) (fun h1 => ?_)
  · exact bd _ _ (fun e => by obtain ⟨⟨j, hj, e1⟩, -⟩ := e; rw [e1, lt0_iff, nI_toInt (by omega)] at h1; omega)
  · obtain ⟨k, hk31, rfl⟩ := nI_of h1
    refine G_iload1 5 d_Alg_monoid_4 rfl ?_
    refine G_bipushN 6 7 d_Alg_monoid_5 rfl rfl ?_
    first | refine G_icgtN 19 10 d_Alg_monoid_7 rfl rfl (by omega) (by omega) (fun h7 => ?_) (fun h7 => ?_) | refine G_icgt 19 10 d_Alg_monoid_7 rfl rfl (fun h7 => ?_) (fun h7 => ?_)
    · exact bd _ _ (fun e => by obtain ⟨⟨j, hj, e1⟩, -⟩ := e; rw [nI_eq hk31 (by omega)] at e1; omega)
    · have hk7 : k < 7 := by omega
      refine G_iload2 11 d_Alg_monoid_10 rfl ?_
      first | refine G_ifltD 19 14 d_Alg_monoid_11 rfl rfl (by omega) (fun h11 => ?_) (fun j h11 => ?_) | refine G_iflt 19 14 d_Alg_monoid_11 rfl rfl (fun h11 => ?_) (fun h11 => ?_)
      · exact bd _ _ (fun e => by obtain ⟨-, ⟨j, hj, e1⟩⟩ := e; rw [e1, lt0_iff, nI_toInt (by omega)] at h11; omega)
      · obtain ⟨l, hl31, rfl⟩ := nI_of h11
        refine G_iload2 15 d_Alg_monoid_14 rfl ?_
        refine G_iconstN 2 16 d_Alg_monoid_15 rfl rfl ?_
        first | refine G_icleN 21 19 d_Alg_monoid_16 rfl rfl (by omega) (by omega) (fun h16 => ?_) (fun h16 => ?_) | refine G_icle 21 19 d_Alg_monoid_16 rfl rfl (fun h16 => ?_) (fun h16 => ?_)
        · have hl3 : l < 3 := by omega
          have eF : fMonoid S (nI k) (nI l) = (nI (if l = 0 then (moA S k 84).1 else if l = 1 then (moA S k 84).2.1 else (moA S k 84).2.2), S) := by
            unfold fMonoid; rw [bN_t hk7 (by omega), bN_t hl3 (by omega), ni_nI hk31, ni_nI hl31]; rfl
          rw [eF]
          have hml := moA_le S k (fun t ht => by rw [eRN]; exact h344 t ht)
          have L : ∀ t, t ≤ 84 → ∀ v7 : Option Value, G V m_Alg_monoid (d + 2) 32 [some (.ref lo), some (.int (nI k)), some (.int (nI l)), some (.int (nI (moA S k t).1)), some (.int (nI (moA S k t).2.1)), some (.int (nI (moA S k t).2.2)), some (.int (nI t)), v7] [] X FI AI AL (fun r X' FI' AI' AL' => r = some (.int (nI (if l = 0 then (moA S k 84).1 else if l = 1 then (moA S k 84).2.1 else (moA S k 84).2.2))) ∧ CO X' lo ∧ CIv C E S X' FI' AI' AL' lo ∧ cF X X' FI FI' AI AI' AL AL' lo) := by
            refine upto ?_ ?_
            · intro v7
              have := hml 84 (Nat.le_refl _)
              refine G_iload6 34 d_Alg_monoid_32 rfl ?_
              refine G_bipushN 84 36 d_Alg_monoid_34 rfl rfl ?_
              first | refine G_icgeN 101 39 d_Alg_monoid_36 rfl rfl (by omega) (by omega) (fun h36 => ?_) (fun h36 => ?_) | refine G_icge 101 39 d_Alg_monoid_36 rfl rfl (fun h36 => ?_) (fun h36 => ?_)
              · have l3 : l = 0 ∨ l = 1 ∨ l = 2 := by omega
                rcases l3 with rfl | rfl | rfl
                · refine G_iload2 102 d_Alg_monoid_101 rfl ?_
                  refine G_ifne 109 105 d_Alg_monoid_102 rfl rfl (fun h102 => ?_) (fun h102 => ?_)
                  · exact absurd rfl h102
                  · refine G_iload3 106 d_Alg_monoid_105 rfl ?_
                    refine G_goto 121 d_Alg_monoid_106 rfl ?_
                    refine G_iret d_Alg_monoid_121 rfl ?_
                    exact ⟨rfl, h, hI, cF.rf⟩
                · refine G_iload2 102 d_Alg_monoid_101 rfl ?_
                  refine G_ifne 109 105 d_Alg_monoid_102 rfl rfl (fun h102 => ?_) (fun h102 => ?_)
                  · refine G_iload2 110 d_Alg_monoid_109 rfl ?_
                    refine G_iconstN 1 111 d_Alg_monoid_110 rfl rfl ?_
                    first | refine G_icneN 119 114 d_Alg_monoid_111 rfl rfl (by omega) (by omega) (fun h111 => ?_) (fun h111 => ?_) | refine G_icne 119 114 d_Alg_monoid_111 rfl rfl (fun h111 => ?_) (fun h111 => ?_)
                    · exact absurd rfl h111
                    · refine G_iload4 116 d_Alg_monoid_114 rfl ?_
                      refine G_goto 121 d_Alg_monoid_116 rfl ?_
                      refine G_iret d_Alg_monoid_121 rfl ?_
                      exact ⟨rfl, h, hI, cF.rf⟩
                  · exact absurd h102 (by decide)
                · refine G_iload2 102 d_Alg_monoid_101 rfl ?_
                  refine G_ifne 109 105 d_Alg_monoid_102 rfl rfl (fun h102 => ?_) (fun h102 => ?_)
                  · refine G_iload2 110 d_Alg_monoid_109 rfl ?_
                    refine G_iconstN 1 111 d_Alg_monoid_110 rfl rfl ?_
                    first | refine G_icneN 119 114 d_Alg_monoid_111 rfl rfl (by omega) (by omega) (fun h111 => ?_) (fun h111 => ?_) | refine G_icne 119 114 d_Alg_monoid_111 rfl rfl (fun h111 => ?_) (fun h111 => ?_)
                    · refine G_iload5 121 d_Alg_monoid_119 rfl ?_
                      refine G_iret d_Alg_monoid_121 rfl ?_
                      exact ⟨rfl, h, hI, cF.rf⟩
                    · omega
                  · exact absurd h102 (by decide)
              · omega
            · intro t ht ih v7
              have := hml t (by omega)
              have hca := s_countAt (V := V) (d := d + 1) (FI := FI) (AL := AL) h.to hT ht
              have hlr := h344 t ht
              have hd6 := (e_le ht).2.2.2.1
              rw [moA] at ih
              refine G_iload6 34 d_Alg_monoid_32 rfl ?_
              refine G_bipushN 84 36 d_Alg_monoid_34 rfl rfl ?_
              first | refine G_icgeN 101 39 d_Alg_monoid_36 rfl rfl (by omega) (by omega) (fun h36 => ?_) (fun h36 => ?_) | refine G_icge 101 39 d_Alg_monoid_36 rfl rfl (fun h36 => ?_) (fun h36 => ?_)
              · omega
              · by_cases hd : eD t = k
                · rw [if_pos hd] at ih
                  by_cases hc : 0 < (tRN S t).length
                  · rw [if_pos hc, eRN] at ih
                    rw [eRN] at hc
                    refine G_gets 0 42 d_Alg_monoid_39 rfl rfl s_Alg_199 ?_
                    refine G_iload6 44 d_Alg_monoid_42 rfl ?_
                    refine G_st0 45 d_Alg_monoid_44 rfl (ix_nI (by omega) (by omega)) ?_
                    refine G_iload1 46 d_Alg_monoid_45 rfl ?_
                    first | refine G_icneN 95 49 d_Alg_monoid_46 rfl rfl (by omega) (by omega) (fun h46 => ?_) (fun h46 => ?_) | refine G_icne 95 49 d_Alg_monoid_46 rfl rfl (fun h46 => ?_) (fun h46 => ?_)
                    · exact absurd hd h46
                    · refine G_aload0 50 d_Alg_monoid_49 rfl ?_
                      refine G_getR 53 d_Alg_monoid_50 rfl f_Alg_34 rfl h.sh h.f3 ?_
                      refine G_iload6 55 d_Alg_monoid_53 rfl ?_
                      refine G_invV1d 58 d_Alg_monoid_55 rfl e_Alg_266 M_Tab_countAt rfl h.s3 (Nat.le_of_ble_eq_true rfl) (Nat.le_of_ble_eq_true rfl) rfl (hca) ?_
                      refine G_istore7 60 d_Alg_monoid_58 rfl (by decide) rfl ?_
                      refine G_iload5 62 d_Alg_monoid_60 rfl ?_
                      refine G_iload7 64 d_Alg_monoid_62 rfl ?_
                      first | refine G_iaddN 65 d_Alg_monoid_64 rfl ?_ | refine G_iadd 65 d_Alg_monoid_64 rfl ?_
                      refine G_istore5 67 d_Alg_monoid_65 rfl (by decide) rfl ?_
                      refine G_iload3 68 d_Alg_monoid_67 rfl ?_
                      refine G_iload7 70 d_Alg_monoid_68 rfl ?_
                      refine G_ifle 77 73 d_Alg_monoid_70 rfl rfl (fun h70 => ?_) (fun h70 => ?_)
                      · exact absurd h70 (nI_nle hc (by omega))
                      · refine G_iconstN 1 74 d_Alg_monoid_73 rfl rfl ?_
                        refine G_goto 78 d_Alg_monoid_74 rfl ?_
                        first | refine G_iaddN 79 d_Alg_monoid_78 rfl ?_ | refine G_iadd 79 d_Alg_monoid_78 rfl ?_
                        refine G_istore3 80 d_Alg_monoid_79 rfl (by decide) rfl ?_
                        refine G_iload4 82 d_Alg_monoid_80 rfl ?_
                        refine G_iload7 84 d_Alg_monoid_82 rfl ?_
                        refine G_ifle 91 87 d_Alg_monoid_84 rfl rfl (fun h84 => ?_) (fun h84 => ?_)
                        · exact absurd h84 (nI_nle hc (by omega))
                        · refine G_iconstN 0 88 d_Alg_monoid_87 rfl rfl ?_
                          refine G_goto 92 d_Alg_monoid_88 rfl ?_
                          first | refine G_iaddN 93 d_Alg_monoid_92 rfl ?_ | refine G_iadd 93 d_Alg_monoid_92 rfl ?_
                          refine G_istore4 95 d_Alg_monoid_93 rfl (by decide) rfl ?_
                          first | refine G_iincN6 98 d_Alg_monoid_95 rfl (by decide) rfl ?_ | refine G_iinc6 _ 98 d_Alg_monoid_95 rfl (by decide) rfl rfl ?_
                          refine G_goto 32 d_Alg_monoid_98 rfl ?_
                          exact ih _
                  · rw [if_neg hc, eRN] at ih
                    rw [eRN] at hc
                    have hz : nI (RT (cLs (tG S)) t).length ≤ 0 := by rw [show (RT (cLs (tG S)) t).length = 0 by omega]; decide
                    refine G_gets 0 42 d_Alg_monoid_39 rfl rfl s_Alg_199 ?_
                    refine G_iload6 44 d_Alg_monoid_42 rfl ?_
                    refine G_st0 45 d_Alg_monoid_44 rfl (ix_nI (by omega) (by omega)) ?_
                    refine G_iload1 46 d_Alg_monoid_45 rfl ?_
                    first | refine G_icneN 95 49 d_Alg_monoid_46 rfl rfl (by omega) (by omega) (fun h46 => ?_) (fun h46 => ?_) | refine G_icne 95 49 d_Alg_monoid_46 rfl rfl (fun h46 => ?_) (fun h46 => ?_)
                    · exact absurd hd h46
                    · refine G_aload0 50 d_Alg_monoid_49 rfl ?_
                      refine G_getR 53 d_Alg_monoid_50 rfl f_Alg_34 rfl h.sh h.f3 ?_
                      refine G_iload6 55 d_Alg_monoid_53 rfl ?_
                      refine G_invV1d 58 d_Alg_monoid_55 rfl e_Alg_266 M_Tab_countAt rfl h.s3 (Nat.le_of_ble_eq_true rfl) (Nat.le_of_ble_eq_true rfl) rfl (hca) ?_
                      refine G_istore7 60 d_Alg_monoid_58 rfl (by decide) rfl ?_
                      refine G_iload5 62 d_Alg_monoid_60 rfl ?_
                      refine G_iload7 64 d_Alg_monoid_62 rfl ?_
                      first | refine G_iaddN 65 d_Alg_monoid_64 rfl ?_ | refine G_iadd 65 d_Alg_monoid_64 rfl ?_
                      refine G_istore5 67 d_Alg_monoid_65 rfl (by decide) rfl ?_
                      refine G_iload3 68 d_Alg_monoid_67 rfl ?_
                      refine G_iload7 70 d_Alg_monoid_68 rfl ?_
                      refine G_ifle 77 73 d_Alg_monoid_70 rfl rfl (fun h70 => ?_) (fun h70 => ?_)
                      · refine G_iconstN 0 78 d_Alg_monoid_77 rfl rfl ?_
                        first | refine G_iaddN 79 d_Alg_monoid_78 rfl ?_ | refine G_iadd 79 d_Alg_monoid_78 rfl ?_
                        refine G_istore3 80 d_Alg_monoid_79 rfl (by decide) rfl ?_
                        refine G_iload4 82 d_Alg_monoid_80 rfl ?_
                        refine G_iload7 84 d_Alg_monoid_82 rfl ?_
                        refine G_ifle 91 87 d_Alg_monoid_84 rfl rfl (fun h84 => ?_) (fun h84 => ?_)
                        · refine G_iconstN 1 92 d_Alg_monoid_91 rfl rfl ?_
                          first | refine G_iaddN 93 d_Alg_monoid_92 rfl ?_ | refine G_iadd 93 d_Alg_monoid_92 rfl ?_
                          refine G_istore4 95 d_Alg_monoid_93 rfl (by decide) rfl ?_
                          first | refine G_iincN6 98 d_Alg_monoid_95 rfl (by decide) rfl ?_ | refine G_iinc6 _ 98 d_Alg_monoid_95 rfl (by decide) rfl rfl ?_
                          refine G_goto 32 d_Alg_monoid_98 rfl ?_
                          exact ih _
                        · exact absurd hz h84
                      · exact absurd hz h70
                · rw [if_neg hd] at ih
                  refine G_gets 0 42 d_Alg_monoid_39 rfl rfl s_Alg_199 ?_
                  refine G_iload6 44 d_Alg_monoid_42 rfl ?_
                  refine G_st0 45 d_Alg_monoid_44 rfl (ix_nI (by omega) (by omega)) ?_
                  refine G_iload1 46 d_Alg_monoid_45 rfl ?_
                  first | refine G_icneN 95 49 d_Alg_monoid_46 rfl rfl (by omega) (by omega) (fun h46 => ?_) (fun h46 => ?_) | refine G_icne 95 49 d_Alg_monoid_46 rfl rfl (fun h46 => ?_) (fun h46 => ?_)
                  · first | refine G_iincN6 98 d_Alg_monoid_95 rfl (by decide) rfl ?_ | refine G_iinc6 _ 98 d_Alg_monoid_95 rfl (by decide) rfl rfl ?_
                    refine G_goto 32 d_Alg_monoid_98 rfl ?_
                    exact ih _
                  · exact absurd h46 hd
          refine G_iconstN 0 22 d_Alg_monoid_21 rfl rfl ?_
          refine G_istore3 23 d_Alg_monoid_22 rfl (by decide) rfl ?_
          refine G_iconstN 0 24 d_Alg_monoid_23 rfl rfl ?_
          refine G_istore4 26 d_Alg_monoid_24 rfl (by decide) rfl ?_
          refine G_iconstN 0 27 d_Alg_monoid_26 rfl rfl ?_
          refine G_istore5 29 d_Alg_monoid_27 rfl (by decide) rfl ?_
          refine G_iconstN 0 30 d_Alg_monoid_29 rfl rfl ?_
          refine G_istore6 32 d_Alg_monoid_30 rfl (by decide) rfl ?_
          exact L 0 (by omega) _
        · exact bd _ _ (fun e => by obtain ⟨-, ⟨j, hj, e1⟩⟩ := e; rw [nI_eq hl31 (by omega)] at e1; omega)
theorem c_ofGenerator {V : GV} {d lo C E : Nat} {S : ST} {g w : Int32} {X : XT} {FI AI : FT} {AL : LT} (h : CO X lo) (hI : CIv C E S X FI AI AL lo) (hW : WS S) : G V m_Alg_ofGenerator (d + 2) 0 [some (.ref lo), some (.int g), some (.int w), none] [] X FI AI AL (fun r X' FI' AI' AL' => r = some (.int (fOfGen S g w).1) ∧ CO X' lo ∧ CIv C E (fOfGen S g w).2 X' FI' AI' AL' lo ∧ cF X X' FI FI' AI AI' AL AL' lo) := by
  have hgs := hI.2.2.1
  have g0 := hgs.1
  have hn7 := hgs.2.1
  have hT := hI.2.2.2.1
  obtain ⟨go0, gf1, gf2, gf3, gf4, gf5, gf6, gf7, gf8, gs1, gs2, gs3, gs4, gs5, gs6, gs7, gs8, gpo, -⟩ := h.go
  have gf1' : x_FR X (lo + 4) 1 = some (lo + 5) := gf1
  have gf2' : x_FR X (lo + 4) 2 = some (lo + 6) := gf2
  have gf4' : x_FR X (lo + 4) 4 = some (lo + 8) := gf4
  have gf5' : x_FR X (lo + 4) 5 = some (lo + 9) := gf5
  have gf6' : x_FR X (lo + 4) 6 = some (lo + 10) := gf6
  have gf7' : x_FR X (lo + 4) 7 = some (lo + 11) := gf7
  have gf8' : x_FR X (lo + 4) 8 = some (lo + 12) := gf8
  have gs1' : x_sh X (lo + 5) = some (3, 7) := gs1
  have gs2' : x_sh X (lo + 6) = some (0, 7) := gs2
  have gs4' : x_sh X (lo + 8) = some (0, 7) := gs4
  have gs5' : x_sh X (lo + 9) = some (0, 7) := gs5
  have gs6' : x_sh X (lo + 10) = some (1, 602) := gs6
  have gs7' : x_sh X (lo + 11) = some (0, 602) := gs7
  have gs8' : x_sh X (lo + 12) = some (1, 7) := gs8
  have hgl : ∀ i, i < gN (tG S) → gL (tG S) i < 84 ∧ 1 ≤ eD (gL (tG S) i) := fun i hi => ⟨(hW.2.1.2.1 i hi).1, (hW.2.1.2.1 i hi).2.1⟩
  have eRN : ∀ t, (tRN S t).length = (RT (cLs (tG S)) t).length := fun t => by show (RN (cLs (tG S)) t).length = _; unfold RN; rw [List.length_map]
  have h344 : ∀ t, t < 84 → (RT (cLs (tG S)) t).length ≤ 344 := fun t ht => by
    obtain ⟨S', hS'⟩ := hT
    have := (hS' t ht).2.2.1
    omega
  clear gf1 gf2 gf3 gf4 gf5 gf6 gf7 gf8 gs1 gs2 gs3 gs4 gs5 gs6 gs7 gs8
  refine G_aload0 1 d_Alg_ofGenerator_0 rfl ?_
  refine G_iload1 2 d_Alg_ofGenerator_1 rfl ?_
  refine G_invV1b 5 d_Alg_ofGenerator_2 rfl e_Alg_248 M_Alg_isGenerator rfl h.sh (Nat.le_of_ble_eq_true rfl) (Nat.le_of_ble_eq_true rfl) rfl (s_isGen h g0 hn7) (fun h2 => G_ifne1 8 d_Alg_ofGenerator_5 10 rfl rfl ?_) (fun h2 => G_ifne0 8 d_Alg_ofGenerator_5 10 rfl rfl ?_)
  · obtain ⟨g, hg, rfl⟩ := h2
    have qg := bN_t hg (show gN (tG S) < 2 ^ 31 by omega)
    have zg := ni_nI (show g < 2 ^ 31 by omega)
    have arg : x_AR X (lo + 5) g = some (lo + 13 + 2 * g) := (gpo g (by omega)).1
    have pog : PO X (lo + 13 + 2 * g) (lo + 14 + 2 * g) := (gpo g (by omega)).2
    have psg := pog.1
    obtain ⟨w1g, w2g, w3g, w4g, w5g, w6g⟩ := hgs.2.2 g hg
    have w1'g : AI (lo + 6) g = nI (gL (tG S) g) := w1g
    have w2'g : AL (lo + 14 + 2 * g) = gP (tG S) g := by rw [show lo + 14 + 2 * g = lo + 4 + 10 + 2 * g by omega]; exact w2g
    have w4'g : AI (lo + 8) g = nI (hgL (tG S) (g + 1)) := w4g
    have w5'g : AI (lo + 9) g = nI (gK (tG S) g) := w5g
    have k86g : gK (tG S) g ≤ 86 := (hW.2.1.2.1 g hg).2.2.2.2.1
    have ht := (hgl g hg).1
    have hca := s_countAt (V := V) (d := d + 1) (FI := FI) (AL := AL) h.to hT ht
    have hlr := h344 _ ht
    refine G_aload0 11 d_Alg_ofGenerator_10 rfl ?_
    refine G_getR 14 d_Alg_ofGenerator_11 rfl f_Alg_27 rfl h.sh h.f2 ?_
    refine G_getR 17 d_Alg_ofGenerator_14 rfl f_Alg_254 rfl h.s2 gf2' ?_
    refine G_iload1 18 d_Alg_ofGenerator_17 rfl ?_
    refine G_ialoadv 19 d_Alg_ofGenerator_18 rfl (by assumption) (ix_nI (by omega) (by omega)) w1'g ?_
    refine G_istore3 20 d_Alg_ofGenerator_19 rfl (by decide) rfl ?_
    refine G_iload2 21 d_Alg_ofGenerator_20 rfl ?_
    by_cases hw : isN w 9
    · obtain ⟨w, hw, rfl⟩ := hw
      have q2 := bN_t hw (show 9 < 2 ^ 31 by omega)
      have z2 := ni_nI (show w < 2 ^ 31 by omega)
      simp only [fOfGen, qg, q2, zg, z2, Bool.and_self, if_true]
      have hw9 : w = 0 ∨ w = 1 ∨ w = 2 ∨ w = 3 ∨ w = 4 ∨ w = 5 ∨ w = 6 ∨ w = 7 ∨ w = 8 := by omega
      rcases hw9 with rfl | rfl | rfl | rfl | rfl | rfl | rfl | rfl | rfl
      · refine G_tableIn 72 d_Alg_ofGenerator_21 (by decide) (by decide) rfl rfl ?_
        refine G_iload3 73 d_Alg_ofGenerator_72 rfl ?_
        refine G_iload2 74 d_Alg_ofGenerator_73 rfl ?_
        refine G_invS2d 77 d_Alg_ofGenerator_74 rfl e_Alg_203 M_Terms_exponent (Nat.le_of_ble_eq_true rfl) (Nat.le_of_ble_eq_true rfl) rfl (s_exponent (by omega) (by omega)) ?_
        refine G_iret d_Alg_ofGenerator_77 rfl ?_
        exact ⟨rfl, h, hI, cF.rf⟩
      · refine G_tableIn 72 d_Alg_ofGenerator_21 (by decide) (by decide) rfl rfl ?_
        refine G_iload3 73 d_Alg_ofGenerator_72 rfl ?_
        refine G_iload2 74 d_Alg_ofGenerator_73 rfl ?_
        refine G_invS2d 77 d_Alg_ofGenerator_74 rfl e_Alg_203 M_Terms_exponent (Nat.le_of_ble_eq_true rfl) (Nat.le_of_ble_eq_true rfl) rfl (s_exponent (by omega) (by omega)) ?_
        refine G_iret d_Alg_ofGenerator_77 rfl ?_
        exact ⟨rfl, h, hI, cF.rf⟩
      · refine G_tableIn 72 d_Alg_ofGenerator_21 (by decide) (by decide) rfl rfl ?_
        refine G_iload3 73 d_Alg_ofGenerator_72 rfl ?_
        refine G_iload2 74 d_Alg_ofGenerator_73 rfl ?_
        refine G_invS2d 77 d_Alg_ofGenerator_74 rfl e_Alg_203 M_Terms_exponent (Nat.le_of_ble_eq_true rfl) (Nat.le_of_ble_eq_true rfl) rfl (s_exponent (by omega) (by omega)) ?_
        refine G_iret d_Alg_ofGenerator_77 rfl ?_
        exact ⟨rfl, h, hI, cF.rf⟩
      · refine G_tableIn 78 d_Alg_ofGenerator_21 (by decide) (by decide) rfl rfl ?_
        refine G_gets 0 81 d_Alg_ofGenerator_78 rfl rfl s_Alg_199 ?_
        refine G_iload3 82 d_Alg_ofGenerator_81 rfl ?_
        refine G_st0 83 d_Alg_ofGenerator_82 rfl (ix_nI (by omega) (by omega)) ?_
        refine G_iret d_Alg_ofGenerator_83 rfl ?_
        exact ⟨rfl, h, hI, cF.rf⟩
      · refine G_tableIn 84 d_Alg_ofGenerator_21 (by decide) (by decide) rfl rfl ?_
        have hig := s_isGrown (V := V) (d := d + 1) (FI := FI) (AL := AL) h.go (show g < 7 by omega) w5g (show gK (tG S) g < 2 ^ 31 by omega)
        refine G_aload0 85 d_Alg_ofGenerator_84 rfl ?_
        refine G_getR 88 d_Alg_ofGenerator_85 rfl f_Alg_27 rfl h.sh h.f2 ?_
        refine G_iload1 89 d_Alg_ofGenerator_88 rfl ?_
        refine G_invV1b 92 d_Alg_ofGenerator_89 rfl e_Alg_257 M_Gen_isGrown rfl h.s2 (Nat.le_of_ble_eq_true rfl) (Nat.le_of_ble_eq_true rfl) rfl (hig) (fun h89 => G_ifeq1 95 d_Alg_ofGenerator_92 99 rfl rfl ?_) (fun h89 => G_ifeq0 95 d_Alg_ofGenerator_92 99 rfl rfl ?_)
        · have e : ofG S g 4 = 1 := if_pos h89
          rw [e]
          refine G_iconstN 1 96 d_Alg_ofGenerator_95 rfl rfl ?_
          refine G_goto 100 d_Alg_ofGenerator_96 rfl ?_
          refine G_iret d_Alg_ofGenerator_100 rfl ?_
          exact ⟨rfl, h, hI, cF.rf⟩
        · have e : ofG S g 4 = 0 := if_neg h89
          rw [e]
          refine G_iconstN 0 100 d_Alg_ofGenerator_99 rfl rfl ?_
          refine G_iret d_Alg_ofGenerator_100 rfl ?_
          exact ⟨rfl, h, hI, cF.rf⟩
      · refine G_tableIn 101 d_Alg_ofGenerator_21 (by decide) (by decide) rfl rfl ?_
        refine G_aload0 102 d_Alg_ofGenerator_101 rfl ?_
        refine G_getR 105 d_Alg_ofGenerator_102 rfl f_Alg_27 rfl h.sh h.f2 ?_
        refine G_getR 108 d_Alg_ofGenerator_105 rfl f_Alg_260 rfl h.s2 gf4' ?_
        refine G_iload1 109 d_Alg_ofGenerator_108 rfl ?_
        refine G_ialoadv 110 d_Alg_ofGenerator_109 rfl (by assumption) (ix_nI (by omega) (by omega)) w4'g ?_
        refine G_iret d_Alg_ofGenerator_110 rfl ?_
        exact ⟨rfl, h, hI, cF.rf⟩
      · refine G_tableIn 111 d_Alg_ofGenerator_21 (by decide) (by decide) rfl rfl ?_
        refine G_aload0 112 d_Alg_ofGenerator_111 rfl ?_
        refine G_getR 115 d_Alg_ofGenerator_112 rfl f_Alg_27 rfl h.sh h.f2 ?_
        refine G_getR 118 d_Alg_ofGenerator_115 rfl f_Alg_263 rfl h.s2 gf5' ?_
        refine G_iload1 119 d_Alg_ofGenerator_118 rfl ?_
        refine G_ialoadv 120 d_Alg_ofGenerator_119 rfl (by assumption) (ix_nI (by omega) (by omega)) w5'g ?_
        refine G_iret d_Alg_ofGenerator_120 rfl ?_
        exact ⟨rfl, h, hI, cF.rf⟩
      · refine G_tableIn 121 d_Alg_ofGenerator_21 (by decide) (by decide) rfl rfl ?_
        refine G_aload0 122 d_Alg_ofGenerator_121 rfl ?_
        refine G_getR 125 d_Alg_ofGenerator_122 rfl f_Alg_34 rfl h.sh h.f3 ?_
        refine G_iload3 126 d_Alg_ofGenerator_125 rfl ?_
        refine G_invV1d 129 d_Alg_ofGenerator_126 rfl e_Alg_266 M_Tab_countAt rfl h.s3 (Nat.le_of_ble_eq_true rfl) (Nat.le_of_ble_eq_true rfl) rfl (hca) ?_
        refine G_iconstN 1 130 d_Alg_ofGenerator_129 rfl rfl ?_
        first | refine G_icleN 137 133 d_Alg_ofGenerator_130 rfl rfl (by omega) (by omega) (fun h130 => ?_) (fun h130 => ?_) | refine G_icle 137 133 d_Alg_ofGenerator_130 rfl rfl (fun h130 => ?_) (fun h130 => ?_)
        · have e9 : (tRN S (gL (tG S) g)).length ≤ 1 := by rw [eRN]; exact h130
          have e : ofG S g 7 = 0 := if_pos e9
          rw [e]
          refine G_iconstN 0 138 d_Alg_ofGenerator_137 rfl rfl ?_
          refine G_iret d_Alg_ofGenerator_138 rfl ?_
          exact ⟨rfl, h, hI, cF.rf⟩
        · have e9 : ¬ (tRN S (gL (tG S) g)).length ≤ 1 := by rw [eRN]; omega
          have e : ofG S g 7 = 1 := if_neg e9
          rw [e]
          refine G_iconstN 1 134 d_Alg_ofGenerator_133 rfl rfl ?_
          refine G_goto 138 d_Alg_ofGenerator_134 rfl ?_
          refine G_iret d_Alg_ofGenerator_138 rfl ?_
          exact ⟨rfl, h, hI, cF.rf⟩
      · refine G_tableIn 139 d_Alg_ofGenerator_21 (by decide) (by decide) rfl rfl ?_
        have e : ofG S g 8 = cnt (AL (lo + 14 + 2 * g)) := by rw [w2'g]; rfl
        rw [e]
        refine G_aload0 140 d_Alg_ofGenerator_139 rfl ?_
        refine G_getR 143 d_Alg_ofGenerator_140 rfl f_Alg_27 rfl h.sh h.f2 ?_
        refine G_getR 146 d_Alg_ofGenerator_143 rfl f_Alg_251 rfl h.s2 gf1' ?_
        refine G_iload1 147 d_Alg_ofGenerator_146 rfl ?_
        refine G_aaload 148 d_Alg_ofGenerator_147 rfl (by assumption) (by decide) (by decide) (ix_nI (by omega) (by omega)) (by assumption) ?_
        refine G_invV0d 151 d_Alg_ofGenerator_148 rfl e_Alg_156 M_Poly_termCount rfl (by assumption) (Nat.le_of_ble_eq_true rfl) (Nat.le_of_ble_eq_true rfl) rfl (s_termCount (by assumption)) ?_
        refine G_iret d_Alg_ofGenerator_151 rfl ?_
        exact ⟨rfl, h, hI, cF.rf⟩
    · have q2 := bN_f hw (show 9 < 2 ^ 31 by omega)
      simp only [fOfGen, q2, Bool.false_and, Bool.and_false, Bool.false_eq_true, if_false]
      rw [isN_iff (by omega)] at hw
      refine G_tableOut 152 d_Alg_ofGenerator_21 (by omega) rfl ?_
      refine G_iconst (-1) 153 d_Alg_ofGenerator_152 rfl rfl ?_
      refine G_iret d_Alg_ofGenerator_153 rfl ?_
      exact ⟨rfl, h, hI, cF.rf⟩
  · have q1 := bN_f h2 (show gN (tG S) < 2 ^ 31 by omega)
    simp only [fOfGen, q1, Bool.false_and, Bool.and_false, Bool.false_eq_true, if_false]
    refine G_iconst (-1) 9 d_Alg_ofGenerator_8 rfl rfl ?_
    refine G_iret d_Alg_ofGenerator_9 rfl ?_
    exact ⟨rfl, h, hI, cF.rf⟩
