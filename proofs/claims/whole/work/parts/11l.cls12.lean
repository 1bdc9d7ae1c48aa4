/-! ===== the class: GENERATORS and ROWS are told ===== -/
theorem s_isGen {V : GV} {d lo n : Nat} {x : Int32} {X : XT} {FI AI : FT} {AL : LT} (h : CO X lo) (hn : FI (lo + 4) 0 = nI n) (hn7 : n ≤ 7) : G V m_Alg_isGenerator d 0 [some (.ref lo), some (.int x)] [] X FI AI AL (P01 (isN x n) X FI AI AL) := by
  rw [show isN x n = (0 ≤ x.toInt ∧ x.toInt < (n : Nat)) from propext (isN_iff (by omega))]
  refine G_iload1 1 d_Alg_isGenerator_0 rfl ?_
  first | refine G_ifltD 19 4 d_Alg_isGenerator_1 rfl rfl (by omega) (fun h1 => ?_) (fun j h1 => ?_) | refine G_iflt 19 4 d_Alg_isGenerator_1 rfl rfl (fun h1 => ?_) (fun h1 => ?_)
  · rw [lt0_iff] at h1
    refine G_iconstN 0 20 d_Alg_isGenerator_19 rfl rfl ?_
    refine G_zret d_Alg_isGenerator_20 rfl ?_ ?_
    · first | exact Or.inl rfl | exact Or.inr rfl
    · first | exact P01.t (by omega) | exact P01.f (by omega)
  · rw [nlt0_iff] at h1
    refine G_iload1 5 d_Alg_isGenerator_4 rfl ?_
    refine G_aload0 6 d_Alg_isGenerator_5 rfl ?_
    refine G_getR 9 d_Alg_isGenerator_6 rfl f_Alg_27 rfl h.sh h.f2 ?_
    refine G_getIv 12 d_Alg_isGenerator_9 rfl f_Alg_109 rfl h.s2 hn ?_
    first | refine G_icgeN 19 15 d_Alg_isGenerator_12 rfl rfl (by omega) (by omega) (fun h12 => ?_) (fun h12 => ?_) | refine G_icge 19 15 d_Alg_isGenerator_12 rfl rfl (fun h12 => ?_) (fun h12 => ?_)
    · rw [lec (by omega)] at h12
      refine G_iconstN 0 20 d_Alg_isGenerator_19 rfl rfl ?_
      refine G_zret d_Alg_isGenerator_20 rfl ?_ ?_
      · first | exact Or.inl rfl | exact Or.inr rfl
      · first | exact P01.t (by omega) | exact P01.f (by omega)
    · rw [lec (by omega)] at h12
      refine G_iconstN 1 16 d_Alg_isGenerator_15 rfl rfl ?_
      refine G_goto 20 d_Alg_isGenerator_16 rfl ?_
      refine G_zret d_Alg_isGenerator_20 rfl ?_ ?_
      · first | exact Or.inl rfl | exact Or.inr rfl
      · first | exact P01.t (by omega) | exact P01.f (by omega)
theorem c_give {V : GV} {d lo C E : Nat} {S : ST} {g s : Int32} {X : XT} {FI AI : FT} {AL : LT} (h : CO X lo) (hI : CIv C E S X FI AI AL lo) (hW : WS S) : G V m_Alg_give (d + 2) 0 [some (.ref lo), some (.int g), some (.int s)] [] X FI AI AL (fun r X' FI' AI' AL' => r = some (.int (fGive S g s).1) ∧ CO X' lo ∧ CIv C E (fGive S g s).2 X' FI' AI' AL' lo ∧ cF X X' FI FI' AI AI' AL AL' lo) := by
  have hgs := hI.2.2.1
  have g0 := hgs.1
  have hn7 := hgs.2.1
  have hT := hI.2.2.2.1
  obtain ⟨go0, gf1, gf2, gf3, gf4, gf5, gf6, gf7, gf8, gs1, gs2, gs3, gs4, gs5, gs6, gs7, gs8, gpo, -⟩ := h.go
  have gf1' : x_FR X (lo + 4) 1 = some (lo + 5) := gf1
  have gf2' : x_FR X (lo + 4) 2 = some (lo + 6) := gf2
  have gf4' : x_FR X (lo + 4) 4 = some (lo + 8) := gf4
  have gf5' : x_FR X (lo + 4) 5 = some (lo + 9) := gf5
  have gf6' : x_FR X (lo + 4) 6 = some (lo + 10) := gf6
  have gf7' : x_FR X (lo + 4) 7 = some (lo + 11) := gf7
  have gf8' : x_FR X (lo + 4) 8 = some (lo + 12) := gf8
  have gs1' : x_sh X (lo + 5) = some (3, 7) := gs1
  have gs2' : x_sh X (lo + 6) = some (0, 7) := gs2
  have gs4' : x_sh X (lo + 8) = some (0, 7) := gs4
  have gs5' : x_sh X (lo + 9) = some (0, 7) := gs5
  have gs6' : x_sh X (lo + 10) = some (1, 602) := gs6
  have gs7' : x_sh X (lo + 11) = some (0, 602) := gs7
  have gs8' : x_sh X (lo + 12) = some (1, 7) := gs8
  have hgl : ∀ i, i < gN (tG S) → gL (tG S) i < 84 ∧ 1 ≤ eD (gL (tG S) i) := fun i hi => ⟨(hW.2.1.2.1 i hi).1, (hW.2.1.2.1 i hi).2.1⟩
  have eRN : ∀ t, (tRN S t).length = (RT (cLs (tG S)) t).length := fun t => by show (RN (cLs (tG S)) t).length = _; unfold RN; rw [List.length_map]
  have h344 : ∀ t, t < 84 → (RT (cLs (tG S)) t).length ≤ 344 := fun t ht => by
    obtain ⟨S', hS'⟩ := hT
    have := (hS' t ht).2.2.1
    omega
  clear gf1 gf2 gf3 gf4 gf5 gf6 gf7 gf8 gs1 gs2 gs3 gs4 gs5 gs6 gs7 gs8
  refine G_aload0 1 d_Alg_give_0 rfl ?_
  refine G_iload1 2 d_Alg_give_1 rfl ?_
  refine G_invV1b 5 d_Alg_give_2 rfl e_Alg_248 M_Alg_isGenerator rfl h.sh (Nat.le_of_ble_eq_true rfl) (Nat.le_of_ble_eq_true rfl) rfl (s_isGen h g0 hn7) (fun h2 => G_ifeq1 8 d_Alg_give_5 15 rfl rfl ?_) (fun h2 => G_ifeq0 8 d_Alg_give_5 15 rfl rfl ?_)
  · obtain ⟨g, hg, rfl⟩ := h2
    have qg := bN_t hg (show gN (tG S) < 2 ^ 31 by omega)
    have zg := ni_nI (show g < 2 ^ 31 by omega)
    have arg : x_AR X (lo + 5) g = some (lo + 13 + 2 * g) := (gpo g (by omega)).1
    have pog : PO X (lo + 13 + 2 * g) (lo + 14 + 2 * g) := (gpo g (by omega)).2
    have psg := pog.1
    obtain ⟨w1g, w2g, w3g, w4g, w5g, w6g⟩ := hgs.2.2 g hg
    have w1'g : AI (lo + 6) g = nI (gL (tG S) g) := w1g
    have w2'g : AL (lo + 14 + 2 * g) = gP (tG S) g := by rw [show lo + 14 + 2 * g = lo + 4 + 10 + 2 * g by omega]; exact w2g
    have w4'g : AI (lo + 8) g = nI (hgL (tG S) (g + 1)) := w4g
    have w5'g : AI (lo + 9) g = nI (gK (tG S) g) := w5g
    have k86g : gK (tG S) g ≤ 86 := (hW.2.1.2.1 g hg).2.2.2.2.1
    refine G_iload2 9 d_Alg_give_8 rfl ?_
    refine G_invS1b 12 d_Alg_give_9 rfl e_Alg_119 M_Alg_isSlot (Nat.le_of_ble_eq_true rfl) (Nat.le_of_ble_eq_true rfl) rfl (s_isSlot) (fun h9 => G_ifne1 15 d_Alg_give_12 17 rfl rfl ?_) (fun h9 => G_ifne0 15 d_Alg_give_12 17 rfl rfl ?_)
    · obtain ⟨k, hk, rfl⟩ := h9
      have qk := bN_t hk (show 6 < 2 ^ 31 by omega)
      have zk := ni_nI (show k < 2 ^ 31 by omega)
      obtain ⟨ark, pok⟩ := h.sl hk
      have psk := pok.1
      have ek := hI.1 k hk
      simp only [fGive, qg, zg, qk, zk, Bool.and_self, if_true]
      refine G_aload0 18 d_Alg_give_17 rfl ?_
      refine G_getR 21 d_Alg_give_18 rfl f_Alg_13 rfl h.sh h.f0 ?_
      refine G_iload2 22 d_Alg_give_21 rfl ?_
      refine G_aaload 23 d_Alg_give_22 rfl h.s0 (by decide) (by decide) (ix_nI (by omega) (by omega)) (by assumption) ?_
      refine G_aload0 24 d_Alg_give_23 rfl ?_
      refine G_getR 27 d_Alg_give_24 rfl f_Alg_27 rfl h.sh h.f2 ?_
      refine G_getR 30 d_Alg_give_27 rfl f_Alg_251 rfl h.s2 gf1' ?_
      refine G_iload1 31 d_Alg_give_30 rfl ?_
      refine G_aaload 32 d_Alg_give_31 rfl (by assumption) (by decide) (by decide) (ix_nI (by omega) (by omega)) (by assumption) ?_
      refine G_invV1v 35 d_Alg_give_32 rfl e_Alg_170 M_Poly_becomeLike rfl (by assumption) (Nat.le_of_ble_eq_true rfl) (Nat.le_of_ble_eq_true rfl) rfl (s_becomeLike (by assumption) (by assumption)) ?_
      refine G_aload0 36 d_Alg_give_35 rfl ?_
      refine G_getR 39 d_Alg_give_36 rfl f_Alg_13 rfl h.sh h.f0 ?_
      refine G_iload2 40 d_Alg_give_39 rfl ?_
      refine G_aaload 41 d_Alg_give_40 rfl h.s0 (by decide) (by decide) (ix_nI (by omega) (by omega)) (by assumption) ?_
      refine G_invV0d 44 d_Alg_give_41 rfl e_Alg_156 M_Poly_termCount rfl (by assumption) (Nat.le_of_ble_eq_true rfl) (Nat.le_of_ble_eq_true rfl) rfl (s_termCount (by assumption)) ?_
      refine G_iret d_Alg_give_44 rfl ?_
      rw [w2'g]
      exact ⟨by rw [sr_at], h, hI.s1 hW hk (fun c _ _ hc => sr_ne _ _ hc) (sr_at _ _ _), cF.al (fun c hc => sr_ne _ _ (by omega))⟩
    · have q2 := bN_f h9 (show 6 < 2 ^ 31 by omega)
      simp only [fGive, q2, Bool.false_and, Bool.and_false, Bool.false_eq_true, if_false]
      refine G_iconst (-1) 16 d_Alg_give_15 rfl rfl ?_
      refine G_iret d_Alg_give_16 rfl ?_
      exact ⟨rfl, h, hI, cF.rf⟩
  · have q1 := bN_f h2 (show gN (tG S) < 2 ^ 31 by omega)
    simp only [fGive, q1, Bool.false_and, Bool.and_false, Bool.false_eq_true, if_false]
    refine G_iconst (-1) 16 d_Alg_give_15 rfl rfl ?_
    refine G_iret d_Alg_give_16 rfl ?_
    exact ⟨rfl, h, hI, cF.rf⟩
theorem c_made {V : GV} {d lo C E : Nat} {S : ST} {g i w : Int32} {X : XT} {FI AI : FT} {AL : LT} (h : CO X lo) (hI : CIv C E S X FI AI AL lo) (hW : WS S) : G V m_Alg_made (d + 2) 0 [some (.ref lo), some (.int g), some (.int i), some (.int w), none] [] X FI AI AL (fun r X' FI' AI' AL' => r = some (.long (fMade S g i w).1) ∧ CO X' lo ∧ CIv C E (fMade S g i w).2 X' FI' AI' AL' lo ∧ cF X X' FI FI' AI AI' AL AL' lo) := by
  have hgs := hI.2.2.1
  have g0 := hgs.1
  have hn7 := hgs.2.1
  have hT := hI.2.2.2.1
  obtain ⟨go0, gf1, gf2, gf3, gf4, gf5, gf6, gf7, gf8, gs1, gs2, gs3, gs4, gs5, gs6, gs7, gs8, gpo, -⟩ := h.go
  have gf1' : x_FR X (lo + 4) 1 = some (lo + 5) := gf1
  have gf2' : x_FR X (lo + 4) 2 = some (lo + 6) := gf2
  have gf4' : x_FR X (lo + 4) 4 = some (lo + 8) := gf4
  have gf5' : x_FR X (lo + 4) 5 = some (lo + 9) := gf5
  have gf6' : x_FR X (lo + 4) 6 = some (lo + 10) := gf6
  have gf7' : x_FR X (lo + 4) 7 = some (lo + 11) := gf7
  have gf8' : x_FR X (lo + 4) 8 = some (lo + 12) := gf8
  have gs1' : x_sh X (lo + 5) = some (3, 7) := gs1
  have gs2' : x_sh X (lo + 6) = some (0, 7) := gs2
  have gs4' : x_sh X (lo + 8) = some (0, 7) := gs4
  have gs5' : x_sh X (lo + 9) = some (0, 7) := gs5
  have gs6' : x_sh X (lo + 10) = some (1, 602) := gs6
  have gs7' : x_sh X (lo + 11) = some (0, 602) := gs7
  have gs8' : x_sh X (lo + 12) = some (1, 7) := gs8
  have hgl : ∀ i, i < gN (tG S) → gL (tG S) i < 84 ∧ 1 ≤ eD (gL (tG S) i) := fun i hi => ⟨(hW.2.1.2.1 i hi).1, (hW.2.1.2.1 i hi).2.1⟩
  have eRN : ∀ t, (tRN S t).length = (RT (cLs (tG S)) t).length := fun t => by show (RN (cLs (tG S)) t).length = _; unfold RN; rw [List.length_map]
  have h344 : ∀ t, t < 84 → (RT (cLs (tG S)) t).length ≤ 344 := fun t ht => by
    obtain ⟨S', hS'⟩ := hT
    have := (hS' t ht).2.2.1
    omega
  clear gf1 gf2 gf3 gf4 gf5 gf6 gf7 gf8 gs1 gs2 gs3 gs4 gs5 gs6 gs7 gs8
  have no : ∀ g', fMade S g' i w = (NOl, S) → G V m_Alg_made (d + 2) 32 [some (.ref lo), some (.int g'), some (.int i), some (.int w), none] [] X FI AI AL (fun r X' FI' AI' AL' => r = some (.long (fMade S g' i w).1) ∧ CO X' lo ∧ CIv C E (fMade S g' i w).2 X' FI' AI' AL' lo ∧ cF X X' FI FI' AI AI' AL AL' lo) := by
    intro g' e
    rw [e]
    refine G_ldc2 35 d_Alg_made_32 rfl k_Alg_194 ?_
    refine G_lret d_Alg_made_35 rfl ?_
    exact ⟨rfl, h, hI, cF.rf⟩
  refine G_aload0 1 d_Alg_made_0 rfl ?_
  refine G_iload1 2 d_Alg_made_1 rfl ?_
  refine G_invV1b 5 d_Alg_made_2 rfl e_Alg_248 M_Alg_isGenerator rfl h.sh (Nat.le_of_ble_eq_true rfl) (Nat.le_of_ble_eq_true rfl) rfl (s_isGen h g0 hn7) (fun h2 => G_ifeq1 8 d_Alg_made_5 32 rfl rfl ?_) (fun h2 => G_ifeq0 8 d_Alg_made_5 32 rfl rfl ?_)
  · obtain ⟨g, hg, rfl⟩ := h2
    have qg := bN_t hg (show gN (tG S) < 2 ^ 31 by omega)
    have zg := ni_nI (show g < 2 ^ 31 by omega)
    have arg : x_AR X (lo + 5) g = some (lo + 13 + 2 * g) := (gpo g (by omega)).1
    have pog : PO X (lo + 13 + 2 * g) (lo + 14 + 2 * g) := (gpo g (by omega)).2
    have psg := pog.1
    obtain ⟨w1g, w2g, w3g, w4g, w5g, w6g⟩ := hgs.2.2 g hg
    have w1'g : AI (lo + 6) g = nI (gL (tG S) g) := w1g
    have w2'g : AL (lo + 14 + 2 * g) = gP (tG S) g := by rw [show lo + 14 + 2 * g = lo + 4 + 10 + 2 * g by omega]; exact w2g
    have w4'g : AI (lo + 8) g = nI (hgL (tG S) (g + 1)) := w4g
    have w5'g : AI (lo + 9) g = nI (gK (tG S) g) := w5g
    have k86g : gK (tG S) g ≤ 86 := (hW.2.1.2.1 g hg).2.2.2.2.1
    refine G_iload3 9 d_Alg_made_8 rfl ?_
    refine G_invS1b 12 d_Alg_made_9 rfl e_Alg_269 M_Alg_isStepPart (Nat.le_of_ble_eq_true rfl) (Nat.le_of_ble_eq_true rfl) rfl (s_isStepPart) (fun h9 => G_ifeq1 15 d_Alg_made_12 32 rfl rfl ?_) (fun h9 => G_ifeq0 15 d_Alg_made_12 32 rfl rfl ?_)
    · have q3 := bB_iff.mpr h9
      by_cases hin : isN i (gK (tG S) g)
      · obtain ⟨l, hl, rfl⟩ := hin
        have ql := bN_t hl (show gK (tG S) g < 2 ^ 31 by omega)
        have zl := ni_nI (show l < 2 ^ 31 by omega)
        obtain ⟨e1, e2⟩ := w6g l hl
        have e1' : AL (lo + 10) (g * 86 + l) = gC (tG S) g l := e1
        have e2' : AI (lo + 11) (g * 86 + l) = nI (gR (tG S) g l) := e2
        have hr31 : gR (tG S) g l < 2 ^ 31 := by have := ((hW.2.1.2.1 g hg).2.2.2.2.2.1 l hl).1; omega
        simp only [fMade, qg, zg, q3, ql, zl, Bool.and_self, if_true]
        refine G_iload2 16 d_Alg_made_15 rfl ?_
        first | refine G_ifltD 32 19 d_Alg_made_16 rfl rfl (by omega) (fun h16 => ?_) (fun j h16 => ?_) | refine G_iflt 32 19 d_Alg_made_16 rfl rfl (fun h16 => ?_) (fun h16 => ?_)
        · exact absurd h16 (nI_pos (by omega))
        · refine G_iload2 20 d_Alg_made_19 rfl ?_
          refine G_aload0 21 d_Alg_made_20 rfl ?_
          refine G_getR 24 d_Alg_made_21 rfl f_Alg_27 rfl h.sh h.f2 ?_
          refine G_getR 27 d_Alg_made_24 rfl f_Alg_263 rfl h.s2 gf5' ?_
          refine G_iload1 28 d_Alg_made_27 rfl ?_
          refine G_ialoadv 29 d_Alg_made_28 rfl (by assumption) (ix_nI (by omega) (by omega)) w5'g ?_
          first | refine G_icltN 36 32 d_Alg_made_29 rfl rfl (by omega) (by omega) (fun h29 => ?_) (fun h29 => ?_) | refine G_iclt 36 32 d_Alg_made_29 rfl rfl (fun h29 => ?_) (fun h29 => ?_)
          · refine G_iload1 37 d_Alg_made_36 rfl ?_
            refine G_iload2 38 d_Alg_made_37 rfl ?_
            refine G_invS2d 41 d_Alg_made_38 rfl e_Alg_272 M_Gen_partPlace (Nat.le_of_ble_eq_true rfl) (Nat.le_of_ble_eq_true rfl) rfl (s_partPlace) ?_
            refine G_istore4 43 d_Alg_made_41 rfl (by decide) rfl ?_
            refine G_iload3 44 d_Alg_made_43 rfl ?_
            refine G_ifge 60 47 d_Alg_made_44 rfl rfl (fun h44 => ?_) (fun h44 => ?_)
            · rw [Int32.le_iff_toInt_le, show (0 : Int32).toInt = 0 from rfl] at h44
              rw [if_neg (by omega)]
              obtain ⟨x, hx31, rfl⟩ := nI_of (show ¬ w < 0 by rw [lt0_iff]; omega)
              have hx7 : x < 7 := by
                have := h9.2
                rw [nI_toInt hx31] at this; omega
              rw [ni_nI hx31]
              refine G_aload0 61 d_Alg_made_60 rfl ?_
              refine G_getR 64 d_Alg_made_61 rfl f_Alg_27 rfl h.sh h.f2 ?_
              refine G_getR 67 d_Alg_made_64 rfl f_Alg_278 rfl h.s2 gf7' ?_
              refine G_iload4 69 d_Alg_made_67 rfl ?_
              refine G_ialoadv 70 d_Alg_made_69 rfl (by assumption) (ix_nI (by omega) (by omega)) e2' ?_
              refine G_iload3 71 d_Alg_made_70 rfl ?_
              refine G_invS2d 74 d_Alg_made_71 rfl e_Alg_281 M_Gen_power (Nat.le_of_ble_eq_true rfl) (Nat.le_of_ble_eq_true rfl) rfl (s_power (by omega) (by omega)) ?_
              refine G_i2l 75 d_Alg_made_74 rfl ?_
              refine G_lret d_Alg_made_75 rfl ?_
              exact ⟨rfl, h, hI, cF.rf⟩
            · rw [Int32.le_iff_toInt_le, show (0 : Int32).toInt = 0 from rfl] at h44
              rw [if_pos (by omega)]
              refine G_aload0 48 d_Alg_made_47 rfl ?_
              refine G_getR 51 d_Alg_made_48 rfl f_Alg_27 rfl h.sh h.f2 ?_
              refine G_getR 54 d_Alg_made_51 rfl f_Alg_275 rfl h.s2 gf6' ?_
              refine G_iload4 56 d_Alg_made_54 rfl ?_
              refine G_laloadv 57 d_Alg_made_56 rfl (by assumption) (ix_nI (by omega) (by omega)) e1' ?_
              refine G_goto 75 d_Alg_made_57 rfl ?_
              refine G_lret d_Alg_made_75 rfl ?_
              exact ⟨rfl, h, hI, cF.rf⟩
          · omega
      · have q2 := bN_f hin (show gK (tG S) g < 2 ^ 31 by omega)
        have eF : fMade S (nI g) i w = (NOl, S) := by unfold fMade; rw [zg, q2, Bool.and_false]; rfl
        refine G_iload2 16 d_Alg_made_15 rfl ?_
        first | refine G_ifltD 32 19 d_Alg_made_16 rfl rfl (by omega) (fun h16 => ?_) (fun j h16 => ?_) | refine G_iflt 32 19 d_Alg_made_16 rfl rfl (fun h16 => ?_) (fun h16 => ?_)
        · exact no _ eF
        · obtain ⟨l, hl31, rfl⟩ := nI_of h16
          refine G_iload2 20 d_Alg_made_19 rfl ?_
          refine G_aload0 21 d_Alg_made_20 rfl ?_
          refine G_getR 24 d_Alg_made_21 rfl f_Alg_27 rfl h.sh h.f2 ?_
          refine G_getR 27 d_Alg_made_24 rfl f_Alg_263 rfl h.s2 gf5' ?_
          refine G_iload1 28 d_Alg_made_27 rfl ?_
          refine G_ialoadv 29 d_Alg_made_28 rfl (by assumption) (ix_nI (by omega) (by omega)) w5'g ?_
          first | refine G_icltN 36 32 d_Alg_made_29 rfl rfl (by omega) (by omega) (fun h29 => ?_) (fun h29 => ?_) | refine G_iclt 36 32 d_Alg_made_29 rfl rfl (fun h29 => ?_) (fun h29 => ?_)
          · exact absurd ⟨l, by omega, rfl⟩ hin
          · exact no _ eF
    · have q3 := bB_f h9
      exact no _ (by unfold fMade; rw [q3, Bool.and_false, Bool.false_and]; rfl)
  · have q1 := bN_f h2 (show gN (tG S) < 2 ^ 31 by omega)
    exact no _ (by unfold fMade; rw [q1, Bool.false_and, Bool.false_and]; rfl)
theorem c_rows {V : GV} {d lo C E : Nat} {S : ST} {x y z : Int32} {X : XT} {FI AI : FT} {AL : LT} (h : CO X lo) (hI : CIv C E S X FI AI AL lo) (hW : WS S) : G V m_Alg_rows (d + 2) 0 [some (.ref lo), some (.int x), some (.int y), some (.int z)] [] X FI AI AL (fun r X' FI' AI' AL' => r = some (.int (fRows S x y z).1) ∧ CO X' lo ∧ CIv C E (fRows S x y z).2 X' FI' AI' AL' lo ∧ cF X X' FI FI' AI AI' AL AL' lo) := by
  have hgs := hI.2.2.1
  have g0 := hgs.1
  have hn7 := hgs.2.1
  have hT := hI.2.2.2.1
  obtain ⟨go0, gf1, gf2, gf3, gf4, gf5, gf6, gf7, gf8, gs1, gs2, gs3, gs4, gs5, gs6, gs7, gs8, gpo, -⟩ := h.go
  have gf1' : x_FR X (lo + 4) 1 = some (lo + 5) := gf1
  have gf2' : x_FR X (lo + 4) 2 = some (lo + 6) := gf2
  have gf4' : x_FR X (lo + 4) 4 = some (lo + 8) := gf4
  have gf5' : x_FR X (lo + 4) 5 = some (lo + 9) := gf5
  have gf6' : x_FR X (lo + 4) 6 = some (lo + 10) := gf6
  have gf7' : x_FR X (lo + 4) 7 = some (lo + 11) := gf7
  have gf8' : x_FR X (lo + 4) 8 = some (lo + 12) := gf8
  have gs1' : x_sh X (lo + 5) = some (3, 7) := gs1
  have gs2' : x_sh X (lo + 6) = some (0, 7) := gs2
  have gs4' : x_sh X (lo + 8) = some (0, 7) := gs4
  have gs5' : x_sh X (lo + 9) = some (0, 7) := gs5
  have gs6' : x_sh X (lo + 10) = some (1, 602) := gs6
  have gs7' : x_sh X (lo + 11) = some (0, 602) := gs7
  have gs8' : x_sh X (lo + 12) = some (1, 7) := gs8
  have hgl : ∀ i, i < gN (tG S) → gL (tG S) i < 84 ∧ 1 ≤ eD (gL (tG S) i) := fun i hi => ⟨(hW.2.1.2.1 i hi).1, (hW.2.1.2.1 i hi).2.1⟩
  have eRN : ∀ t, (tRN S t).length = (RT (cLs (tG S)) t).length := fun t => by show (RN (cLs (tG S)) t).length = _; unfold RN; rw [List.length_map]
  have h344 : ∀ t, t < 84 → (RT (cLs (tG S)) t).length ≤ 344 := fun t ht => by
    obtain ⟨S', hS'⟩ := hT
    have := (hS' t ht).2.2.1
    omega
  clear gf1 gf2 gf3 gf4 gf5 gf6 gf7 gf8 gs1 gs2 gs3 gs4 gs5 gs6 gs7 gs8
  refine G_iload1 1 d_Alg_rows_0 rfl ?_
  refine G_iload2 2 d_Alg_rows_1 rfl ?_
  refine G_iload3 3 d_Alg_rows_2 rfl ?_
  refine G_invS3b 6 d_Alg_rows_3 rfl e_Alg_126 M_Terms_isTerm (Nat.le_of_ble_eq_true rfl) (Nat.le_of_ble_eq_true rfl) rfl (s_isTerm) (fun h3 => G_ifne1 9 d_Alg_rows_6 11 rfl rfl ?_) (fun h3 => G_ifne0 9 d_Alg_rows_6 11 rfl rfl ?_)
  · obtain ⟨a, b, c, ht, rfl, rfl, rfl⟩ := h3
    have qt := bT_t ht
    have hp := pl_lt ht
    have za := ni_nI (show a < 2 ^ 31 by omega)
    have zb := ni_nI (show b < 2 ^ 31 by omega)
    have zc := ni_nI (show c < 2 ^ 31 by omega)
    have hca := s_countAt (V := V) (d := d + 1) (FI := FI) (AL := AL) h.to hT hp
    simp only [fRows, qt, za, zb, zc, if_true, eRN]
    refine G_aload0 12 d_Alg_rows_11 rfl ?_
    refine G_getR 15 d_Alg_rows_12 rfl f_Alg_34 rfl h.sh h.f3 ?_
    refine G_iload1 16 d_Alg_rows_15 rfl ?_
    refine G_iload2 17 d_Alg_rows_16 rfl ?_
    refine G_iload3 18 d_Alg_rows_17 rfl ?_
    refine G_invS3d 21 d_Alg_rows_18 rfl e_Alg_152 M_Terms_placeOf (Nat.le_of_ble_eq_true rfl) (Nat.le_of_ble_eq_true rfl) rfl (s_placeOf (by omega)) ?_
    refine G_invV1d 24 d_Alg_rows_21 rfl e_Alg_266 M_Tab_countAt rfl h.s3 (Nat.le_of_ble_eq_true rfl) (Nat.le_of_ble_eq_true rfl) rfl (hca) ?_
    refine G_iret d_Alg_rows_24 rfl ?_
    exact ⟨rfl, h, hI, cF.rf⟩
  · have q1 := bT_f h3
    simp only [fRows, q1, Bool.false_and, Bool.and_false, Bool.false_eq_true, if_false]
    refine G_iconst (-1) 10 d_Alg_rows_9 rfl rfl ?_
    refine G_iret d_Alg_rows_10 rfl ?_
    exact ⟨rfl, h, hI, cF.rf⟩
theorem c_row {V : GV} {d lo C E : Nat} {S : ST} {x y z i g : Int32} {X : XT} {FI AI : FT} {AL : LT} (h : CO X lo) (hI : CIv C E S X FI AI AL lo) (hW : WS S) : G V m_Alg_row (d + 2) 0 [some (.ref lo), some (.int x), some (.int y), some (.int z), some (.int i), some (.int g), none] [] X FI AI AL (fun r X' FI' AI' AL' => r = some (.int (fRow S x y z i g).1) ∧ CO X' lo ∧ CIv C E (fRow S x y z i g).2 X' FI' AI' AL' lo ∧ cF X X' FI FI' AI AI' AL AL' lo) := by
  have hgs := hI.2.2.1
  have g0 := hgs.1
  have hn7 := hgs.2.1
  have hT := hI.2.2.2.1
  obtain ⟨go0, gf1, gf2, gf3, gf4, gf5, gf6, gf7, gf8, gs1, gs2, gs3, gs4, gs5, gs6, gs7, gs8, gpo, -⟩ := h.go
  have gf1' : x_FR X (lo + 4) 1 = some (lo + 5) := gf1
  have gf2' : x_FR X (lo + 4) 2 = some (lo + 6) := gf2
  have gf4' : x_FR X (lo + 4) 4 = some (lo + 8) := gf4
  have gf5' : x_FR X (lo + 4) 5 = some (lo + 9) := gf5
  have gf6' : x_FR X (lo + 4) 6 = some (lo + 10) := gf6
  have gf7' : x_FR X (lo + 4) 7 = some (lo + 11) := gf7
  have gf8' : x_FR X (lo + 4) 8 = some (lo + 12) := gf8
  have gs1' : x_sh X (lo + 5) = some (3, 7) := gs1
  have gs2' : x_sh X (lo + 6) = some (0, 7) := gs2
  have gs4' : x_sh X (lo + 8) = some (0, 7) := gs4
  have gs5' : x_sh X (lo + 9) = some (0, 7) := gs5
  have gs6' : x_sh X (lo + 10) = some (1, 602) := gs6
  have gs7' : x_sh X (lo + 11) = some (0, 602) := gs7
  have gs8' : x_sh X (lo + 12) = some (1, 7) := gs8
  have hgl : ∀ i, i < gN (tG S) → gL (tG S) i < 84 ∧ 1 ≤ eD (gL (tG S) i) := fun i hi => ⟨(hW.2.1.2.1 i hi).1, (hW.2.1.2.1 i hi).2.1⟩
  have eRN : ∀ t, (tRN S t).length = (RT (cLs (tG S)) t).length := fun t => by show (RN (cLs (tG S)) t).length = _; unfold RN; rw [List.length_map]
  have h344 : ∀ t, t < 84 → (RT (cLs (tG S)) t).length ≤ 344 := fun t ht => by
    obtain ⟨S', hS'⟩ := hT
    have := (hS' t ht).2.2.1
    omega
  clear gf1 gf2 gf3 gf4 gf5 gf6 gf7 gf8 gs1 gs2 gs3 gs4 gs5 gs6 gs7 gs8
  refine G_iload1 1 d_Alg_row_0 rfl ?_
  refine G_iload2 2 d_Alg_row_1 rfl ?_
  refine G_iload3 3 d_Alg_row_2 rfl ?_
  refine G_invS3b 6 d_Alg_row_3 rfl e_Alg_126 M_Terms_isTerm (Nat.le_of_ble_eq_true rfl) (Nat.le_of_ble_eq_true rfl) rfl (s_isTerm) (fun h3 => G_ifeq1 9 d_Alg_row_6 18 rfl rfl ?_) (fun h3 => G_ifeq0 9 d_Alg_row_6 18 rfl rfl ?_)
  · obtain ⟨a, b, c, ht, rfl, rfl, rfl⟩ := h3
    have qt := bT_t ht
    have hp := pl_lt ht
    have za := ni_nI (show a < 2 ^ 31 by omega)
    have zb := ni_nI (show b < 2 ^ 31 by omega)
    have zc := ni_nI (show c < 2 ^ 31 by omega)
    have hca := s_countAt (V := V) (d := d + 1) (FI := FI) (AL := AL) h.to hT hp
    have hlr := h344 _ hp
    refine G_aload0 10 d_Alg_row_9 rfl ?_
    refine G_iload5 12 d_Alg_row_10 rfl ?_
    refine G_invV1b 15 d_Alg_row_12 rfl e_Alg_248 M_Alg_isGenerator rfl h.sh (Nat.le_of_ble_eq_true rfl) (Nat.le_of_ble_eq_true rfl) rfl (s_isGen h g0 hn7) (fun h12 => G_ifne1 18 d_Alg_row_15 20 rfl rfl ?_) (fun h12 => G_ifne0 18 d_Alg_row_15 20 rfl rfl ?_)
    · obtain ⟨g, hg, rfl⟩ := h12
      have qg := bN_t hg (show gN (tG S) < 2 ^ 31 by omega)
      have zg := ni_nI (show g < 2 ^ 31 by omega)
      simp only [fRow, qt, za, zb, zc, qg, zg, Bool.and_self, if_true]
      by_cases hin : isN i (tRN S (pl a b c)).length
      · obtain ⟨l, hl, rfl⟩ := hin
        have ql := bN_t hl (show (tRN S (pl a b c)).length < 2 ^ 31 by rw [eRN]; omega)
        have zl := ni_nI (show l < 2 ^ 31 by rw [eRN] at hl; omega)
        rw [eRN] at hl
        rw [ql, if_pos rfl, zl]
        have hg0 : (RT (cLs (tG S)) (pl a b c))[l]? = some (RT (cLs (tG S)) (pl a b c))[l] := List.getElem?_eq_getElem hl
        obtain ⟨o1, o2, o3, o4, o5, o6⟩ := RT_ok hn7 hgl hg0
        have hro := s_rowAt (V := V) (d := d + 1) (FI := FI) (AL := AL) h.to hT hp hg0
        have gd : (tRN S (pl a b c)).getD l 0 = num (RT (cLs (tG S)) (pl a b c))[l] := by
          show (RN (cLs (tG S)) (pl a b c)).getD l 0 = _
          unfold RN
          rw [List.getD_eq_getElem?_getD, List.getElem?_map, hg0]; rfl
        rw [gd]
        have hu31 : num (RT (cLs (tG S)) (pl a b c))[l] < 2 ^ 31 := by omega
        refine G_iload1 21 d_Alg_row_20 rfl ?_
        refine G_iload2 22 d_Alg_row_21 rfl ?_
        refine G_iload3 23 d_Alg_row_22 rfl ?_
        refine G_invS3d 26 d_Alg_row_23 rfl e_Alg_152 M_Terms_placeOf (Nat.le_of_ble_eq_true rfl) (Nat.le_of_ble_eq_true rfl) rfl (s_placeOf (by omega)) ?_
        refine G_istore6 28 d_Alg_row_26 rfl (by decide) rfl ?_
        refine G_iload4 30 d_Alg_row_28 rfl ?_
        first | refine G_ifltD 47 33 d_Alg_row_30 rfl rfl (by omega) (fun h30 => ?_) (fun j h30 => ?_) | refine G_iflt 47 33 d_Alg_row_30 rfl rfl (fun h30 => ?_) (fun h30 => ?_)
        · exact absurd h30 (nI_pos (by omega))
        · refine G_iload4 35 d_Alg_row_33 rfl ?_
          refine G_aload0 36 d_Alg_row_35 rfl ?_
          refine G_getR 39 d_Alg_row_36 rfl f_Alg_34 rfl h.sh h.f3 ?_
          refine G_iload6 41 d_Alg_row_39 rfl ?_
          refine G_invV1d 44 d_Alg_row_41 rfl e_Alg_266 M_Tab_countAt rfl h.s3 (Nat.le_of_ble_eq_true rfl) (Nat.le_of_ble_eq_true rfl) rfl (hca) ?_
          first | refine G_icltN 50 47 d_Alg_row_44 rfl rfl (by omega) (by omega) (fun h44 => ?_) (fun h44 => ?_) | refine G_iclt 50 47 d_Alg_row_44 rfl rfl (fun h44 => ?_) (fun h44 => ?_)
          · refine G_aload0 51 d_Alg_row_50 rfl ?_
            refine G_getR 54 d_Alg_row_51 rfl f_Alg_34 rfl h.sh h.f3 ?_
            refine G_iload6 56 d_Alg_row_54 rfl ?_
            refine G_iload4 58 d_Alg_row_56 rfl ?_
            refine G_invV2d 61 d_Alg_row_58 rfl e_Alg_308 M_Tab_rowAt rfl h.s3 (Nat.le_of_ble_eq_true rfl) (Nat.le_of_ble_eq_true rfl) rfl (hro) ?_
            refine G_iload5 63 d_Alg_row_61 rfl ?_
            refine G_invS2d 66 d_Alg_row_63 rfl e_Alg_281 M_Gen_power (Nat.le_of_ble_eq_true rfl) (Nat.le_of_ble_eq_true rfl) rfl (s_power (by omega) (by omega)) ?_
            refine G_iret d_Alg_row_66 rfl ?_
            exact ⟨rfl, h, hI, cF.rf⟩
          · omega
      · have q2 := bN_f hin (show (tRN S (pl a b c)).length < 2 ^ 31 by rw [eRN]; omega)
        rw [q2, if_neg (by decide)]
        refine G_iload1 21 d_Alg_row_20 rfl ?_
        refine G_iload2 22 d_Alg_row_21 rfl ?_
        refine G_iload3 23 d_Alg_row_22 rfl ?_
        refine G_invS3d 26 d_Alg_row_23 rfl e_Alg_152 M_Terms_placeOf (Nat.le_of_ble_eq_true rfl) (Nat.le_of_ble_eq_true rfl) rfl (s_placeOf (by omega)) ?_
        refine G_istore6 28 d_Alg_row_26 rfl (by decide) rfl ?_
        refine G_iload4 30 d_Alg_row_28 rfl ?_
        first | refine G_ifltD 47 33 d_Alg_row_30 rfl rfl (by omega) (fun h30 => ?_) (fun j h30 => ?_) | refine G_iflt 47 33 d_Alg_row_30 rfl rfl (fun h30 => ?_) (fun h30 => ?_)
        · refine G_bipush (-2) 49 d_Alg_row_47 rfl rfl ?_
          refine G_iret d_Alg_row_49 rfl ?_
          exact ⟨rfl, h, hI, cF.rf⟩
        · obtain ⟨l, hl31, rfl⟩ := nI_of h30
          refine G_iload4 35 d_Alg_row_33 rfl ?_
          refine G_aload0 36 d_Alg_row_35 rfl ?_
          refine G_getR 39 d_Alg_row_36 rfl f_Alg_34 rfl h.sh h.f3 ?_
          refine G_iload6 41 d_Alg_row_39 rfl ?_
          refine G_invV1d 44 d_Alg_row_41 rfl e_Alg_266 M_Tab_countAt rfl h.s3 (Nat.le_of_ble_eq_true rfl) (Nat.le_of_ble_eq_true rfl) rfl (hca) ?_
          first | refine G_icltN 50 47 d_Alg_row_44 rfl rfl (by omega) (by omega) (fun h44 => ?_) (fun h44 => ?_) | refine G_iclt 50 47 d_Alg_row_44 rfl rfl (fun h44 => ?_) (fun h44 => ?_)
          · exact absurd ⟨l, by rw [eRN]; omega, rfl⟩ hin
          · refine G_bipush (-2) 49 d_Alg_row_47 rfl rfl ?_
            refine G_iret d_Alg_row_49 rfl ?_
            exact ⟨rfl, h, hI, cF.rf⟩
    · have q2 := bN_f h12 (show gN (tG S) < 2 ^ 31 by omega)
      simp only [fRow, q2, Bool.false_and, Bool.and_false, Bool.false_eq_true, if_false]
      refine G_iconst (-1) 19 d_Alg_row_18 rfl rfl ?_
      refine G_iret d_Alg_row_19 rfl ?_
      exact ⟨rfl, h, hI, cF.rf⟩
  · have q1 := bT_f h3
    simp only [fRow, q1, Bool.false_and, Bool.and_false, Bool.false_eq_true, if_false]
    refine G_iconst (-1) 19 d_Alg_row_18 rfl rfl ?_
    refine G_iret d_Alg_row_19 rfl ?_
    exact ⟨rfl, h, hI, cF.rf⟩
theorem c_root {V : GV} {d lo C E : Nat} {S : ST} {x y z : Int32} {X : XT} {FI AI : FT} {AL : LT} (h : CO X lo) (hI : CIv C E S X FI AI AL lo) (hW : WS S) : G V m_Alg_root (d + 2) 0 [some (.ref lo), some (.int x), some (.int y), some (.int z), none] [] X FI AI AL (fun r X' FI' AI' AL' => r = some (.int (fRoot S x y z).1) ∧ CO X' lo ∧ CIv C E (fRoot S x y z).2 X' FI' AI' AL' lo ∧ cF X X' FI FI' AI AI' AL AL' lo) := by
  have hgs := hI.2.2.1
  have g0 := hgs.1
  have hn7 := hgs.2.1
  have hT := hI.2.2.2.1
  obtain ⟨go0, gf1, gf2, gf3, gf4, gf5, gf6, gf7, gf8, gs1, gs2, gs3, gs4, gs5, gs6, gs7, gs8, gpo, -⟩ := h.go
  have gf1' : x_FR X (lo + 4) 1 = some (lo + 5) := gf1
  have gf2' : x_FR X (lo + 4) 2 = some (lo + 6) := gf2
  have gf4' : x_FR X (lo + 4) 4 = some (lo + 8) := gf4
  have gf5' : x_FR X (lo + 4) 5 = some (lo + 9) := gf5
  have gf6' : x_FR X (lo + 4) 6 = some (lo + 10) := gf6
  have gf7' : x_FR X (lo + 4) 7 = some (lo + 11) := gf7
  have gf8' : x_FR X (lo + 4) 8 = some (lo + 12) := gf8
  have gs1' : x_sh X (lo + 5) = some (3, 7) := gs1
  have gs2' : x_sh X (lo + 6) = some (0, 7) := gs2
  have gs4' : x_sh X (lo + 8) = some (0, 7) := gs4
  have gs5' : x_sh X (lo + 9) = some (0, 7) := gs5
  have gs6' : x_sh X (lo + 10) = some (1, 602) := gs6
  have gs7' : x_sh X (lo + 11) = some (0, 602) := gs7
  have gs8' : x_sh X (lo + 12) = some (1, 7) := gs8
  have hgl : ∀ i, i < gN (tG S) → gL (tG S) i < 84 ∧ 1 ≤ eD (gL (tG S) i) := fun i hi => ⟨(hW.2.1.2.1 i hi).1, (hW.2.1.2.1 i hi).2.1⟩
  have eRN : ∀ t, (tRN S t).length = (RT (cLs (tG S)) t).length := fun t => by show (RN (cLs (tG S)) t).length = _; unfold RN; rw [List.length_map]
  have h344 : ∀ t, t < 84 → (RT (cLs (tG S)) t).length ≤ 344 := fun t ht => by
    obtain ⟨S', hS'⟩ := hT
    have := (hS' t ht).2.2.1
    omega
  clear gf1 gf2 gf3 gf4 gf5 gf6 gf7 gf8 gs1 gs2 gs3 gs4 gs5 gs6 gs7 gs8
  refine G_iload1 1 d_Alg_root_0 rfl ?_
  refine G_iload2 2 d_Alg_root_1 rfl ?_
  refine G_iload3 3 d_Alg_root_2 rfl ?_
  refine G_invS3b 6 d_Alg_root_3 rfl e_Alg_126 M_Terms_isTerm (Nat.le_of_ble_eq_true rfl) (Nat.le_of_ble_eq_true rfl) rfl (s_isTerm) (fun h3 => G_ifne1 9 d_Alg_root_6 11 rfl rfl ?_) (fun h3 => G_ifne0 9 d_Alg_root_6 11 rfl rfl ?_)
  · obtain ⟨a, b, c, ht, rfl, rfl, rfl⟩ := h3
    have qt := bT_t ht
    have hp := pl_lt ht
    have za := ni_nI (show a < 2 ^ 31 by omega)
    have zb := ni_nI (show b < 2 ^ 31 by omega)
    have zc := ni_nI (show c < 2 ^ 31 by omega)
    simp only [fRoot, qt, za, zb, zc, if_true]
    have nt : ∀ n, n ≤ 7 → (isT (nI (n * a)) (nI (n * b)) (nI (n * c)) ↔ n * a + n * b + n * c ≤ 6) := by
      intro n hn
      have m1 : n * a ≤ 7 * 6 := Nat.mul_le_mul hn (by omega)
      have m2 : n * b ≤ 7 * 6 := Nat.mul_le_mul hn (by omega)
      have m3 : n * c ≤ 7 * 6 := Nat.mul_le_mul hn (by omega)
      constructor
      · rintro ⟨a', b', c', hs, e1, e2, e3⟩
        rw [nI_eq (by omega) (by omega)] at e1 e2 e3
        omega
      · intro hs
        exact ⟨_, _, _, hs, rfl, rfl, rfl⟩
    have ms : ∀ n, n * (a + b + c) = n * a + n * b + n * c := fun n => by rw [Nat.mul_add, Nat.mul_add]
    have D : ∀ m, m ≤ 6 → 6 < (7 - m) * (a + b + c) → G V m_Alg_root (d + 2) 14 [some (.ref lo), some (.int (nI a)), some (.int (nI b)), some (.int (nI c)), some (.int (nI (7 - m)))] [] X FI AI AL (fun r X' FI' AI' AL' => r = some (.int (-2)) ∧ CO X' lo ∧ CIv C E S X' FI' AI' AL' lo ∧ cF X X' FI FI' AI AI' AL AL' lo) := by
      intro m
      induction m with
      | zero =>
        intro _ _
        refine G_iload4 16 d_Alg_root_14 rfl ?_
        refine G_bipushN 6 18 d_Alg_root_16 rfl rfl ?_
        first | refine G_icgtN 73 21 d_Alg_root_18 rfl rfl (by omega) (by omega) (fun h18 => ?_) (fun h18 => ?_) | refine G_icgt 73 21 d_Alg_root_18 rfl rfl (fun h18 => ?_) (fun h18 => ?_)
        · refine G_bipush (-2) 75 d_Alg_root_73 rfl rfl ?_
          refine G_iret d_Alg_root_75 rfl ?_
          exact ⟨rfl, h, hI, cF.rf⟩
        · omega
      | succ m ih =>
        intro hm hs
        have hn := nt (7 - (m + 1)) (by omega)
        have hs2 : 6 < (7 - m) * (a + b + c) := by
          have : (7 - (m + 1)) * (a + b + c) ≤ (7 - m) * (a + b + c) := Nat.mul_le_mul_right _ (by omega)
          omega
        rw [ms] at hs
        refine G_iload4 16 d_Alg_root_14 rfl ?_
        refine G_bipushN 6 18 d_Alg_root_16 rfl rfl ?_
        first | refine G_icgtN 73 21 d_Alg_root_18 rfl rfl (by omega) (by omega) (fun h18 => ?_) (fun h18 => ?_) | refine G_icgt 73 21 d_Alg_root_18 rfl rfl (fun h18 => ?_) (fun h18 => ?_)
        · omega
        · refine G_iload4 23 d_Alg_root_21 rfl ?_
          refine G_iload1 24 d_Alg_root_23 rfl ?_
          first | refine G_imulN 25 d_Alg_root_24 rfl ?_ | refine G_imul 25 d_Alg_root_24 rfl ?_
          refine G_iload4 27 d_Alg_root_25 rfl ?_
          refine G_iload2 28 d_Alg_root_27 rfl ?_
          first | refine G_imulN 29 d_Alg_root_28 rfl ?_ | refine G_imul 29 d_Alg_root_28 rfl ?_
          refine G_iload4 31 d_Alg_root_29 rfl ?_
          refine G_iload3 32 d_Alg_root_31 rfl ?_
          first | refine G_imulN 33 d_Alg_root_32 rfl ?_ | refine G_imul 33 d_Alg_root_32 rfl ?_
          refine G_invS3b 36 d_Alg_root_33 rfl e_Alg_126 M_Terms_isTerm (Nat.le_of_ble_eq_true rfl) (Nat.le_of_ble_eq_true rfl) rfl (s_isTerm) (fun h33 => G_ifeq1 39 d_Alg_root_36 67 rfl rfl ?_) (fun h33 => G_ifeq0 39 d_Alg_root_36 67 rfl rfl ?_)
          · rw [hn] at h33; omega
          · first | refine G_iincN4 70 d_Alg_root_67 rfl (by decide) rfl ?_ | refine G_iinc4 _ 70 d_Alg_root_67 rfl (by decide) rfl rfl ?_
            refine G_goto 14 d_Alg_root_70 rfl ?_
            rw [show 7 - (m + 1) + 1 = 7 - m by omega]
            exact ih (by omega) hs2
    have L : ∀ m, m ≤ 6 → G V m_Alg_root (d + 2) 14 [some (.ref lo), some (.int (nI a)), some (.int (nI b)), some (.int (nI c)), some (.int (nI (7 - m)))] [] X FI AI AL (fun r X' FI' AI' AL' => r = some (.int (rtF S a b c m)) ∧ CO X' lo ∧ CIv C E S X' FI' AI' AL' lo ∧ cF X X' FI FI' AI AI' AL AL' lo) := by
      intro m
      induction m with
      | zero =>
        intro _
        refine G_iload4 16 d_Alg_root_14 rfl ?_
        refine G_bipushN 6 18 d_Alg_root_16 rfl rfl ?_
        first | refine G_icgtN 73 21 d_Alg_root_18 rfl rfl (by omega) (by omega) (fun h18 => ?_) (fun h18 => ?_) | refine G_icgt 73 21 d_Alg_root_18 rfl rfl (fun h18 => ?_) (fun h18 => ?_)
        · refine G_bipush (-2) 75 d_Alg_root_73 rfl rfl ?_
          refine G_iret d_Alg_root_75 rfl ?_
          exact ⟨rfl, h, hI, cF.rf⟩
        · omega
      | succ m ih =>
        intro hm
        have ih := ih (by omega)
        have hn := nt (7 - (m + 1)) (by omega)
        have en : 7 - (m + 1) = 6 - m := by omega
        by_cases hs : (6 - m) * (a + b + c) ≤ 6
        · have hs' := hs
          rw [ms] at hs'
          have hp2 := pl_lt hs'
          have hca := s_countAt (V := V) (d := d + 1) (FI := FI) (AL := AL) h.to hT hp2
          have hlr := h344 _ hp2
          by_cases hc0 : (tRN S (pl ((6 - m) * a) ((6 - m) * b) ((6 - m) * c))).length = 0
          · have e : rtF S a b c (m + 1) = rtF S a b c m := by rw [rtF, if_pos hs, if_pos hc0]
            rw [e]
            rw [eRN] at hc0
            rw [hc0] at hca
            refine G_iload4 16 d_Alg_root_14 rfl ?_
            refine G_bipushN 6 18 d_Alg_root_16 rfl rfl ?_
            first | refine G_icgtN 73 21 d_Alg_root_18 rfl rfl (by omega) (by omega) (fun h18 => ?_) (fun h18 => ?_) | refine G_icgt 73 21 d_Alg_root_18 rfl rfl (fun h18 => ?_) (fun h18 => ?_)
            · omega
            · refine G_iload4 23 d_Alg_root_21 rfl ?_
              refine G_iload1 24 d_Alg_root_23 rfl ?_
              first | refine G_imulN 25 d_Alg_root_24 rfl ?_ | refine G_imul 25 d_Alg_root_24 rfl ?_
              refine G_iload4 27 d_Alg_root_25 rfl ?_
              refine G_iload2 28 d_Alg_root_27 rfl ?_
              first | refine G_imulN 29 d_Alg_root_28 rfl ?_ | refine G_imul 29 d_Alg_root_28 rfl ?_
              refine G_iload4 31 d_Alg_root_29 rfl ?_
              refine G_iload3 32 d_Alg_root_31 rfl ?_
              first | refine G_imulN 33 d_Alg_root_32 rfl ?_ | refine G_imul 33 d_Alg_root_32 rfl ?_
              refine G_invS3b 36 d_Alg_root_33 rfl e_Alg_126 M_Terms_isTerm (Nat.le_of_ble_eq_true rfl) (Nat.le_of_ble_eq_true rfl) rfl (s_isTerm) (fun h33 => G_ifeq1 39 d_Alg_root_36 67 rfl rfl ?_) (fun h33 => G_ifeq0 39 d_Alg_root_36 67 rfl rfl ?_)
              · rw [en]
                refine G_aload0 40 d_Alg_root_39 rfl ?_
                refine G_getR 43 d_Alg_root_40 rfl f_Alg_34 rfl h.sh h.f3 ?_
                refine G_iload4 45 d_Alg_root_43 rfl ?_
                refine G_iload1 46 d_Alg_root_45 rfl ?_
                first | refine G_imulN 47 d_Alg_root_46 rfl ?_ | refine G_imul 47 d_Alg_root_46 rfl ?_
                refine G_iload4 49 d_Alg_root_47 rfl ?_
                refine G_iload2 50 d_Alg_root_49 rfl ?_
                first | refine G_imulN 51 d_Alg_root_50 rfl ?_ | refine G_imul 51 d_Alg_root_50 rfl ?_
                refine G_iload4 53 d_Alg_root_51 rfl ?_
                refine G_iload3 54 d_Alg_root_53 rfl ?_
                first | refine G_imulN 55 d_Alg_root_54 rfl ?_ | refine G_imul 55 d_Alg_root_54 rfl ?_
                refine G_invS3d 58 d_Alg_root_55 rfl e_Alg_152 M_Terms_placeOf (Nat.le_of_ble_eq_true rfl) (Nat.le_of_ble_eq_true rfl) rfl (s_placeOf (by omega)) ?_
                refine G_invV1d 61 d_Alg_root_58 rfl e_Alg_266 M_Tab_countAt rfl h.s3 (Nat.le_of_ble_eq_true rfl) (Nat.le_of_ble_eq_true rfl) rfl (hca) ?_
                refine G_ifle 67 64 d_Alg_root_61 rfl rfl (fun h61 => ?_) (fun h61 => ?_)
                · first | refine G_iincN4 70 d_Alg_root_67 rfl (by decide) rfl ?_ | refine G_iinc4 _ 70 d_Alg_root_67 rfl (by decide) rfl rfl ?_
                  refine G_goto 14 d_Alg_root_70 rfl ?_
                  rw [show 6 - m + 1 = 7 - m by omega]
                  exact ih
                · exact absurd (by decide) h61
              · rw [hn, en] at h33; omega
          · have e : rtF S a b c (m + 1) = nI (6 - m) := by rw [rtF, if_pos hs, if_neg hc0]
            rw [e]
            rw [eRN] at hc0
            refine G_iload4 16 d_Alg_root_14 rfl ?_
            refine G_bipushN 6 18 d_Alg_root_16 rfl rfl ?_
            first | refine G_icgtN 73 21 d_Alg_root_18 rfl rfl (by omega) (by omega) (fun h18 => ?_) (fun h18 => ?_) | refine G_icgt 73 21 d_Alg_root_18 rfl rfl (fun h18 => ?_) (fun h18 => ?_)
            · omega
            · refine G_iload4 23 d_Alg_root_21 rfl ?_
              refine G_iload1 24 d_Alg_root_23 rfl ?_
              first | refine G_imulN 25 d_Alg_root_24 rfl ?_ | refine G_imul 25 d_Alg_root_24 rfl ?_
              refine G_iload4 27 d_Alg_root_25 rfl ?_
              refine G_iload2 28 d_Alg_root_27 rfl ?_
              first | refine G_imulN 29 d_Alg_root_28 rfl ?_ | refine G_imul 29 d_Alg_root_28 rfl ?_
              refine G_iload4 31 d_Alg_root_29 rfl ?_
              refine G_iload3 32 d_Alg_root_31 rfl ?_
              first | refine G_imulN 33 d_Alg_root_32 rfl ?_ | refine G_imul 33 d_Alg_root_32 rfl ?_
              refine G_invS3b 36 d_Alg_root_33 rfl e_Alg_126 M_Terms_isTerm (Nat.le_of_ble_eq_true rfl) (Nat.le_of_ble_eq_true rfl) rfl (s_isTerm) (fun h33 => G_ifeq1 39 d_Alg_root_36 67 rfl rfl ?_) (fun h33 => G_ifeq0 39 d_Alg_root_36 67 rfl rfl ?_)
              · rw [en]
                refine G_aload0 40 d_Alg_root_39 rfl ?_
                refine G_getR 43 d_Alg_root_40 rfl f_Alg_34 rfl h.sh h.f3 ?_
                refine G_iload4 45 d_Alg_root_43 rfl ?_
                refine G_iload1 46 d_Alg_root_45 rfl ?_
                first | refine G_imulN 47 d_Alg_root_46 rfl ?_ | refine G_imul 47 d_Alg_root_46 rfl ?_
                refine G_iload4 49 d_Alg_root_47 rfl ?_
                refine G_iload2 50 d_Alg_root_49 rfl ?_
                first | refine G_imulN 51 d_Alg_root_50 rfl ?_ | refine G_imul 51 d_Alg_root_50 rfl ?_
                refine G_iload4 53 d_Alg_root_51 rfl ?_
                refine G_iload3 54 d_Alg_root_53 rfl ?_
                first | refine G_imulN 55 d_Alg_root_54 rfl ?_ | refine G_imul 55 d_Alg_root_54 rfl ?_
                refine G_invS3d 58 d_Alg_root_55 rfl e_Alg_152 M_Terms_placeOf (Nat.le_of_ble_eq_true rfl) (Nat.le_of_ble_eq_true rfl) rfl (s_placeOf (by omega)) ?_
                refine G_invV1d 61 d_Alg_root_58 rfl e_Alg_266 M_Tab_countAt rfl h.s3 (Nat.le_of_ble_eq_true rfl) (Nat.le_of_ble_eq_true rfl) rfl (hca) ?_
                refine G_ifle 67 64 d_Alg_root_61 rfl rfl (fun h61 => ?_) (fun h61 => ?_)
                · exact absurd h61 (nI_nle (by omega) (by omega))
                · refine G_iload4 66 d_Alg_root_64 rfl ?_
                  refine G_iret d_Alg_root_66 rfl ?_
                  exact ⟨rfl, h, hI, cF.rf⟩
              · rw [hn, en] at h33; omega
        · have e : rtF S a b c (m + 1) = -2 := by rw [rtF, if_neg hs]
          rw [e]
          exact D (m + 1) hm (by rw [en]; omega)
    refine G_iconstN 1 12 d_Alg_root_11 rfl rfl ?_
    refine G_istore4 14 d_Alg_root_12 rfl (by decide) rfl ?_
    exact L 6 (by omega)
  · have q1 := bT_f h3
    simp only [fRoot, q1, Bool.false_and, Bool.and_false, Bool.false_eq_true, if_false]
    refine G_iconst (-1) 10 d_Alg_root_9 rfl rfl ?_
    refine G_iret d_Alg_root_10 rfl ?_
    exact ⟨rfl, h, hI, cF.rf⟩
