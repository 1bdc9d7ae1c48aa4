/-! ===== the class: complete, wouldGrow ===== -/
theorem c_complete {V : GV} {d lo C E : Nat} {S : ST} {x : Int32} {X : XT} {FI AI : FT} {AL : LT} (h : CO X lo) (hI : CIv C E S X FI AI AL lo) (hW : WS S) : G V m_Alg_complete (d + 7) 0 [some (.ref lo), some (.int x)] [] X FI AI AL (fun r X' FI' AI' AL' => r = some (.int (fComplete S x).1) ∧ CO X' lo ∧ CIv C E (fComplete S x).2 X' FI' AI' AL' lo ∧ cF X X' FI FI' AI AI' AL AL' lo) := by
  refine G_iload1 1 d_Alg_complete_0 rfl ?_
  refine G_invS1b 4 d_Alg_complete_1 rfl e_Alg_333 M_Alg_isBound (Nat.le_of_ble_eq_true rfl) (Nat.le_of_ble_eq_true rfl) rfl (s_isBound) (fun h1 => G_ifeq1 7 d_Alg_complete_4 15 rfl rfl ?_) (fun h1 => G_ifeq0 7 d_Alg_complete_4 15 rfl rfl ?_)
  · obtain ⟨e, e1, e6, e31, rfl⟩ := isB_n (lo := 1) (hi := 6) h1
    have q0 : bB (nI e) 1 6 = true := bB_iff.mpr h1
    have z0 := ni_nI e31
    simp only [fComplete, q0, z0, if_true]
    have hc := s_completeTo (V := V) (d := d) h hI hW e1 e6
    refine G_aload0 8 d_Alg_complete_7 rfl ?_
    refine G_iload1 9 d_Alg_complete_8 rfl ?_
    refine G_invV1 12 d_Alg_complete_9 rfl e_Alg_366 M_Alg_completeTo rfl h.sh (Nat.le_of_ble_eq_true rfl) (Nat.le_of_ble_eq_true rfl) rfl (G.conseq (hc) (fun r9 X9 FI9 AI9 AL9 h9 => ?_))
    obtain ⟨a1, a2, a3, a4, a5⟩ := h9
    subst a1
    refine G_goto 16 d_Alg_complete_12 rfl ?_
    refine G_iret d_Alg_complete_16 rfl ?_
    exact ⟨rfl, a2, a3, a4⟩
  · have q0 := bB_f h1
    simp only [fComplete, q0, Bool.false_and, Bool.and_false, Bool.false_eq_true, if_false]
    refine G_iconst (-1) 16 d_Alg_complete_15 rfl rfl ?_
    refine G_iret d_Alg_complete_16 rfl ?_
    exact ⟨rfl, h, hI, cF.rf⟩
theorem CIv.back {C E lo : Nat} {S : ST} {G' : GT} {X : XT} {FI FI' AI AI' : FT} {AL : LT} (hI : CIv C E (stG S G') X FI AI AL lo) (hW : WS (stG S G')) (k1 : ∀ c, c ≠ lo → c ≠ lo + 4 → FI' c = FI c) (k2 : ∀ j, j ≠ 14 → j ≠ 15 → FI' lo j = FI lo j) (k14 : FI' lo 14 = 0) (k15 : FI' lo 15 = 0) (k4 : ∀ c, c < lo + 4 ∨ lo + 35 ≤ c → AI' c = AI c) (hG : CGs (tG S) FI' AI' AL (lo + 4)) (hT : CTb (tG S) AI' lo) (hP : CPr (tG S) X AI' AL lo) : CIv C E S X FI' AI' AL lo ∧ cF X X FI FI' AI AI' AL AL lo := by
  have h := hI.gn (b := true) (Gt' := tG S) (FI' := FI') (AI' := AI') (AL' := AL) hW k1 (fun j _ h2 h3 => k2 j h2 h3) (by rw [if_pos rfl]; exact k2 13 (by omega) (by omega)) k14 k15 k4 (fun _ _ => rfl) hG hT hP
  exact h
theorem c_wouldGrow {V : GV} {d lo C E : Nat} {S : ST} {x w : Int32} {X : XT} {FI AI : FT} {AL : LT} (h : CO X lo) (hI : CIv C E S X FI AI AL lo) (hW : WS S) : G V m_Alg_wouldGrow (d + 7) 0 [some (.ref lo), some (.int x), some (.int w), none, none, none] [] X FI AI AL (fun r X' FI' AI' AL' => r = some (.int (fWould S x w).1) ∧ CO X' lo ∧ CIv C E (fWould S x w).2 X' FI' AI' AL' lo ∧ cF X X' FI FI' AI AI' AL AL' lo) := by
  have g0 := hI.2.2.1.1
  have hn7 := hI.2.2.1.2.1
  have ho := hW.1
  have bd : ∀ x' w' : Int32, (bB x' 1 6 && bN w' 3) = false → G V m_Alg_wouldGrow (d + 7) 16 [some (.ref lo), some (.int x'), some (.int w'), none, none, none] [] X FI AI AL (fun r X' FI' AI' AL' => r = some (.int (fWould S x' w').1) ∧ CO X' lo ∧ CIv C E (fWould S x' w').2 X' FI' AI' AL' lo ∧ cF X X' FI FI' AI AI' AL AL' lo) := by
    intro x' w' e
    have eF : fWould S x' w' = (-1, S) := by unfold fWould; rw [e]; rfl
    rw [eF]
    refine G_iconst (-1) 17 d_Alg_wouldGrow_16 rfl rfl ?_
    refine G_iret d_Alg_wouldGrow_17 rfl ?_
    exact ⟨rfl, h, hI, cF.rf⟩
  refine G_iload1 1 d_Alg_wouldGrow_0 rfl ?_
  refine G_invS1b 4 d_Alg_wouldGrow_1 rfl e_Alg_333 M_Alg_isBound (Nat.le_of_ble_eq_true rfl) (Nat.le_of_ble_eq_true rfl) rfl (s_isBound) (fun h1 => G_ifeq1 7 d_Alg_wouldGrow_4 16 rfl rfl ?_) (fun h1 => G_ifeq0 7 d_Alg_wouldGrow_4 16 rfl rfl ?_)
  · obtain ⟨e, e1, e6, e31, rfl⟩ := isB_n (lo := 1) (hi := 6) h1
    have q0 : bB (nI e) 1 6 = true := bB_iff.mpr h1
    have z0 := ni_nI e31
    refine G_iload2 8 d_Alg_wouldGrow_7 rfl ?_
    first | refine G_ifltD 16 11 d_Alg_wouldGrow_8 rfl rfl (by omega) (fun h8 => ?_) (fun j h8 => ?_) | refine G_iflt 16 11 d_Alg_wouldGrow_8 rfl rfl (fun h8 => ?_) (fun h8 => ?_)
    · exact bd _ _ (by rw [bN_f (fun ⟨j, hj, ej⟩ => by rw [ej, lt0_iff, nI_toInt (by omega)] at h8; omega) (by omega), Bool.and_false])
    · obtain ⟨l, hl31, rfl⟩ := nI_of h8
      refine G_iload2 12 d_Alg_wouldGrow_11 rfl ?_
      refine G_iconstN 2 13 d_Alg_wouldGrow_12 rfl rfl ?_
      first | refine G_icleN 18 16 d_Alg_wouldGrow_13 rfl rfl (by omega) (by omega) (fun h13 => ?_) (fun h13 => ?_) | refine G_icle 18 16 d_Alg_wouldGrow_13 rfl rfl (fun h13 => ?_) (fun h13 => ?_)
      · have hl3 : l < 3 := by omega
        have q2 := bN_t hl3 (show 3 < 2 ^ 31 by omega)
        have z2 := ni_nI hl31
        simp only [fWould, q0, q2, z0, z2, Bool.and_self, if_true]
        have hc := s_completeTo (V := V) (d := d) h hI hW e1 e6
        refine G_aload0 19 d_Alg_wouldGrow_18 rfl ?_
        refine G_getR 22 d_Alg_wouldGrow_19 rfl f_Alg_27 rfl h.sh h.f2 ?_
        refine G_getIv 25 d_Alg_wouldGrow_22 rfl f_Alg_109 rfl h.s2 g0 ?_
        refine G_istore3 26 d_Alg_wouldGrow_25 rfl (by decide) rfl ?_
        refine G_aload0 27 d_Alg_wouldGrow_26 rfl ?_
        refine G_iload1 28 d_Alg_wouldGrow_27 rfl ?_
        refine G_invV1 31 d_Alg_wouldGrow_28 rfl e_Alg_366 M_Alg_completeTo rfl h.sh (Nat.le_of_ble_eq_true rfl) (Nat.le_of_ble_eq_true rfl) rfl (G.conseq (hc) (fun r28 X28 FI28 AI28 AL28 h28 => ?_))
        obtain ⟨a1, a2, a3, a4, a5⟩ := h28
        subst a1
        have hgx := grw_gx (o := tO S) (d := e) 8 (tG S) 0
        have hwg := grw_wg (o := tO S) (d := e) ho 8 (tG S) 0 hW.2.1
        have hW2 : WS (stG S (grw (tO S) e 8 (tG S) 0).2.1) := ws_gx hW hgx hwg
        have g2 : FI28 (lo + 4) 0 = nI (gN (grw (tO S) e 8 (tG S) 0).2.1) := a3.2.2.1.1
        have hn72 : gN (grw (tO S) e 8 (tG S) 0).2.1 ≤ 7 := a3.2.2.1.2.1
        -- what is told
        have tell : ∀ (FK AK : FT) (BK : LT), CO X28 lo → CIv C E S X28 FK AK BK lo → cF X X28 FI FK AI AK AL BK lo → FK lo 17 = nI (grw (tO S) e 8 (tG S) 0).2.2 → G V m_Alg_wouldGrow (d + 7) 60 [some (.ref lo), some (.int (nI e)), some (.int (nI l)), some (.int (nI (gN (tG S)))), some (.int (nI (grw (tO S) e 8 (tG S) 0).1)), some (.int (nI (gN (grw (tO S) e 8 (tG S) 0).2.1)))] [] X28 FK AK BK (fun r X' FI' AI' AL' => r = some (.int (nI (if l = 0 then gN (grw (tO S) e 8 (tG S) 0).2.1 else if l = 1 then (grw (tO S) e 8 (tG S) 0).1 else (grw (tO S) e 8 (tG S) 0).2.2))) ∧ CO X' lo ∧ CIv C E S X' FI' AI' AL' lo ∧ cF X X' FI FI' AI AI' AL AL' lo) := by
          intro FK AK BK t1 t2 t3 t4
          have l3 : l = 0 ∨ l = 1 ∨ l = 2 := by omega
          rcases l3 with rfl | rfl | rfl
          · refine G_iload2 61 d_Alg_wouldGrow_60 rfl ?_
            refine G_ifne 69 64 d_Alg_wouldGrow_61 rfl rfl (fun h61 => ?_) (fun h61 => ?_)
            · exact absurd rfl h61
            · refine G_iload5 66 d_Alg_wouldGrow_64 rfl ?_
              refine G_goto 83 d_Alg_wouldGrow_66 rfl ?_
              refine G_iret d_Alg_wouldGrow_83 rfl ?_
              exact ⟨rfl, t1, t2, t3⟩
          · refine G_iload2 61 d_Alg_wouldGrow_60 rfl ?_
            refine G_ifne 69 64 d_Alg_wouldGrow_61 rfl rfl (fun h61 => ?_) (fun h61 => ?_)
            · refine G_iload2 70 d_Alg_wouldGrow_69 rfl ?_
              refine G_iconstN 1 71 d_Alg_wouldGrow_70 rfl rfl ?_
              first | refine G_icneN 79 74 d_Alg_wouldGrow_71 rfl rfl (by omega) (by omega) (fun h71 => ?_) (fun h71 => ?_) | refine G_icne 79 74 d_Alg_wouldGrow_71 rfl rfl (fun h71 => ?_) (fun h71 => ?_)
              · exact absurd rfl h71
              · refine G_iload4 76 d_Alg_wouldGrow_74 rfl ?_
                refine G_goto 83 d_Alg_wouldGrow_76 rfl ?_
                refine G_iret d_Alg_wouldGrow_83 rfl ?_
                exact ⟨rfl, t1, t2, t3⟩
            · exact absurd h61 (by decide)
          · refine G_iload2 61 d_Alg_wouldGrow_60 rfl ?_
            refine G_ifne 69 64 d_Alg_wouldGrow_61 rfl rfl (fun h61 => ?_) (fun h61 => ?_)
            · refine G_iload2 70 d_Alg_wouldGrow_69 rfl ?_
              refine G_iconstN 1 71 d_Alg_wouldGrow_70 rfl rfl ?_
              first | refine G_icneN 79 74 d_Alg_wouldGrow_71 rfl rfl (by omega) (by omega) (fun h71 => ?_) (fun h71 => ?_) | refine G_icne 79 74 d_Alg_wouldGrow_71 rfl rfl (fun h71 => ?_) (fun h71 => ?_)
              · refine G_aload0 80 d_Alg_wouldGrow_79 rfl ?_
                refine G_getIv 83 d_Alg_wouldGrow_80 rfl f_Alg_100 rfl t1.sh t4 ?_
                refine G_iret d_Alg_wouldGrow_83 rfl ?_
                exact ⟨rfl, t1, t2, t3⟩
              · omega
            · exact absurd h61 (by decide)
        refine G_istore4 33 d_Alg_wouldGrow_31 rfl (by decide) rfl ?_
        refine G_aload0 34 d_Alg_wouldGrow_33 rfl ?_
        refine G_getR 37 d_Alg_wouldGrow_34 rfl f_Alg_27 rfl a2.sh a2.f2 ?_
        refine G_getIv 40 d_Alg_wouldGrow_37 rfl f_Alg_109 rfl a2.s2 g2 ?_
        refine G_istore5 42 d_Alg_wouldGrow_40 rfl (by decide) rfl ?_
        refine G_iload5 44 d_Alg_wouldGrow_42 rfl ?_
        refine G_iload3 45 d_Alg_wouldGrow_44 rfl ?_
        first | refine G_iceqN 60 48 d_Alg_wouldGrow_45 rfl rfl (by omega) (by omega) (fun h45 => ?_) (fun h45 => ?_) | refine G_iceq 60 48 d_Alg_wouldGrow_45 rfl rfl (fun h45 => ?_) (fun h45 => ?_)
        · have eG := grw_eq (o := tO S) (d := e) 8 (tG S) 0 h45
          have a3' : CIv C E S X28 FI28 AI28 AL28 lo := by
            have : stG S (grw (tO S) e 8 (tG S) 0).2.1 = S := by rw [eG]; rfl
            rw [this] at a3; exact a3
          exact tell _ _ _ a2 a3' a4 a5
        · have hcgs := a3.2.2.1
          have hle : gN (tG S) ≤ gN (grw (tO S) e 8 (tG S) 0).2.1 := hgx.1
          have hG1 : CGs (tG S) (u2 FI28 (lo + 4) 0 (nI (gN (tG S)))) AI28 AL28 (lo + 4) := by
            refine ⟨u2_at _ _ _ _, hn7, fun i hi => ?_⟩
            have hi2 : i < gN (grw (tO S) e 8 (tG S) 0).2.1 := Nat.lt_of_lt_of_le hi hle
            obtain ⟨y1, y2, y3, y4, y5, y6⟩ := hcgs.2.2 i hi2
            obtain ⟨x1, x2, x3, x4, x5⟩ := hgx.2 i hi
            have y1' : AI28 (lo + 4 + 2) i = nI (gL (grw (tO S) e 8 (tG S) 0).2.1 i) := y1
            have y2' : AL28 (lo + 4 + 10 + 2 * i) = gP (grw (tO S) e 8 (tG S) 0).2.1 i := y2
            have y3' : AL28 (lo + 4 + 3) i = norm (gP (grw (tO S) e 8 (tG S) 0).2.1 i) := y3
            have y4' : AI28 (lo + 4 + 4) i = nI (hgL (grw (tO S) e 8 (tG S) 0).2.1 (i + 1)) := y4
            have y5' : AI28 (lo + 4 + 5) i = nI (gK (grw (tO S) e 8 (tG S) 0).2.1 i) := y5
            have y6' : ∀ j, j < gK (grw (tO S) e 8 (tG S) 0).2.1 i → AL28 (lo + 4 + 6) (i * 86 + j) = gC (grw (tO S) e 8 (tG S) 0).2.1 i j ∧ AI28 (lo + 4 + 7) (i * 86 + j) = nI (gR (grw (tO S) e 8 (tG S) 0).2.1 i j) := y6
            rw [x1] at y1'
            rw [x2] at y2' y3'
            rw [hgL_c hi (fun j hj => ⟨(hgx.2 j hj).2.2.1, (hgx.2 j hj).2.2.2.2⟩)] at y4'
            rw [x3] at y5' y6'
            rw [x4, x5] at y6'
            exact ⟨y1', y2', y3', y4', y5', y6'⟩
          have hgc := s_genChanged (V := V) (d := d + 2) a2 hG1 a3.2.2.2.2.1 (fun i hi => ⟨(hW.2.1.2.1 i hi).1, (hW.2.1.2.1 i hi).2.1⟩) hW.2.1.2.2
          refine G_aload0 49 d_Alg_wouldGrow_48 rfl ?_
          refine G_getR 52 d_Alg_wouldGrow_49 rfl f_Alg_27 rfl a2.sh a2.f2 ?_
          refine G_iload3 53 d_Alg_wouldGrow_52 rfl ?_
          refine G_putI 56 d_Alg_wouldGrow_53 rfl f_Alg_109 rfl (by intro C T N h; cases h; rfl) a2.s2 rfl rfl ?_
          refine G_aload0 57 d_Alg_wouldGrow_56 rfl ?_
          refine G_invV0 60 d_Alg_wouldGrow_57 rfl e_Alg_245 M_Alg_generatorsChanged rfl a2.sh (Nat.le_of_ble_eq_true rfl) (Nat.le_of_ble_eq_true rfl) rfl (G.conseq (hgc) (fun r57 X57 FI57 AI57 AL57 h57 => ?_))
          obtain ⟨b1, b2, b3, b4, b5, b6, b7⟩ := h57
          replace b2 := b2.symm
          replace b4 := b4.symm
          subst b1 b2 b3 b4
          obtain ⟨r1, r2⟩ := a3.back (FI' := u2 (u2 (u2 FI28 (lo + 4) 0 (nI (gN (tG S)))) lo 14 (nI 0)) lo 15 (nI 0)) (AI' := AI57) hW2 (fun c h1 h2 => by rw [u2_off _ _ _ h1, u2_off _ _ _ h1, u2_off _ _ _ h2]) (fun j h1 h2 => by rw [u2_ix _ _ h2, u2_ix _ _ h1, u2_ne _ _ _ _ (by omega)]) (by rw [u2_ix _ _ (by omega), u2_at]; rfl) (by rw [u2_at]; rfl) (fun c hc => b5 c (by omega)) (hG1.tr (by rw [u2_off _ _ _ (show lo + 4 ≠ lo by omega), u2_off _ _ _ (show lo + 4 ≠ lo by omega)]) (fun c _ _ => b5 c (by omega)) (fun _ _ _ => rfl)) b6 b7
          exact tell _ _ _ a2 r1 (a4.tr r2) (by rw [u2_ix _ _ (by omega), u2_ix _ _ (by omega), u2_ne _ _ _ _ (by omega)]; exact a5)
      · exact bd _ _ (by rw [bN_f (fun ⟨j, hj, ej⟩ => by rw [nI_eq hl31 (by omega)] at ej; omega) (by omega), Bool.and_false])
  · exact bd _ _ (by rw [bB_f h1, Bool.false_and])
