/-! ===== the class: its grid is built and read ===== -/
theorem laM_l {Gt : GT} {g : Nat} : (fun j => if j = 3 + g then (1 : Int64) else if j = 2 then (nI (ex (gL Gt g) 2)).toInt64 else if j = 1 then (nI (ex (gL Gt g) 1)).toInt64 else if j = 0 then (nI (ex (gL Gt g) 0)).toInt64 else 0) = laM Gt g := by
  funext j
  unfold laM
  by_cases h : j < 3
  · rw [if_pos h, if_neg (by omega)]
    have : j = 0 ∨ j = 1 ∨ j = 2 := by omega
    rcases this with rfl | rfl | rfl <;> simp
  · rw [if_neg h, if_neg (show ¬ j = 2 by omega), if_neg (show ¬ j = 1 by omega), if_neg (show ¬ j = 0 by omega)]
    by_cases e : j = 3 + g
    · rw [if_pos e, if_pos (by omega)]
    · rw [if_neg e, if_neg (by omega)]
theorem s_latBuild {V : GV} {d lo : Nat} {Gt : GT} {X : XT} {FI AI : FT} {AL : LT} (h : CO X lo) (hG : CGs Gt FI AI AL (lo + 4)) (hl : ∀ i, i < gN Gt → gL Gt i < 84) : G V m_Lat_build (d + 2) 0 [some (.ref (lo + 41)), some (.ref (lo + 4)), none, none] [] X FI AI AL (fun r X' FI' AI' AL' => r = none ∧ X' = X ∧ FI' = FI ∧ AI' = AI ∧ ∃ N, AL' = lyB AL (lo + 41) (cgF Gt) N) := by
  have hla := h.la
  obtain ⟨o1, o2, o3, o4, o5, o6⟩ := id hla
  have g1 := h.go.1
  have gf2 := h.go.2.2.1
  have gs2 := h.go.2.2.2.2.2.2.2.2.2.2.1
  have gf2' : x_FR X (lo + 4) 2 = some (lo + 6) := gf2
  have gs2' : x_sh X (lo + 6) = some (0, 7) := gs2
  have hn7 := hG.2.1
  have g0 := hG.1
  have L2 : ∀ g, g ≤ gN Gt → ∀ (N : Nat → Int64) (l3 : Option Value), G V m_Lat_build (d + 2) 26 [some (.ref (lo + 41)), some (.ref (lo + 4)), some (.int (nI g)), l3] [] X FI AI (lyB AL (lo + 41) (cgI Gt g) N) (fun r X' FI' AI' AL' => r = none ∧ X' = X ∧ FI' = FI ∧ AI' = AI ∧ ∃ N, AL' = lyB AL (lo + 41) (cgF Gt) N) := by
    refine upto ?_ ?_
    · intro N l3
      refine G_iload2 27 d_Lat_build_26 rfl ?_
      refine G_aload1 28 d_Lat_build_27 rfl ?_
      refine G_getIv 31 d_Lat_build_28 rfl f_Lat_26 rfl (by assumption) g0 ?_
      first | refine G_icgeN 95 34 d_Lat_build_31 rfl rfl (by omega) (by omega) (fun h31 => ?_) (fun h31 => ?_) | refine G_icge 95 34 d_Lat_build_31 rfl rfl (fun h31 => ?_) (fun h31 => ?_)
      · refine G_vret d_Lat_build_95 rfl ?_
        exact ⟨rfl, rfl, rfl, rfl, N, rfl⟩
      · omega
    · intro g hg ih N l3
      have e1 : AI (lo + 6) g = nI (gL Gt g) := (hG.2.2 g hg).1
      have h84 := hl g hg
      have hf := s_fillL (V := V) (d := d + 1) (x := 0) (FI := FI) (AI := AI) (AL := lyB AL (lo + 41) (cgI Gt g) N) o5 (by omega)
      rw [lyB_sn] at hf
      have hin := s_latIns (V := V) (d := d) (B := cgI Gt g) (N := laM Gt g) (FI := FI) (AI := AI) (AL := AL) hla
      have hrd := s_latRed (V := V) (d := d) (B := (inF 10 (cgI Gt g, laM Gt g)).1) (N := (inF 10 (cgI Gt g, laM Gt g)).2) (FI := FI) (AI := AI) (AL := AL) hla
      have ew : ∀ f v i, u2 (lyB AL (lo + 41) (cgI Gt g) f) (lo + 41 + 12) i v = lyB AL (lo + 41) (cgI Gt g) (fun j => if j = i then v else f j) := by
        intro f v i
        have := u2_sr (lyB AL (lo + 41) (cgI Gt g) f) (lo + 41 + 12) i f v
        rw [lyB_sn, lyB_sn] at this
        exact this
      refine G_iload2 27 d_Lat_build_26 rfl ?_
      refine G_aload1 28 d_Lat_build_27 rfl ?_
      refine G_getIv 31 d_Lat_build_28 rfl f_Lat_26 rfl (by assumption) g0 ?_
      first | refine G_icgeN 95 34 d_Lat_build_31 rfl rfl (by omega) (by omega) (fun h31 => ?_) (fun h31 => ?_) | refine G_icge 95 34 d_Lat_build_31 rfl rfl (fun h31 => ?_) (fun h31 => ?_)
      · omega
      · refine G_aload0 35 d_Lat_build_34 rfl ?_
        refine G_getR 38 d_Lat_build_35 rfl f_Lat_16 rfl (by assumption) (by assumption) ?_
        refine G_lconst 0 39 d_Lat_build_38 rfl rfl ?_
        refine G_invS2v 42 d_Lat_build_39 rfl e_Lat_20 M_Arr_fill_AJJV (Nat.le_of_ble_eq_true rfl) (Nat.le_of_ble_eq_true rfl) rfl (hf) ?_
        refine G_iconstN 0 43 d_Lat_build_42 rfl rfl ?_
        refine G_istore3 44 d_Lat_build_43 rfl (by decide) rfl ?_
        refine G_iload3 45 d_Lat_build_44 rfl ?_
        refine G_iconstN 3 46 d_Lat_build_45 rfl rfl ?_
        first | refine G_icgeN 72 49 d_Lat_build_46 rfl rfl (by omega) (by omega) (fun h46 => ?_) (fun h46 => ?_) | refine G_icge 72 49 d_Lat_build_46 rfl rfl (fun h46 => ?_) (fun h46 => ?_)
        · omega
        · refine G_aload0 50 d_Lat_build_49 rfl ?_
          refine G_getR 53 d_Lat_build_50 rfl f_Lat_16 rfl (by assumption) (by assumption) ?_
          refine G_iload3 54 d_Lat_build_53 rfl ?_
          refine G_aload1 55 d_Lat_build_54 rfl ?_
          refine G_getR 58 d_Lat_build_55 rfl f_Lat_30 rfl (by assumption) gf2' ?_
          refine G_iload2 59 d_Lat_build_58 rfl ?_
          refine G_ialoadv 60 d_Lat_build_59 rfl gs2' (ix_nI (by omega) (by omega)) e1 ?_
          refine G_iload3 61 d_Lat_build_60 rfl ?_
          refine G_invS2d 64 d_Lat_build_61 rfl e_Lat_34 M_Terms_exponent (Nat.le_of_ble_eq_true rfl) (Nat.le_of_ble_eq_true rfl) rfl (s_exponent (by omega) (by omega)) ?_
          refine G_i2l 65 d_Lat_build_64 rfl ?_
          refine G_lastore 66 d_Lat_build_65 rfl (by assumption) (ix_nI (by omega) (by omega)) ?_
          first | refine G_iincN3 69 d_Lat_build_66 rfl (by decide) rfl ?_ | refine G_iinc3 _ 69 d_Lat_build_66 rfl (by decide) rfl rfl ?_
          refine G_goto 44 d_Lat_build_69 rfl ?_
          refine G_iload3 45 d_Lat_build_44 rfl ?_
          refine G_iconstN 3 46 d_Lat_build_45 rfl rfl ?_
          first | refine G_icgeN 72 49 d_Lat_build_46 rfl rfl (by omega) (by omega) (fun h46 => ?_) (fun h46 => ?_) | refine G_icge 72 49 d_Lat_build_46 rfl rfl (fun h46 => ?_) (fun h46 => ?_)
          · omega
          · refine G_aload0 50 d_Lat_build_49 rfl ?_
            refine G_getR 53 d_Lat_build_50 rfl f_Lat_16 rfl (by assumption) (by assumption) ?_
            refine G_iload3 54 d_Lat_build_53 rfl ?_
            refine G_aload1 55 d_Lat_build_54 rfl ?_
            refine G_getR 58 d_Lat_build_55 rfl f_Lat_30 rfl (by assumption) gf2' ?_
            refine G_iload2 59 d_Lat_build_58 rfl ?_
            refine G_ialoadv 60 d_Lat_build_59 rfl gs2' (ix_nI (by omega) (by omega)) e1 ?_
            refine G_iload3 61 d_Lat_build_60 rfl ?_
            refine G_invS2d 64 d_Lat_build_61 rfl e_Lat_34 M_Terms_exponent (Nat.le_of_ble_eq_true rfl) (Nat.le_of_ble_eq_true rfl) rfl (s_exponent (by omega) (by omega)) ?_
            refine G_i2l 65 d_Lat_build_64 rfl ?_
            refine G_lastore 66 d_Lat_build_65 rfl (by assumption) (ix_nI (by omega) (by omega)) ?_
            first | refine G_iincN3 69 d_Lat_build_66 rfl (by decide) rfl ?_ | refine G_iinc3 _ 69 d_Lat_build_66 rfl (by decide) rfl rfl ?_
            refine G_goto 44 d_Lat_build_69 rfl ?_
            refine G_iload3 45 d_Lat_build_44 rfl ?_
            refine G_iconstN 3 46 d_Lat_build_45 rfl rfl ?_
            first | refine G_icgeN 72 49 d_Lat_build_46 rfl rfl (by omega) (by omega) (fun h46 => ?_) (fun h46 => ?_) | refine G_icge 72 49 d_Lat_build_46 rfl rfl (fun h46 => ?_) (fun h46 => ?_)
            · omega
            · refine G_aload0 50 d_Lat_build_49 rfl ?_
              refine G_getR 53 d_Lat_build_50 rfl f_Lat_16 rfl (by assumption) (by assumption) ?_
              refine G_iload3 54 d_Lat_build_53 rfl ?_
              refine G_aload1 55 d_Lat_build_54 rfl ?_
              refine G_getR 58 d_Lat_build_55 rfl f_Lat_30 rfl (by assumption) gf2' ?_
              refine G_iload2 59 d_Lat_build_58 rfl ?_
              refine G_ialoadv 60 d_Lat_build_59 rfl gs2' (ix_nI (by omega) (by omega)) e1 ?_
              refine G_iload3 61 d_Lat_build_60 rfl ?_
              refine G_invS2d 64 d_Lat_build_61 rfl e_Lat_34 M_Terms_exponent (Nat.le_of_ble_eq_true rfl) (Nat.le_of_ble_eq_true rfl) rfl (s_exponent (by omega) (by omega)) ?_
              refine G_i2l 65 d_Lat_build_64 rfl ?_
              refine G_lastore 66 d_Lat_build_65 rfl (by assumption) (ix_nI (by omega) (by omega)) ?_
              first | refine G_iincN3 69 d_Lat_build_66 rfl (by decide) rfl ?_ | refine G_iinc3 _ 69 d_Lat_build_66 rfl (by decide) rfl rfl ?_
              refine G_goto 44 d_Lat_build_69 rfl ?_
              refine G_iload3 45 d_Lat_build_44 rfl ?_
              refine G_iconstN 3 46 d_Lat_build_45 rfl rfl ?_
              first | refine G_icgeN 72 49 d_Lat_build_46 rfl rfl (by omega) (by omega) (fun h46 => ?_) (fun h46 => ?_) | refine G_icge 72 49 d_Lat_build_46 rfl rfl (fun h46 => ?_) (fun h46 => ?_)
              · refine G_aload0 73 d_Lat_build_72 rfl ?_
                refine G_getR 76 d_Lat_build_73 rfl f_Lat_16 rfl (by assumption) (by assumption) ?_
                refine G_iconstN 3 77 d_Lat_build_76 rfl rfl ?_
                refine G_iload2 78 d_Lat_build_77 rfl ?_
                first | refine G_iaddN 79 d_Lat_build_78 rfl ?_ | refine G_iadd 79 d_Lat_build_78 rfl ?_
                refine G_lconst 1 80 d_Lat_build_79 rfl rfl ?_
                refine G_lastore 81 d_Lat_build_80 rfl (by assumption) (ix_nI (by omega) (by omega)) ?_
                rw [ew, ew, ew, ew, laM_l]
                refine G_aload0 82 d_Lat_build_81 rfl ?_
                refine G_invV0v 85 d_Lat_build_82 rfl e_Lat_40 M_Lat_insertNext rfl (by assumption) (Nat.le_of_ble_eq_true rfl) (Nat.le_of_ble_eq_true rfl) rfl (hin) ?_
                refine G_aload0 86 d_Lat_build_85 rfl ?_
                refine G_invV0v 89 d_Lat_build_86 rfl e_Lat_43 M_Lat_reduceAll rfl (by assumption) (Nat.le_of_ble_eq_true rfl) (Nat.le_of_ble_eq_true rfl) rfl (hrd) ?_
                first | refine G_iincN2 92 d_Lat_build_89 rfl (by decide) rfl ?_ | refine G_iinc2 _ 92 d_Lat_build_89 rfl (by decide) rfl rfl ?_
                refine G_goto 26 d_Lat_build_92 rfl ?_
                exact ih _ _
              · omega
  have L1 : ∀ c, c ≤ 10 → ∀ B : LM, (∀ q, q < c → B q = fun _ => 0) → G V m_Lat_build (d + 2) 2 [some (.ref (lo + 41)), some (.ref (lo + 4)), some (.int (nI c)), none] [] X FI AI (lyB AL (lo + 41) B (AL (lo + 41 + 12))) (fun r X' FI' AI' AL' => r = none ∧ X' = X ∧ FI' = FI ∧ AI' = AI ∧ ∃ N, AL' = lyB AL (lo + 41) (cgF Gt) N) := by
    refine upto ?_ ?_
    · intro B hB
      have eB : lyB AL (lo + 41) B (AL (lo + 41 + 12)) = lyB AL (lo + 41) (cgI Gt 0) (AL (lo + 41 + 12)) := by
        funext a
        unfold lyB
        by_cases q : lo + 41 + 2 ≤ a ∧ a < lo + 41 + 12
        · rw [if_pos q, if_pos q, hB _ (by omega)]; rfl
        · rw [if_neg q, if_neg q]
      rw [eB]
      refine G_iload2 3 d_Lat_build_2 rfl ?_
      refine G_bipushN 10 5 d_Lat_build_3 rfl rfl ?_
      first | refine G_icgeN 24 8 d_Lat_build_5 rfl rfl (by omega) (by omega) (fun h5 => ?_) (fun h5 => ?_) | refine G_icge 24 8 d_Lat_build_5 rfl rfl (fun h5 => ?_) (fun h5 => ?_)
      · refine G_iconstN 0 25 d_Lat_build_24 rfl rfl ?_
        refine G_istore2 26 d_Lat_build_25 rfl (by decide) rfl ?_
        exact L2 0 (Nat.zero_le _) _ _
      · omega
    · intro c hc ih B hB
      obtain ⟨ac, sc⟩ := o6 c hc
      have hf := s_fillL (V := V) (d := d + 1) (x := 0) (FI := FI) (AI := AI) (AL := lyB AL (lo + 41) B (AL (lo + 41 + 12))) sc (by omega)
      rw [lyB_sr hc] at hf
      refine G_iload2 3 d_Lat_build_2 rfl ?_
      refine G_bipushN 10 5 d_Lat_build_3 rfl rfl ?_
      first | refine G_icgeN 24 8 d_Lat_build_5 rfl rfl (by omega) (by omega) (fun h5 => ?_) (fun h5 => ?_) | refine G_icge 24 8 d_Lat_build_5 rfl rfl (fun h5 => ?_) (fun h5 => ?_)
      · omega
      · refine G_aload0 9 d_Lat_build_8 rfl ?_
        refine G_getR 12 d_Lat_build_9 rfl f_Lat_13 rfl (by assumption) (by assumption) ?_
        refine G_iload2 13 d_Lat_build_12 rfl ?_
        refine G_aaload 14 d_Lat_build_13 rfl (by assumption) (by decide) (by decide) (ix_nI (by omega) (by omega)) (by assumption) ?_
        refine G_lconst 0 15 d_Lat_build_14 rfl rfl ?_
        refine G_invS2v 18 d_Lat_build_15 rfl e_Lat_20 M_Arr_fill_AJJV (Nat.le_of_ble_eq_true rfl) (Nat.le_of_ble_eq_true rfl) rfl (hf) ?_
        first | refine G_iincN2 21 d_Lat_build_18 rfl (by decide) rfl ?_ | refine G_iinc2 _ 21 d_Lat_build_18 rfl (by decide) rfl rfl ?_
        refine G_goto 2 d_Lat_build_21 rfl ?_
        refine ih _ (fun q hq => ?_)
        by_cases e : q = c
        · subst e; rw [upn_at]
        · rw [upn_ne _ _ e]; exact hB q (by omega)
  have L0 := L1 0 (Nat.zero_le _) (fun c => AL (lo + 41 + 2 + c)) (fun q hq => by omega)
  rw [lyB_i] at L0
  refine G_iconstN 0 1 d_Lat_build_0 rfl rfl ?_
  refine G_istore2 2 d_Lat_build_1 rfl (by decide) rfl ?_
  exact L0
theorem CIv.gr {C E lo : Nat} {S : ST} {X : XT} {FI FI' AI : FT} {AL AL' : LT} (hI : CIv C E S X FI AI AL lo) (hW : WS S) (k1 : ∀ c j, ¬ (c = lo ∧ j = 15) → FI' c j = FI c j) (k2 : ∀ c, c < lo + 43 ∨ lo + 53 < c → AL' c = AL c) (hg : CGr (tG S) FI' AL' lo) : CIv C E S X FI' AI AL' lo ∧ cF X X FI FI' AI AI AL AL' lo := by
  obtain ⟨a1, a2, a3, a4, a5, a6, a7, a8, a9, a10, a11, a12⟩ := hI
  have k3 : ∀ c, c ≠ lo → FI' c = FI c := fun c hc => funext fun j => k1 c j (by omega)
  exact ⟨⟨fun s hs => by rw [k2 _ (by omega)]; exact a1 s hs, a2.tr (k3 _ (by omega)) rfl, a3.tr (k3 _ (by omega)) (fun _ _ _ => rfl) (fun c _ _ => k2 c (by omega)), a4, a5.tr rfl (fun c _ => k2 c (by omega)), a6.tr (k1 _ _ (by omega)) rfl rfl rfl, hg, a8.tr (fun c _ _ => k3 c (by omega)) (fun _ _ _ => rfl), a9.tr hW.2.2.2.2.2.1.1 (k1 _ _ (by omega)) (fun c _ _ => k3 c (by omega)) (fun c _ _ => k2 c (by omega)), a10.tr (k1 _ _ (by omega)) (fun c _ _ => k3 c (by omega)) (fun _ _ _ => rfl) (fun c _ _ => k2 c (by omega)), a11.tr (fun c _ => k3 c (by omega)) (fun _ _ => rfl) (fun c _ => k2 c (by omega)), a12⟩, cF.cl (fun c hc => k3 c (by omega)) (fun _ _ => rfl) (fun c hc => k2 c (by omega))⟩
def GRs (S : ST) (AL : LT) (lo : Nat) : Prop := ∀ c j, c < 10 → j < 10 → AL (lo + 41 + 2 + c) j = cgF (tG S) c j
theorem s_gridNow {V : GV} {d lo C E : Nat} {S : ST} {X : XT} {FI AI : FT} {AL : LT} (h : CO X lo) (hI : CIv C E S X FI AI AL lo) (hW : WS S) : G V m_Alg_gridNow (d + 3) 0 [some (.ref lo)] [] X FI AI AL (fun r X' FI' AI' AL' => r = some (.ref (lo + 41)) ∧ X' = X ∧ AI' = AI ∧ CIv C E S X FI' AI AL' lo ∧ cF X X FI FI' AI AI AL AL' lo ∧ GRs S AL' lo ∧ FI' (lo + 4) = FI (lo + 4)) := by
  have hgr := hI.2.2.2.2.2.2.1
  rcases hgr.1 with e | e
  · have hb := s_latBuild (V := V) (d := d) h hI.2.2.1 (fun i hi => (hW.2.1.2.1 i hi).1)
    have e' : FI lo 15 = nI 0 := e
    refine G_aload0 1 d_Alg_gridNow_0 rfl ?_
    refine G_getIv 4 d_Alg_gridNow_1 rfl f_Alg_93 rfl h.sh e' ?_
    refine G_ifne 23 7 d_Alg_gridNow_4 rfl rfl (fun h4 => ?_) (fun h4 => ?_)
    · exact absurd rfl h4
    · refine G_aload0 8 d_Alg_gridNow_7 rfl ?_
      refine G_getR 11 d_Alg_gridNow_8 rfl f_Alg_48 rfl h.sh h.f5 ?_
      refine G_aload0 12 d_Alg_gridNow_11 rfl ?_
      refine G_getR 15 d_Alg_gridNow_12 rfl f_Alg_27 rfl h.sh h.f2 ?_
      refine G_invV1 18 d_Alg_gridNow_15 rfl e_Alg_438 M_Lat_build rfl h.s5 (Nat.le_of_ble_eq_true rfl) (Nat.le_of_ble_eq_true rfl) rfl (G.conseq (hb) (fun r15 X15 FI15 AI15 AL15 h15 => ?_))
      obtain ⟨rfl, q1, q2, q3, N, rfl⟩ := h15
      replace q1 := q1.symm
      replace q2 := q2.symm
      replace q3 := q3.symm
      subst q1 q2 q3
      have hc : ∀ c j, c < 10 → j < 10 → lyB AL (lo + 41) (cgF (tG S)) N (lo + 43 + c) j = cgF (tG S) c j := fun c j hc hj => by
        rw [show lo + 43 + c = lo + 41 + 2 + c by omega, lyB_r hc]
      obtain ⟨r1, r2⟩ := hI.gr (FI' := u2 FI lo 15 (nI 1)) (AL' := lyB AL (lo + 41) (cgF (tG S)) N) hW (fun c j hcj => by
        by_cases e9 : c = lo
        · rw [e9, u2_ix _ _ (by omega)]
        · rw [u2_off _ _ _ e9]) (fun c hc => lyB_o (by omega)) ⟨Or.inr (u2_at _ _ _ _), fun _ => hc⟩
      refine G_aload0 19 d_Alg_gridNow_18 rfl ?_
      refine G_iconstN 1 20 d_Alg_gridNow_19 rfl rfl ?_
      refine G_putI 23 d_Alg_gridNow_20 rfl f_Alg_93 rfl (by intro C T N h; cases h; rfl) h.sh rfl rfl ?_
      refine G_aload0 24 d_Alg_gridNow_23 rfl ?_
      refine G_getR 27 d_Alg_gridNow_24 rfl f_Alg_48 rfl h.sh h.f5 ?_
      refine G_aret d_Alg_gridNow_27 rfl (by first | exact Or.inl ⟨_, rfl⟩ | exact Or.inr ⟨_, rfl⟩) ?_
      exact ⟨rfl, rfl, rfl, r1, r2, fun c j hc' hj => by rw [lyB_r hc'], u2_off _ _ _ (by omega)⟩
  · have e' : FI lo 15 = nI 1 := e
    refine G_aload0 1 d_Alg_gridNow_0 rfl ?_
    refine G_getIv 4 d_Alg_gridNow_1 rfl f_Alg_93 rfl h.sh e' ?_
    refine G_ifne 23 7 d_Alg_gridNow_4 rfl rfl (fun h4 => ?_) (fun h4 => ?_)
    · refine G_aload0 24 d_Alg_gridNow_23 rfl ?_
      refine G_getR 27 d_Alg_gridNow_24 rfl f_Alg_48 rfl h.sh h.f5 ?_
      refine G_aret d_Alg_gridNow_27 rfl (by first | exact Or.inl ⟨_, rfl⟩ | exact Or.inr ⟨_, rfl⟩) ?_
      exact ⟨rfl, rfl, rfl, hI, cF.rf, fun c j hc hj => by rw [show lo + 41 + 2 + c = lo + 43 + c by omega]; exact hgr.2 e c j hc hj, rfl⟩
    · exact absurd h4 (by decide)
/-! reading it -/
def pvc (B : LM) (f : Nat) : Nat → Nat
  | 0 => 0
  | k + 1 => pvc B f k + (if 0 < B (f + k) (f + k) then 1 else 0)
def pcl (B : LM) (i : Nat) : Nat → Nat → Nat → Nat
  | 0, _, _ => 0
  | f + 1, c, a => if 0 < B c c then (if a = i then c else pcl B i f (c + 1) (a + 1)) else pcl B i f (c + 1) a
theorem pcl_lt (B : LM) (i : Nat) : ∀ f c a, c + f ≤ 10 → pcl B i f c a < 10
  | 0, _, _, _ => by rw [pcl]; omega
  | f + 1, c, a, h => by
    rw [pcl]
    split
    · split
      · omega
      · exact pcl_lt B i f (c + 1) (a + 1) (by omega)
    · exact pcl_lt B i f (c + 1) a (by omega)
def LBo (AL : LT) (l : Nat) (B : LM) : Prop := ∀ c j, c < 10 → j < 10 → AL (l + 2 + c) j = B c j
theorem s_pivotsIn {V : GV} {d l f e : Nat} {B : LM} {X : XT} {FI AI : FT} {AL : LT} (h : LAo X l) (hB : LBo AL l B) (hf : f ≤ e) (he : e ≤ 10) : G V m_Lat_pivotsIn d 0 [some (.ref l), some (.int (nI f)), some (.int (nI e)), none, none] [] X FI AI AL (Pd (some (.int (nI (pvc B f (e - f))))) X FI AI AL) := by
  obtain ⟨o1, o2, o3, o4, o5, o6⟩ := id h
  have L : ∀ k, k ≤ e - f → G V m_Lat_pivotsIn d 5 [some (.ref l), some (.int (nI f)), some (.int (nI e)), some (.int (nI (pvc B f k))), some (.int (nI (f + k)))] [] X FI AI AL (Pd (some (.int (nI (pvc B f (e - f))))) X FI AI AL) := by
    refine upto ?_ ?_
    · refine G_iload4 7 d_Lat_pivotsIn_5 rfl ?_
      refine G_iload2 8 d_Lat_pivotsIn_7 rfl ?_
      first | refine G_icgeN 40 11 d_Lat_pivotsIn_8 rfl rfl (by omega) (by omega) (fun h8 => ?_) (fun h8 => ?_) | refine G_icge 40 11 d_Lat_pivotsIn_8 rfl rfl (fun h8 => ?_) (fun h8 => ?_)
      · refine G_iload3 41 d_Lat_pivotsIn_40 rfl ?_
        refine G_iret d_Lat_pivotsIn_41 rfl ?_
        exact Pd.rf
      · omega
    · intro k hk ih
      have hc : f + k < 10 := by omega
      obtain ⟨ac, sc⟩ := o6 (f + k) hc
      have ev := hB (f + k) (f + k) hc hc
      rw [pvc, show f + (k + 1) = f + k + 1 by omega] at ih
      by_cases hz : 0 < B (f + k) (f + k)
      · rw [if_pos hz] at ih
        refine G_iload4 7 d_Lat_pivotsIn_5 rfl ?_
        refine G_iload2 8 d_Lat_pivotsIn_7 rfl ?_
        first | refine G_icgeN 40 11 d_Lat_pivotsIn_8 rfl rfl (by omega) (by omega) (fun h8 => ?_) (fun h8 => ?_) | refine G_icge 40 11 d_Lat_pivotsIn_8 rfl rfl (fun h8 => ?_) (fun h8 => ?_)
        · omega
        · refine G_iload3 12 d_Lat_pivotsIn_11 rfl ?_
          refine G_aload0 13 d_Lat_pivotsIn_12 rfl ?_
          refine G_getR 16 d_Lat_pivotsIn_13 rfl f_Lat_13 rfl (by assumption) (by assumption) ?_
          refine G_iload4 18 d_Lat_pivotsIn_16 rfl ?_
          refine G_aaload 19 d_Lat_pivotsIn_18 rfl (by assumption) (by decide) (by decide) (ix_nI (by omega) (by omega)) (by assumption) ?_
          refine G_iload4 21 d_Lat_pivotsIn_19 rfl ?_
          refine G_laloadv 22 d_Lat_pivotsIn_21 rfl (by assumption) (ix_nI (by omega) (by omega)) ev ?_
          refine G_lconst 0 23 d_Lat_pivotsIn_22 rfl rfl ?_
          refine G_lcle 31 27 d_Lat_pivotsIn_23 d_Lat_pivotsIn_24 rfl rfl (fun h23 => ?_) (fun h23 => ?_)
          · exact absurd hz h23
          · refine G_iconstN 1 28 d_Lat_pivotsIn_27 rfl rfl ?_
            refine G_goto 32 d_Lat_pivotsIn_28 rfl ?_
            first | refine G_iaddN 33 d_Lat_pivotsIn_32 rfl ?_ | refine G_iadd 33 d_Lat_pivotsIn_32 rfl ?_
            refine G_istore3 34 d_Lat_pivotsIn_33 rfl (by decide) rfl ?_
            first | refine G_iincN4 37 d_Lat_pivotsIn_34 rfl (by decide) rfl ?_ | refine G_iinc4 _ 37 d_Lat_pivotsIn_34 rfl (by decide) rfl rfl ?_
            refine G_goto 5 d_Lat_pivotsIn_37 rfl ?_
            exact ih
      · rw [if_neg hz] at ih
        refine G_iload4 7 d_Lat_pivotsIn_5 rfl ?_
        refine G_iload2 8 d_Lat_pivotsIn_7 rfl ?_
        first | refine G_icgeN 40 11 d_Lat_pivotsIn_8 rfl rfl (by omega) (by omega) (fun h8 => ?_) (fun h8 => ?_) | refine G_icge 40 11 d_Lat_pivotsIn_8 rfl rfl (fun h8 => ?_) (fun h8 => ?_)
        · omega
        · refine G_iload3 12 d_Lat_pivotsIn_11 rfl ?_
          refine G_aload0 13 d_Lat_pivotsIn_12 rfl ?_
          refine G_getR 16 d_Lat_pivotsIn_13 rfl f_Lat_13 rfl (by assumption) (by assumption) ?_
          refine G_iload4 18 d_Lat_pivotsIn_16 rfl ?_
          refine G_aaload 19 d_Lat_pivotsIn_18 rfl (by assumption) (by decide) (by decide) (ix_nI (by omega) (by omega)) (by assumption) ?_
          refine G_iload4 21 d_Lat_pivotsIn_19 rfl ?_
          refine G_laloadv 22 d_Lat_pivotsIn_21 rfl (by assumption) (ix_nI (by omega) (by omega)) ev ?_
          refine G_lconst 0 23 d_Lat_pivotsIn_22 rfl rfl ?_
          refine G_lcle 31 27 d_Lat_pivotsIn_23 d_Lat_pivotsIn_24 rfl rfl (fun h23 => ?_) (fun h23 => ?_)
          · refine G_iconstN 0 32 d_Lat_pivotsIn_31 rfl rfl ?_
            first | refine G_iaddN 33 d_Lat_pivotsIn_32 rfl ?_ | refine G_iadd 33 d_Lat_pivotsIn_32 rfl ?_
            refine G_istore3 34 d_Lat_pivotsIn_33 rfl (by decide) rfl ?_
            first | refine G_iincN4 37 d_Lat_pivotsIn_34 rfl (by decide) rfl ?_ | refine G_iinc4 _ 37 d_Lat_pivotsIn_34 rfl (by decide) rfl rfl ?_
            refine G_goto 5 d_Lat_pivotsIn_37 rfl ?_
            exact ih
          · exact absurd h23 hz
  refine G_iconstN 0 1 d_Lat_pivotsIn_0 rfl rfl ?_
  refine G_istore3 2 d_Lat_pivotsIn_1 rfl (by decide) rfl ?_
  refine G_iload1 3 d_Lat_pivotsIn_2 rfl ?_
  refine G_istore4 5 d_Lat_pivotsIn_3 rfl (by decide) rfl ?_
  exact L 0 (Nat.zero_le _)
theorem s_pivotColumn {V : GV} {d l f i : Nat} {B : LM} {X : XT} {FI AI : FT} {AL : LT} (h : LAo X l) (hB : LBo AL l B) (hf : f ≤ 10) (hi : i < 2 ^ 31) : G V m_Lat_pivotColumn d 0 [some (.ref l), some (.int (nI f)), some (.int (nI i)), none, none] [] X FI AI AL (Pd (some (.int (nI (pcl B i (10 - f) f 0)))) X FI AI AL) := by
  obtain ⟨o1, o2, o3, o4, o5, o6⟩ := id h
  have L : ∀ k, k ≤ 10 - f → ∀ a, a ≤ 10 - f - k → pcl B i k (10 - k) a = pcl B i (10 - f) f 0 → G V m_Lat_pivotColumn d 5 [some (.ref l), some (.int (nI f)), some (.int (nI i)), some (.int (nI a)), some (.int (nI (10 - k)))] [] X FI AI AL (Pd (some (.int (nI (pcl B i (10 - f) f 0)))) X FI AI AL) := by
    intro k
    induction k with
    | zero =>
      intro _ a ha e
      rw [← e, pcl]
      refine G_iload4 7 d_Lat_pivotColumn_5 rfl ?_
      refine G_bipushN 10 9 d_Lat_pivotColumn_7 rfl rfl ?_
      first | refine G_icgeN 44 12 d_Lat_pivotColumn_9 rfl rfl (by omega) (by omega) (fun h9 => ?_) (fun h9 => ?_) | refine G_icge 44 12 d_Lat_pivotColumn_9 rfl rfl (fun h9 => ?_) (fun h9 => ?_)
      · refine G_iconstN 0 45 d_Lat_pivotColumn_44 rfl rfl ?_
        refine G_iret d_Lat_pivotColumn_45 rfl ?_
        exact Pd.rf
      · omega
    | succ k ih =>
      intro hk a ha e
      rw [pcl, show 10 - (k + 1) + 1 = 10 - k by omega] at e
      have hc : 10 - (k + 1) < 10 := by omega
      obtain ⟨ac, sc⟩ := o6 _ hc
      have ev := hB _ _ hc hc
      by_cases hz : 0 < B (10 - (k + 1)) (10 - (k + 1))
      · rw [if_pos hz] at e
        by_cases ha2 : a = i
        · rw [if_pos ha2] at e
          rw [← e]
          refine G_iload4 7 d_Lat_pivotColumn_5 rfl ?_
          refine G_bipushN 10 9 d_Lat_pivotColumn_7 rfl rfl ?_
          first | refine G_icgeN 44 12 d_Lat_pivotColumn_9 rfl rfl (by omega) (by omega) (fun h9 => ?_) (fun h9 => ?_) | refine G_icge 44 12 d_Lat_pivotColumn_9 rfl rfl (fun h9 => ?_) (fun h9 => ?_)
          · omega
          · refine G_aload0 13 d_Lat_pivotColumn_12 rfl ?_
            refine G_getR 16 d_Lat_pivotColumn_13 rfl f_Lat_13 rfl (by assumption) (by assumption) ?_
            refine G_iload4 18 d_Lat_pivotColumn_16 rfl ?_
            refine G_aaload 19 d_Lat_pivotColumn_18 rfl (by assumption) (by decide) (by decide) (ix_nI (by omega) (by omega)) (by assumption) ?_
            refine G_iload4 21 d_Lat_pivotColumn_19 rfl ?_
            refine G_laloadv 22 d_Lat_pivotColumn_21 rfl (by assumption) (ix_nI (by omega) (by omega)) ev ?_
            refine G_lconst 0 23 d_Lat_pivotColumn_22 rfl rfl ?_
            refine G_lcle 38 27 d_Lat_pivotColumn_23 d_Lat_pivotColumn_24 rfl rfl (fun h23 => ?_) (fun h23 => ?_)
            · exact absurd hz h23
            · refine G_iload3 28 d_Lat_pivotColumn_27 rfl ?_
              refine G_iload2 29 d_Lat_pivotColumn_28 rfl ?_
              first | refine G_icneN 35 32 d_Lat_pivotColumn_29 rfl rfl (by omega) (by omega) (fun h29 => ?_) (fun h29 => ?_) | refine G_icne 35 32 d_Lat_pivotColumn_29 rfl rfl (fun h29 => ?_) (fun h29 => ?_)
              · exact absurd ha2 h29
              · refine G_iload4 34 d_Lat_pivotColumn_32 rfl ?_
                refine G_iret d_Lat_pivotColumn_34 rfl ?_
                exact Pd.rf
        · rw [if_neg ha2] at e
          have ih2 := ih (by omega) (a + 1) (by omega) e
          rw [show 10 - k = 10 - (k + 1) + 1 by omega] at ih2
          refine G_iload4 7 d_Lat_pivotColumn_5 rfl ?_
          refine G_bipushN 10 9 d_Lat_pivotColumn_7 rfl rfl ?_
          first | refine G_icgeN 44 12 d_Lat_pivotColumn_9 rfl rfl (by omega) (by omega) (fun h9 => ?_) (fun h9 => ?_) | refine G_icge 44 12 d_Lat_pivotColumn_9 rfl rfl (fun h9 => ?_) (fun h9 => ?_)
          · omega
          · refine G_aload0 13 d_Lat_pivotColumn_12 rfl ?_
            refine G_getR 16 d_Lat_pivotColumn_13 rfl f_Lat_13 rfl (by assumption) (by assumption) ?_
            refine G_iload4 18 d_Lat_pivotColumn_16 rfl ?_
            refine G_aaload 19 d_Lat_pivotColumn_18 rfl (by assumption) (by decide) (by decide) (ix_nI (by omega) (by omega)) (by assumption) ?_
            refine G_iload4 21 d_Lat_pivotColumn_19 rfl ?_
            refine G_laloadv 22 d_Lat_pivotColumn_21 rfl (by assumption) (ix_nI (by omega) (by omega)) ev ?_
            refine G_lconst 0 23 d_Lat_pivotColumn_22 rfl rfl ?_
            refine G_lcle 38 27 d_Lat_pivotColumn_23 d_Lat_pivotColumn_24 rfl rfl (fun h23 => ?_) (fun h23 => ?_)
            · exact absurd hz h23
            · refine G_iload3 28 d_Lat_pivotColumn_27 rfl ?_
              refine G_iload2 29 d_Lat_pivotColumn_28 rfl ?_
              first | refine G_icneN 35 32 d_Lat_pivotColumn_29 rfl rfl (by omega) (by omega) (fun h29 => ?_) (fun h29 => ?_) | refine G_icne 35 32 d_Lat_pivotColumn_29 rfl rfl (fun h29 => ?_) (fun h29 => ?_)
              · first | refine G_iincN3 38 d_Lat_pivotColumn_35 rfl (by decide) rfl ?_ | refine G_iinc3 _ 38 d_Lat_pivotColumn_35 rfl (by decide) rfl rfl ?_
                first | refine G_iincN4 41 d_Lat_pivotColumn_38 rfl (by decide) rfl ?_ | refine G_iinc4 _ 41 d_Lat_pivotColumn_38 rfl (by decide) rfl rfl ?_
                refine G_goto 5 d_Lat_pivotColumn_41 rfl ?_
                exact ih2
              · exact absurd h29 ha2
      · rw [if_neg hz] at e
        have ih2 := ih (by omega) a (by omega) e
        rw [show 10 - k = 10 - (k + 1) + 1 by omega] at ih2
        refine G_iload4 7 d_Lat_pivotColumn_5 rfl ?_
        refine G_bipushN 10 9 d_Lat_pivotColumn_7 rfl rfl ?_
        first | refine G_icgeN 44 12 d_Lat_pivotColumn_9 rfl rfl (by omega) (by omega) (fun h9 => ?_) (fun h9 => ?_) | refine G_icge 44 12 d_Lat_pivotColumn_9 rfl rfl (fun h9 => ?_) (fun h9 => ?_)
        · omega
        · refine G_aload0 13 d_Lat_pivotColumn_12 rfl ?_
          refine G_getR 16 d_Lat_pivotColumn_13 rfl f_Lat_13 rfl (by assumption) (by assumption) ?_
          refine G_iload4 18 d_Lat_pivotColumn_16 rfl ?_
          refine G_aaload 19 d_Lat_pivotColumn_18 rfl (by assumption) (by decide) (by decide) (ix_nI (by omega) (by omega)) (by assumption) ?_
          refine G_iload4 21 d_Lat_pivotColumn_19 rfl ?_
          refine G_laloadv 22 d_Lat_pivotColumn_21 rfl (by assumption) (ix_nI (by omega) (by omega)) ev ?_
          refine G_lconst 0 23 d_Lat_pivotColumn_22 rfl rfl ?_
          refine G_lcle 38 27 d_Lat_pivotColumn_23 d_Lat_pivotColumn_24 rfl rfl (fun h23 => ?_) (fun h23 => ?_)
          · first | refine G_iincN4 41 d_Lat_pivotColumn_38 rfl (by decide) rfl ?_ | refine G_iinc4 _ 41 d_Lat_pivotColumn_38 rfl (by decide) rfl rfl ?_
            refine G_goto 5 d_Lat_pivotColumn_41 rfl ?_
            exact ih2
          · exact absurd h23 hz
  refine G_iconstN 0 1 d_Lat_pivotColumn_0 rfl rfl ?_
  refine G_istore3 2 d_Lat_pivotColumn_1 rfl (by decide) rfl ?_
  refine G_iload1 3 d_Lat_pivotColumn_2 rfl ?_
  refine G_istore4 5 d_Lat_pivotColumn_3 rfl (by decide) rfl ?_
  have := L (10 - f) (Nat.le_refl _) 0 (Nat.zero_le _) (by rw [show 10 - (10 - f) = f by omega])
  rw [show 10 - (10 - f) = f by omega] at this
  exact this
theorem s_spanRank {V : GV} {d l : Nat} {B : LM} {X : XT} {FI AI : FT} {AL : LT} (h : LAo X l) (hB : LBo AL l B) : G V m_Lat_spanRank (d + 1) 0 [some (.ref l)] [] X FI AI AL (Pd (some (.int (nI (pvc B 0 3)))) X FI AI AL) := by
  have o1 := h.1
  have := s_pivotsIn (V := V) (d := d) (f := 0) (e := 3) (FI := FI) (AI := AI) h hB (by omega) (by omega)
  refine G_aload0 1 d_Lat_spanRank_0 rfl ?_
  refine G_iconstN 0 2 d_Lat_spanRank_1 rfl rfl ?_
  refine G_iconstN 3 3 d_Lat_spanRank_2 rfl rfl ?_
  refine G_invV2d 6 d_Lat_spanRank_3 rfl e_Lat_63 M_Lat_pivotsIn rfl (by assumption) (Nat.le_of_ble_eq_true rfl) (Nat.le_of_ble_eq_true rfl) rfl (this) ?_
  refine G_iret d_Lat_spanRank_6 rfl ?_
  exact Pd.rf
theorem s_relationRank {V : GV} {d l : Nat} {B : LM} {X : XT} {FI AI : FT} {AL : LT} (h : LAo X l) (hB : LBo AL l B) : G V m_Lat_relationRank (d + 1) 0 [some (.ref l)] [] X FI AI AL (Pd (some (.int (nI (pvc B 3 7)))) X FI AI AL) := by
  have o1 := h.1
  have := s_pivotsIn (V := V) (d := d) (f := 3) (e := 10) (FI := FI) (AI := AI) h hB (by omega) (by omega)
  refine G_aload0 1 d_Lat_relationRank_0 rfl ?_
  refine G_iconstN 3 2 d_Lat_relationRank_1 rfl rfl ?_
  refine G_bipushN 10 4 d_Lat_relationRank_2 rfl rfl ?_
  refine G_invV2d 7 d_Lat_relationRank_4 rfl e_Lat_63 M_Lat_pivotsIn rfl (by assumption) (Nat.le_of_ble_eq_true rfl) (Nat.le_of_ble_eq_true rfl) rfl (this) ?_
  refine G_iret d_Lat_relationRank_7 rfl ?_
  exact Pd.rf
theorem s_spanNumber {V : GV} {d l i j : Nat} {B : LM} {X : XT} {FI AI : FT} {AL : LT} (h : LAo X l) (hB : LBo AL l B) (hi : i < 2 ^ 31) (hj : j < 10) : G V m_Lat_spanNumber (d + 1) 0 [some (.ref l), some (.int (nI i)), some (.int (nI j))] [] X FI AI AL (Pd (some (.long (B (pcl B i 10 0 0) j))) X FI AI AL) := by
  obtain ⟨o1, o2, o3, o4, o5, o6⟩ := id h
  have := s_pivotColumn (V := V) (d := d) (f := 0) (FI := FI) (AI := AI) h hB (by omega) hi
  have hc := pcl_lt B i 10 0 0 (by omega)
  obtain ⟨ac, sc⟩ := o6 _ hc
  have ev := hB _ _ hc hj
  refine G_aload0 1 d_Lat_spanNumber_0 rfl ?_
  refine G_getR 4 d_Lat_spanNumber_1 rfl f_Lat_13 rfl (by assumption) (by assumption) ?_
  refine G_aload0 5 d_Lat_spanNumber_4 rfl ?_
  refine G_iconstN 0 6 d_Lat_spanNumber_5 rfl rfl ?_
  refine G_iload1 7 d_Lat_spanNumber_6 rfl ?_
  refine G_invV2d 10 d_Lat_spanNumber_7 rfl e_Lat_66 M_Lat_pivotColumn rfl (by assumption) (Nat.le_of_ble_eq_true rfl) (Nat.le_of_ble_eq_true rfl) rfl (this) ?_
  refine G_aaload 11 d_Lat_spanNumber_10 rfl (by assumption) (by decide) (by decide) (ix_nI (by omega) (by omega)) (by assumption) ?_
  refine G_iload2 12 d_Lat_spanNumber_11 rfl ?_
  refine G_laloadv 13 d_Lat_spanNumber_12 rfl (by assumption) (ix_nI (by omega) (by omega)) ev ?_
  refine G_lret d_Lat_spanNumber_13 rfl ?_
  exact Pd.rf
theorem s_relationNumber {V : GV} {d l i g : Nat} {B : LM} {X : XT} {FI AI : FT} {AL : LT} (h : LAo X l) (hB : LBo AL l B) (hi : i < 2 ^ 31) (hg : g < 7) : G V m_Lat_relationNumber (d + 1) 0 [some (.ref l), some (.int (nI i)), some (.int (nI g))] [] X FI AI AL (Pd (some (.long (B (pcl B i 7 3 0) (3 + g)))) X FI AI AL) := by
  obtain ⟨o1, o2, o3, o4, o5, o6⟩ := id h
  have := s_pivotColumn (V := V) (d := d) (f := 3) (FI := FI) (AI := AI) h hB (by omega) hi
  have hc := pcl_lt B i 7 3 0 (by omega)
  obtain ⟨ac, sc⟩ := o6 _ hc
  have ev := hB (pcl B i 7 3 0) (3 + g) hc (by omega)
  refine G_aload0 1 d_Lat_relationNumber_0 rfl ?_
  refine G_getR 4 d_Lat_relationNumber_1 rfl f_Lat_13 rfl (by assumption) (by assumption) ?_
  refine G_aload0 5 d_Lat_relationNumber_4 rfl ?_
  refine G_iconstN 3 6 d_Lat_relationNumber_5 rfl rfl ?_
  refine G_iload1 7 d_Lat_relationNumber_6 rfl ?_
  refine G_invV2d 10 d_Lat_relationNumber_7 rfl e_Lat_66 M_Lat_pivotColumn rfl (by assumption) (Nat.le_of_ble_eq_true rfl) (Nat.le_of_ble_eq_true rfl) rfl (this) ?_
  refine G_aaload 11 d_Lat_relationNumber_10 rfl (by assumption) (by decide) (by decide) (ix_nI (by omega) (by omega)) (by assumption) ?_
  refine G_iconstN 3 12 d_Lat_relationNumber_11 rfl rfl ?_
  refine G_iload2 13 d_Lat_relationNumber_12 rfl ?_
  first | refine G_iaddN 14 d_Lat_relationNumber_13 rfl ?_ | refine G_iadd 14 d_Lat_relationNumber_13 rfl ?_
  refine G_laloadv 15 d_Lat_relationNumber_14 rfl (by assumption) (ix_nI (by omega) (by omega)) ev ?_
  refine G_lret d_Lat_relationNumber_15 rfl ?_
  exact Pd.rf
theorem s_pivotProduct {V : GV} {d l : Nat} {B : LM} {X : XT} {FI AI : FT} {AL : LT} (h : LAo X l) (hB : LBo AL l B) : G V m_Lat_pivotProduct d 0 [some (.ref l)] [] X FI AI AL (Pd (some (.long (B 0 0 * B 1 1 * B 2 2))) X FI AI AL) := by
  obtain ⟨o1, o2, o3, o4, o5, o6⟩ := id h
  obtain ⟨a0, s0⟩ := o6 0 (by omega)
  obtain ⟨a1, s1⟩ := o6 1 (by omega)
  obtain ⟨a2, s2⟩ := o6 2 (by omega)
  have e0 := hB 0 0 (by omega) (by omega)
  have e1 := hB 1 1 (by omega) (by omega)
  have e2 := hB 2 2 (by omega) (by omega)
  refine G_aload0 1 d_Lat_pivotProduct_0 rfl ?_
  refine G_getR 4 d_Lat_pivotProduct_1 rfl f_Lat_13 rfl (by assumption) (by assumption) ?_
  refine G_iconstN 0 5 d_Lat_pivotProduct_4 rfl rfl ?_
  refine G_aaload 6 d_Lat_pivotProduct_5 rfl (by assumption) (by decide) (by decide) (ix_nI (by omega) (by omega)) a0 ?_
  refine G_iconstN 0 7 d_Lat_pivotProduct_6 rfl rfl ?_
  refine G_laloadv 8 d_Lat_pivotProduct_7 rfl s0 (ix_nI (by omega) (by omega)) e0 ?_
  refine G_aload0 9 d_Lat_pivotProduct_8 rfl ?_
  refine G_getR 12 d_Lat_pivotProduct_9 rfl f_Lat_13 rfl (by assumption) (by assumption) ?_
  refine G_iconstN 1 13 d_Lat_pivotProduct_12 rfl rfl ?_
  refine G_aaload 14 d_Lat_pivotProduct_13 rfl (by assumption) (by decide) (by decide) (ix_nI (by omega) (by omega)) a1 ?_
  refine G_iconstN 1 15 d_Lat_pivotProduct_14 rfl rfl ?_
  refine G_laloadv 16 d_Lat_pivotProduct_15 rfl s1 (ix_nI (by omega) (by omega)) e1 ?_
  refine G_lmul 17 d_Lat_pivotProduct_16 rfl ?_
  refine G_aload0 18 d_Lat_pivotProduct_17 rfl ?_
  refine G_getR 21 d_Lat_pivotProduct_18 rfl f_Lat_13 rfl (by assumption) (by assumption) ?_
  refine G_iconstN 2 22 d_Lat_pivotProduct_21 rfl rfl ?_
  refine G_aaload 23 d_Lat_pivotProduct_22 rfl (by assumption) (by decide) (by decide) (ix_nI (by omega) (by omega)) a2 ?_
  refine G_iconstN 2 24 d_Lat_pivotProduct_23 rfl rfl ?_
  refine G_laloadv 25 d_Lat_pivotProduct_24 rfl s2 (ix_nI (by omega) (by omega)) e2 ?_
  refine G_lmul 26 d_Lat_pivotProduct_25 rfl ?_
  refine G_lret d_Lat_pivotProduct_26 rfl ?_
  exact Pd.rf
