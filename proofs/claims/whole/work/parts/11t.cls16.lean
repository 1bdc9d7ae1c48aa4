/-! ===== the class: relations, relation, difference, open ===== -/
theorem c_relations {V : GV} {d lo C E : Nat} {S : ST} {x : Int32} {X : XT} {FI AI : FT} {AL : LT} (h : CO X lo) (hI : CIv C E S X FI AI AL lo) (hW : WS S) : G V m_Alg_relations (d + 6) 0 [some (.ref lo), some (.int x)] [] X FI AI AL (fun r X' FI' AI' AL' => r = some (.int (fRelations S x).1) ∧ CO X' lo ∧ CIv C E (fRelations S x).2 X' FI' AI' AL' lo ∧ cF X X' FI FI' AI AI' AL AL' lo) := by
  refine G_iload1 1 d_Alg_relations_0 rfl ?_
  refine G_invS1b 4 d_Alg_relations_1 rfl e_Alg_333 M_Alg_isBound (Nat.le_of_ble_eq_true rfl) (Nat.le_of_ble_eq_true rfl) rfl (s_isBound) (fun h1 => G_ifeq1 7 d_Alg_relations_4 18 rfl rfl ?_) (fun h1 => G_ifeq0 7 d_Alg_relations_4 18 rfl rfl ?_)
  · obtain ⟨e, e1, e6, e31, rfl⟩ := isB_n (lo := 1) (hi := 6) h1
    have q0 : bB (nI e) 1 6 = true := bB_iff.mpr h1
    have z0 := ni_nI e31
    have h344 := rl_344 hI hW e6
    simp only [fRelations, q0, z0, if_true]
    have hr := s_relNow (V := V) (d := d) h hI hW
    refine G_aload0 8 d_Alg_relations_7 rfl ?_
    refine G_invV0 11 d_Alg_relations_8 rfl e_Alg_336 M_Alg_relationsNow rfl h.sh (Nat.le_of_ble_eq_true rfl) (Nat.le_of_ble_eq_true rfl) rfl (G.conseq (hr) (fun r8 X8 FI8 AI8 AL8 h8 => ?_))
    obtain ⟨a1, a2, a3, a4, a5, a6⟩ := h8
    replace a2 := a2.symm
    replace a3 := a3.symm
    subst a1 a2 a3
    have hct := s_countTo (V := V) (d := d + 5) (FI := FI8) (AL := AL) h a6 e1 e6
    refine G_iload1 12 d_Alg_relations_11 rfl ?_
    refine G_invV1d 15 d_Alg_relations_12 rfl e_Alg_340 M_Rel_countTo rfl h.s4 (Nat.le_of_ble_eq_true rfl) (Nat.le_of_ble_eq_true rfl) rfl (hct) ?_
    refine G_goto 19 d_Alg_relations_15 rfl ?_
    refine G_iret d_Alg_relations_19 rfl ?_
    exact ⟨rfl, h, a4, a5⟩
  · have q0 := bB_f h1
    simp only [fRelations, q0, Bool.false_and, Bool.and_false, Bool.false_eq_true, if_false]
    refine G_iconst (-1) 19 d_Alg_relations_18 rfl rfl ?_
    refine G_iret d_Alg_relations_19 rfl ?_
    exact ⟨rfl, h, hI, cF.rf⟩
theorem c_relation {V : GV} {d lo C E : Nat} {S : ST} {x y w g : Int32} {X : XT} {FI AI : FT} {AL : LT} (h : CO X lo) (hI : CIv C E S X FI AI AL lo) (hW : WS S) : G V m_Alg_relation (d + 7) 0 [some (.ref lo), some (.int x), some (.int y), some (.int w), some (.int g)] [] X FI AI AL (fun r X' FI' AI' AL' => r = some (.int (fRelation S x y w g).1) ∧ CO X' lo ∧ CIv C E (fRelation S x y w g).2 X' FI' AI' AL' lo ∧ cF X X' FI FI' AI AI' AL AL' lo) := by
  obtain ⟨rx0, ⟨rx1, rx2, rx3, rx4, rx5⟩, ry1, ry2, -, -, -⟩ := h.rl
  have rz1 : x_FR X (lo + 35) 0 = some (lo + 36) := rx1
  have rz2 : x_FR X (lo + 35) 1 = some (lo + 37) := rx2
  have rw1 : x_sh X (lo + 36) = some (0, 344) := ry1
  have rw2 : x_sh X (lo + 37) = some (0, 344) := ry2
  clear rx1 rx2 rx3 rx4 rx5 ry1 ry2
  have hgl : ∀ i, i < gN (tG S) → gL (tG S) i < 84 ∧ 1 ≤ eD (gL (tG S) i) := fun i hi => ⟨(hW.2.1.2.1 i hi).1, (hW.2.1.2.1 i hi).2.1⟩
  have ho := hW.1
  have hn7 := hW.2.1.1
  have g0 := hI.2.2.1.1
  have bd : ∀ x' w' g' : Int32, (bB x' 1 6 && bN w' 2 && bN g' (gN (tG S))) = false → G V m_Alg_relation (d + 7) 25 [some (.ref lo), some (.int x'), some (.int y), some (.int w'), some (.int g')] [] X FI AI AL (fun r X' FI' AI' AL' => r = some (.int (fRelation S x' y w' g').1) ∧ CO X' lo ∧ CIv C E (fRelation S x' y w' g').2 X' FI' AI' AL' lo ∧ cF X X' FI FI' AI AI' AL AL' lo) := by
    intro x' w' g' e
    have eF : fRelation S x' y w' g' = (-1, S) := by unfold fRelation; rw [e]; rfl
    rw [eF]
    refine G_iconst (-1) 26 d_Alg_relation_25 rfl rfl ?_
    refine G_iret d_Alg_relation_26 rfl ?_
    exact ⟨rfl, h, hI, cF.rf⟩
  refine G_iload1 1 d_Alg_relation_0 rfl ?_
  refine G_invS1b 4 d_Alg_relation_1 rfl e_Alg_333 M_Alg_isBound (Nat.le_of_ble_eq_true rfl) (Nat.le_of_ble_eq_true rfl) rfl (s_isBound) (fun h1 => G_ifeq1 7 d_Alg_relation_4 25 rfl rfl ?_) (fun h1 => G_ifeq0 7 d_Alg_relation_4 25 rfl rfl ?_)
  · obtain ⟨e, e1, e6, e31, rfl⟩ := isB_n (lo := 1) (hi := 6) h1
    have q0 : bB (nI e) 1 6 = true := bB_iff.mpr h1
    have z0 := ni_nI e31
    have h344 := rl_344 hI hW e6
    refine G_iload3 8 d_Alg_relation_7 rfl ?_
    first | refine G_ifltD 25 11 d_Alg_relation_8 rfl rfl (by omega) (fun h8 => ?_) (fun j h8 => ?_) | refine G_iflt 25 11 d_Alg_relation_8 rfl rfl (fun h8 => ?_) (fun h8 => ?_)
    · exact bd _ _ _ (by rw [bN_f (fun ⟨j, hj, ej⟩ => by rw [ej, lt0_iff, nI_toInt (by omega)] at h8; omega) (by omega), Bool.and_false, Bool.false_and])
    · obtain ⟨l, hl31, rfl⟩ := nI_of h8
      refine G_iload3 12 d_Alg_relation_11 rfl ?_
      refine G_iconstN 1 13 d_Alg_relation_12 rfl rfl ?_
      first | refine G_icgtN 25 16 d_Alg_relation_13 rfl rfl (by omega) (by omega) (fun h13 => ?_) (fun h13 => ?_) | refine G_icgt 25 16 d_Alg_relation_13 rfl rfl (fun h13 => ?_) (fun h13 => ?_)
      · exact bd _ _ _ (by rw [bN_f (fun ⟨j, hj, ej⟩ => by rw [nI_eq hl31 (by omega)] at ej; omega) (by omega), Bool.and_false, Bool.false_and])
      · have hl2 : l < 2 := by omega
        have q2 := bN_t hl2 (show 2 < 2 ^ 31 by omega)
        have z2 := ni_nI hl31
        refine G_aload0 17 d_Alg_relation_16 rfl ?_
        refine G_iload4 19 d_Alg_relation_17 rfl ?_
        refine G_invV1b 22 d_Alg_relation_19 rfl e_Alg_248 M_Alg_isGenerator rfl h.sh (Nat.le_of_ble_eq_true rfl) (Nat.le_of_ble_eq_true rfl) rfl (s_isGen h g0 hn7) (fun h19 => G_ifne1 25 d_Alg_relation_22 27 rfl rfl ?_) (fun h19 => G_ifne0 25 d_Alg_relation_22 27 rfl rfl ?_)
        · obtain ⟨j, hj, rfl⟩ := h19
          have q3 := bN_t hj (show gN (tG S) < 2 ^ 31 by omega)
          have z3 := ni_nI (show j < 2 ^ 31 by omega)
          simp only [fRelation, q0, q2, q3, z0, z2, z3, Bool.and_self, if_true]
          have hir := s_isRel (V := V) (d := d) (x := y) h hI hW e1 e6
          refine G_aload0 28 d_Alg_relation_27 rfl ?_
          refine G_iload1 29 d_Alg_relation_28 rfl ?_
          refine G_iload2 30 d_Alg_relation_29 rfl ?_
          refine G_invV2 33 d_Alg_relation_30 rfl e_Alg_343 M_Alg_isRelation rfl h.sh (Nat.le_of_ble_eq_true rfl) (Nat.le_of_ble_eq_true rfl) rfl (G.conseq (hir) (fun r30 X30 FI30 AI30 AL30 h30 => ?_))
          obtain ⟨a2, a3, a4, a5, a6⟩ := h30
          replace a2 := a2.symm
          replace a3 := a3.symm
          subst a2 a3
          rcases a6 with ⟨rfl, ⟨i, hil, rfl⟩, hRL⟩ | ⟨rfl, hno⟩
          · have q4 := bN_t hil (show (tRl S e).length < 2 ^ 31 by omega)
            have z4 := ni_nI (show i < 2 ^ 31 by omega)
            have hq : (tRl S e)[i]? = some (tRl S e)[i] := List.getElem?_eq_getElem hil
            have gd : (tRl S e).getD i (0, 0) = (tRl S e)[i] := by rw [List.getD_eq_getElem?_getD, hq]; rfl
            obtain ⟨f1, f2⟩ := hRL.1 i _ (rl_pre ho e6 hq)
            obtain ⟨r1, -⟩ := rlD_ok ho hn7 hgl 84 (Nat.le_refl _) (List.mem_of_getElem? hq)
            rw [q4, if_pos rfl, z4, gd]
            have l3 : l = 0 ∨ l = 1 := by omega
            rcases l3 with rfl | rfl
            · have hr31 : ((tRl S e)[i]).1 < 2 ^ 31 := by omega
              refine G_ifne 39 36 d_Alg_relation_33 rfl rfl (fun h33 => ?_) (fun h33 => ?_)
              · refine G_iload3 40 d_Alg_relation_39 rfl ?_
                refine G_ifne 55 43 d_Alg_relation_40 rfl rfl (fun h40 => ?_) (fun h40 => ?_)
                · exact absurd rfl h40
                · refine G_aload0 44 d_Alg_relation_43 rfl ?_
                  refine G_getR 47 d_Alg_relation_44 rfl f_Alg_41 rfl h.sh h.f4 ?_
                  refine G_getR 50 d_Alg_relation_47 rfl f_Alg_347 rfl h.s4 rz1 ?_
                  refine G_iload2 51 d_Alg_relation_50 rfl ?_
                  refine G_ialoadv 52 d_Alg_relation_51 rfl (by assumption) (ix_nI (by omega) (by omega)) f1 ?_
                  refine G_goto 64 d_Alg_relation_52 rfl ?_
                  refine G_iload4 66 d_Alg_relation_64 rfl ?_
                  refine G_invS2d 69 d_Alg_relation_66 rfl e_Alg_281 M_Gen_power (Nat.le_of_ble_eq_true rfl) (Nat.le_of_ble_eq_true rfl) rfl (s_power (by omega) (by omega)) ?_
                  refine G_iret d_Alg_relation_69 rfl ?_
                  exact ⟨rfl, h, a4, a5⟩
              · exact absurd h33 (by decide)
            · have hr31 : ((tRl S e)[i]).2 < 2 ^ 31 := by omega
              refine G_ifne 39 36 d_Alg_relation_33 rfl rfl (fun h33 => ?_) (fun h33 => ?_)
              · refine G_iload3 40 d_Alg_relation_39 rfl ?_
                refine G_ifne 55 43 d_Alg_relation_40 rfl rfl (fun h40 => ?_) (fun h40 => ?_)
                · refine G_aload0 56 d_Alg_relation_55 rfl ?_
                  refine G_getR 59 d_Alg_relation_56 rfl f_Alg_41 rfl h.sh h.f4 ?_
                  refine G_getR 62 d_Alg_relation_59 rfl f_Alg_350 rfl h.s4 rz2 ?_
                  refine G_iload2 63 d_Alg_relation_62 rfl ?_
                  refine G_ialoadv 64 d_Alg_relation_63 rfl (by assumption) (ix_nI (by omega) (by omega)) f2 ?_
                  refine G_iload4 66 d_Alg_relation_64 rfl ?_
                  refine G_invS2d 69 d_Alg_relation_66 rfl e_Alg_281 M_Gen_power (Nat.le_of_ble_eq_true rfl) (Nat.le_of_ble_eq_true rfl) rfl (s_power (by omega) (by omega)) ?_
                  refine G_iret d_Alg_relation_69 rfl ?_
                  exact ⟨rfl, h, a4, a5⟩
                · exact absurd h40 (by decide)
              · exact absurd h33 (by decide)
          · have q4 := bN_f hno (show (tRl S e).length < 2 ^ 31 by omega)
            rw [q4, if_neg (by decide)]
            refine G_ifne 39 36 d_Alg_relation_33 rfl rfl (fun h33 => ?_) (fun h33 => ?_)
            · exact absurd rfl h33
            · refine G_bipush (-2) 38 d_Alg_relation_36 rfl rfl ?_
              refine G_iret d_Alg_relation_38 rfl ?_
              exact ⟨rfl, h, a4, a5⟩
        · exact bd _ _ _ (by rw [bN_f h19 (by omega), Bool.and_false])
  · exact bd _ _ _ (by rw [bB_f h1, Bool.false_and, Bool.false_and])
/-- takeDifference, the state as a whole -/
theorem s_tdS {V : GV} {d lo C E l r : Nat} {S : ST} {X : XT} {FI AI : FT} {AL : LT} (h : CO X lo) (hI : CIv C E S X FI AI AL lo) (hW : WS S) (hl : l < 2 ^ 31) (hr : r < 2 ^ 31) : G V m_Alg_takeDifference (d + 3) 0 [some (.ref lo), some (.int (nI l)), some (.int (nI r))] [] X FI AI AL (fun q X' FI' AI' AL' => X' = X ∧ FI' = FI ∧ AI' = AI ∧ (∀ c, c ≠ lo + 57 → c ≠ lo + 59 → AL' c = AL c) ∧ CIv C E S X FI AI AL' lo ∧ match difP (gN (tG S)) (gP (tG S)) l r with
      | none => q = some (.int (nI 0))
      | some f => q = some (.int (nI 1)) ∧ AL' (lo + 57) = f) := by
  refine G.conseq (s_takeDifference (hI.cb h) hl hr) (fun q X' FI' AI' AL' k => ?_)
  obtain ⟨k1, k2, k3, k4, k5⟩ := k
  exact ⟨k1, k2, k3, k4, hI.wk hW k4, k5⟩
/-- takeApart, the state as a whole; v: the steps that may be written -/
theorem s_taS {V : GV} {d lo C E w v : Nat} {S : ST} {X : XT} {FI AI : FT} {AL : LT} (h : CO X lo) (hI : CIv C E S X FI AI AL lo) (hW : WS S) (hwv : w = 60 ∧ v = 63 ∨ w = 63 ∧ v = 60) (r10 : x_FR X lo 10 = some (lo + w)) : G V m_Alg_takeApart (d + 4) 0 [some (.ref lo), some (.ref (lo + v)), none, none, none, none, none, none, none] [] X FI AI AL (fun r X' FI' AI' AL' => CO X' lo ∧ CIv C E S X' FI' AI' AL' lo ∧ cF X X' FI FI' AI AI' AL AL' lo ∧ tF v C E (tG S) X X' FI FI' AI AI' AL AL' lo ∧ x_FR X' lo = x_FR X lo ∧ match aptS S (AL (lo + 57)) with
      | none => r = some (.int (nI 0))
      | some q => r = some (.int (nI 1)) ∧ AL' (lo + 57) = q.1 ∧ CSt FI' AI' AL' (lo + v) q.2 ∧ q.2.length ≤ 84) := by
  have hcb := hI.cb h
  have hz := hcb.2.2.2.2.2.1.1
  refine G.conseq (s_takeApart hcb (show v = 60 ∨ v = 63 by omega) hW.1 (fun i hi => ⟨(hW.2.1.2.1 i hi).1, (hW.2.1.2.1 i hi).2.1⟩)) (fun r X' FI' AI' AL' k => ?_)
  obtain ⟨k1, k2⟩ := k
  obtain ⟨i1, i2⟩ := hI.tf hW hwv r10 k1
  exact ⟨h.xk k1.1 hz, i1, i2, k1, (k1.1.2 lo (by omega)).2.1, k2⟩
theorem c_difference {V : GV} {d lo C E : Nat} {S : ST} {x y s : Int32} {X : XT} {FI AI : FT} {AL : LT} (h : CO X lo) (hI : CIv C E S X FI AI AL lo) (hW : WS S) : G V m_Alg_difference (d + 7) 0 [some (.ref lo), some (.int x), some (.int y), some (.int s)] [] X FI AI AL (fun r X' FI' AI' AL' => r = some (.int (fDifference S x y s).1) ∧ CO X' lo ∧ CIv C E (fDifference S x y s).2 X' FI' AI' AL' lo ∧ cF X X' FI FI' AI AI' AL AL' lo) := by
  obtain ⟨rx0, ⟨rx1, rx2, rx3, rx4, rx5⟩, ry1, ry2, -, -, -⟩ := h.rl
  have rz1 : x_FR X (lo + 35) 0 = some (lo + 36) := rx1
  have rz2 : x_FR X (lo + 35) 1 = some (lo + 37) := rx2
  have rw1 : x_sh X (lo + 36) = some (0, 344) := ry1
  have rw2 : x_sh X (lo + 37) = some (0, 344) := ry2
  clear rx1 rx2 rx3 rx4 rx5 ry1 ry2
  have hgl : ∀ i, i < gN (tG S) → gL (tG S) i < 84 ∧ 1 ≤ eD (gL (tG S) i) := fun i hi => ⟨(hW.2.1.2.1 i hi).1, (hW.2.1.2.1 i hi).2.1⟩
  have ho := hW.1
  have hn7 := hW.2.1.1
  refine G_iload1 1 d_Alg_difference_0 rfl ?_
  refine G_invS1b 4 d_Alg_difference_1 rfl e_Alg_333 M_Alg_isBound (Nat.le_of_ble_eq_true rfl) (Nat.le_of_ble_eq_true rfl) rfl (s_isBound) (fun h1 => G_ifeq1 7 d_Alg_difference_4 14 rfl rfl ?_) (fun h1 => G_ifeq0 7 d_Alg_difference_4 14 rfl rfl ?_)
  · obtain ⟨e, e1, e6, e31, rfl⟩ := isB_n (lo := 1) (hi := 6) h1
    have q0 : bB (nI e) 1 6 = true := bB_iff.mpr h1
    have z0 := ni_nI e31
    have h344 := rl_344 hI hW e6
    refine G_iload3 8 d_Alg_difference_7 rfl ?_
    refine G_invS1b 11 d_Alg_difference_8 rfl e_Alg_119 M_Alg_isSlot (Nat.le_of_ble_eq_true rfl) (Nat.le_of_ble_eq_true rfl) rfl (s_isSlot) (fun h8 => G_ifne1 14 d_Alg_difference_11 16 rfl rfl ?_) (fun h8 => G_ifne0 14 d_Alg_difference_11 16 rfl rfl ?_)
    · obtain ⟨k, hk, rfl⟩ := h8
      have qk := bN_t hk (show 6 < 2 ^ 31 by omega)
      have zk := ni_nI (show k < 2 ^ 31 by omega)
      obtain ⟨ark, pok⟩ := h.sl hk
      have psk := pok.1
      have ek := hI.1 k hk
      simp only [fDifference, q0, qk, z0, zk, Bool.and_self, if_true]
      have hir := s_isRel (V := V) (d := d) (x := y) h hI hW e1 e6
      refine G_aload0 17 d_Alg_difference_16 rfl ?_
      refine G_iload1 18 d_Alg_difference_17 rfl ?_
      refine G_iload2 19 d_Alg_difference_18 rfl ?_
      refine G_invV2 22 d_Alg_difference_19 rfl e_Alg_343 M_Alg_isRelation rfl h.sh (Nat.le_of_ble_eq_true rfl) (Nat.le_of_ble_eq_true rfl) rfl (G.conseq (hir) (fun r19 X19 FI19 AI19 AL19 h19 => ?_))
      obtain ⟨a2, a3, a4, a5, a6⟩ := h19
      replace a2 := a2.symm
      replace a3 := a3.symm
      subst a2 a3
      rcases a6 with ⟨rfl, ⟨i, hil, rfl⟩, hRL⟩ | ⟨rfl, hno⟩
      · have q4 := bN_t hil (show (tRl S e).length < 2 ^ 31 by omega)
        have z4 := ni_nI (show i < 2 ^ 31 by omega)
        have hq : (tRl S e)[i]? = some (tRl S e)[i] := List.getElem?_eq_getElem hil
        have gd : (tRl S e).getD i (0, 0) = (tRl S e)[i] := by rw [List.getD_eq_getElem?_getD, hq]; rfl
        obtain ⟨f1, f2⟩ := hRL.1 i _ (rl_pre ho e6 hq)
        obtain ⟨r1, -⟩ := rlD_ok ho hn7 hgl 84 (Nat.le_refl _) (List.mem_of_getElem? hq)
        rw [q4, if_pos rfl, z4, gd]
        have htd := s_tdS (V := V) (d := d + 3) h a4 hW (show ((tRl S e)[i]).1 < 2 ^ 31 by omega) (show ((tRl S e)[i]).2 < 2 ^ 31 by omega)
        refine G_ifne 28 25 d_Alg_difference_22 rfl rfl (fun h22 => ?_) (fun h22 => ?_)
        · refine G_aload0 29 d_Alg_difference_28 rfl ?_
          refine G_aload0 30 d_Alg_difference_29 rfl ?_
          refine G_getR 33 d_Alg_difference_30 rfl f_Alg_41 rfl h.sh h.f4 ?_
          refine G_getR 36 d_Alg_difference_33 rfl f_Alg_347 rfl h.s4 rz1 ?_
          refine G_iload2 37 d_Alg_difference_36 rfl ?_
          refine G_ialoadv 38 d_Alg_difference_37 rfl (by assumption) (ix_nI (by omega) (by omega)) f1 ?_
          refine G_aload0 39 d_Alg_difference_38 rfl ?_
          refine G_getR 42 d_Alg_difference_39 rfl f_Alg_41 rfl h.sh h.f4 ?_
          refine G_getR 45 d_Alg_difference_42 rfl f_Alg_350 rfl h.s4 rz2 ?_
          refine G_iload2 46 d_Alg_difference_45 rfl ?_
          refine G_ialoadv 47 d_Alg_difference_46 rfl (by assumption) (ix_nI (by omega) (by omega)) f2 ?_
          refine G_invV2 50 d_Alg_difference_47 rfl e_Alg_357 M_Alg_takeDifference rfl h.sh (Nat.le_of_ble_eq_true rfl) (Nat.le_of_ble_eq_true rfl) rfl (G.conseq (htd) (fun r47 X47 FI47 AI47 AL47 h47 => ?_))
          obtain ⟨b1, b2, b3, b4, b5, b6⟩ := h47
          replace b1 := b1.symm
          replace b2 := b2.symm
          replace b3 := b3.symm
          subst b1 b2 b3
          have hc6 : cF X X FI FI19 AI AI19 AL AL47 lo := a5.tr (cF.al (fun c hc => b4 c (by omega) (by omega)))
          cases hd : difP (gN (tG S)) (gP (tG S)) ((tRl S e)[i]).1 ((tRl S e)[i]).2 with
          | none =>
            rw [hd] at b6
            subst b6
            refine G_ifeq 61 53 d_Alg_difference_50 rfl rfl (fun h50 => ?_) (fun h50 => ?_)
            · refine G_bipush (-5) 63 d_Alg_difference_61 rfl rfl ?_
              refine G_iret d_Alg_difference_63 rfl ?_
              exact ⟨rfl, h, b5, hc6⟩
            · exact absurd rfl h50
          | some f =>
            rw [hd] at b6
            obtain ⟨rfl, b7⟩ := b6
            refine G_ifeq 61 53 d_Alg_difference_50 rfl rfl (fun h50 => ?_) (fun h50 => ?_)
            · exact absurd h50 (by decide)
            · refine G_aload0 54 d_Alg_difference_53 rfl ?_
              refine G_iload3 55 d_Alg_difference_54 rfl ?_
              refine G_invV1d 58 d_Alg_difference_55 rfl e_Alg_178 M_Alg_putWork rfl h.sh (Nat.le_of_ble_eq_true rfl) (Nat.le_of_ble_eq_true rfl) rfl (s_putWork (by assumption) (by omega)) ?_
              refine G_goto 63 d_Alg_difference_58 rfl ?_
              refine G_iret d_Alg_difference_63 rfl ?_
              rw [b7]
              exact ⟨rfl, h, b5.s1 hW hk (fun c h1 h2 hc => sr_ne _ _ hc) (sr_at _ _ _), hc6.tr (cF.al (fun c hc => sr_ne _ _ (by omega)))⟩
        · exact absurd h22 (by decide)
      · have q4 := bN_f hno (show (tRl S e).length < 2 ^ 31 by omega)
        rw [q4, if_neg (by decide)]
        refine G_ifne 28 25 d_Alg_difference_22 rfl rfl (fun h22 => ?_) (fun h22 => ?_)
        · exact absurd rfl h22
        · refine G_bipush (-2) 27 d_Alg_difference_25 rfl rfl ?_
          refine G_iret d_Alg_difference_27 rfl ?_
          exact ⟨rfl, h, a4, a5⟩
    · have q2 := bN_f h8 (show 6 < 2 ^ 31 by omega)
      simp only [fDifference, q2, Bool.false_and, Bool.and_false, Bool.false_eq_true, if_false]
      refine G_iconst (-1) 15 d_Alg_difference_14 rfl rfl ?_
      refine G_iret d_Alg_difference_15 rfl ?_
      exact ⟨rfl, h, hI, cF.rf⟩
  · have q0 := bB_f h1
    simp only [fDifference, q0, Bool.false_and, Bool.and_false, Bool.false_eq_true, if_false]
    refine G_iconst (-1) 15 d_Alg_difference_14 rfl rfl ?_
    refine G_iret d_Alg_difference_15 rfl ?_
    exact ⟨rfl, h, hI, cF.rf⟩
theorem c_open {V : GV} {d lo C E : Nat} {S : ST} {x : Int32} {X : XT} {FI AI : FT} {AL : LT} (h : CO X lo) (hI : CIv C E S X FI AI AL lo) (hW : WS S) : G V m_Alg_open (d + 6) 0 [some (.ref lo), some (.int x), none, none] [] X FI AI AL (fun r X' FI' AI' AL' => r = some (.int (fOpen S x).1) ∧ CO X' lo ∧ CIv C E (fOpen S x).2 X' FI' AI' AL' lo ∧ cF X X' FI FI' AI AI' AL AL' lo) := by
  have hgl : ∀ i, i < gN (tG S) → gL (tG S) i < 84 ∧ 1 ≤ eD (gL (tG S) i) := fun i hi => ⟨(hW.2.1.2.1 i hi).1, (hW.2.1.2.1 i hi).2.1⟩
  have ho := hW.1
  have hn7 := hW.2.1.1
  obtain ⟨w, v, hwv, r10, r11, -, -⟩ := hI.2.2.2.2.2.2.2.2.2.1
  refine G_iload1 1 d_Alg_open_0 rfl ?_
  refine G_invS1b 4 d_Alg_open_1 rfl e_Alg_333 M_Alg_isBound (Nat.le_of_ble_eq_true rfl) (Nat.le_of_ble_eq_true rfl) rfl (s_isBound) (fun h1 => G_ifne1 7 d_Alg_open_4 9 rfl rfl ?_) (fun h1 => G_ifne0 7 d_Alg_open_4 9 rfl rfl ?_)
  · obtain ⟨e, e1, e6, e31, rfl⟩ := isB_n (lo := 1) (hi := 6) h1
    have q0 : bB (nI e) 1 6 = true := bB_iff.mpr h1
    have z0 := ni_nI e31
    have h344 := rl_344 hI hW e6
    simp only [fOpen, q0, z0, if_true]
    have L : ∀ i, i ≤ (tRl S e).length → ∀ (X1 : XT) (FJ AJ : FT) (BJ : LT), CO X1 lo → CIv C E S X1 FJ AJ BJ lo → cF X X1 FI FJ AI AJ AL BJ lo → x_FR X1 lo = x_FR X lo → RLs S AJ lo → opn S ((tRl S e).drop i) i = opn S (tRl S e) 0 → G V m_Alg_open (d + 6) 20 [some (.ref lo), some (.int (nI e)), some (.int (nI (tRl S e).length)), some (.int (nI i))] [] X1 FJ AJ BJ (fun r X' FI' AI' AL' => r = some (.int (opn S (tRl S e) 0)) ∧ CO X' lo ∧ CIv C E S X' FI' AI' AL' lo ∧ cF X X' FI FI' AI AI' AL AL' lo) := by
      refine upto ?_ ?_
      · intro X1 FJ AJ BJ k1 k2 k3 k4 k5 k6
        rw [List.drop_length, opn] at k6
        rw [← k6]
        refine G_iload3 21 d_Alg_open_20 rfl ?_
        refine G_iload2 22 d_Alg_open_21 rfl ?_
        first | refine G_icgeN 82 25 d_Alg_open_22 rfl rfl (by omega) (by omega) (fun h22 => ?_) (fun h22 => ?_) | refine G_icge 82 25 d_Alg_open_22 rfl rfl (fun h22 => ?_) (fun h22 => ?_)
        · refine G_bipush (-2) 84 d_Alg_open_82 rfl rfl ?_
          refine G_iret d_Alg_open_84 rfl ?_
          exact ⟨rfl, k1, k2, k3⟩
        · omega
      · intro i hi ih X1 FJ AJ BJ k1 k2 k3 k4 k5 k6
        obtain ⟨rx0, ⟨rx1, rx2, -, -, -⟩, ry1, ry2, -, -, -⟩ := k1.rl
        have rz1 : x_FR X1 (lo + 35) 0 = some (lo + 36) := rx1
        have rz2 : x_FR X1 (lo + 35) 1 = some (lo + 37) := rx2
        have rw1 : x_sh X1 (lo + 36) = some (0, 344) := ry1
        have rw2 : x_sh X1 (lo + 37) = some (0, 344) := ry2
        have s10 : x_FR X1 lo 10 = some (lo + w) := by rw [k4]; exact r10
        have s11 : x_FR X1 lo 11 = some (lo + v) := by rw [k4]; exact r11
        have hq : (tRl S e)[i]? = some (tRl S e)[i] := List.getElem?_eq_getElem hi
        obtain ⟨f1, f2⟩ := k5.1 i _ (rl_pre ho e6 hq)
        obtain ⟨r1, -⟩ := rlD_ok ho hn7 hgl 84 (Nat.le_refl _) (List.mem_of_getElem? hq)
        rw [List.drop_eq_getElem_cons hi, opn] at k6
        have htd := s_tdS (V := V) (d := d + 2) k1 k2 hW (show ((tRl S e)[i]).1 < 2 ^ 31 by omega) (show ((tRl S e)[i]).2 < 2 ^ 31 by omega)
        refine G_iload3 21 d_Alg_open_20 rfl ?_
        refine G_iload2 22 d_Alg_open_21 rfl ?_
        first | refine G_icgeN 82 25 d_Alg_open_22 rfl rfl (by omega) (by omega) (fun h22 => ?_) (fun h22 => ?_) | refine G_icge 82 25 d_Alg_open_22 rfl rfl (fun h22 => ?_) (fun h22 => ?_)
        · omega
        · refine G_aload0 26 d_Alg_open_25 rfl ?_
          refine G_aload0 27 d_Alg_open_26 rfl ?_
          refine G_getR 30 d_Alg_open_27 rfl f_Alg_41 rfl k1.sh k1.f4 ?_
          refine G_getR 33 d_Alg_open_30 rfl f_Alg_347 rfl k1.s4 rz1 ?_
          refine G_iload3 34 d_Alg_open_33 rfl ?_
          refine G_ialoadv 35 d_Alg_open_34 rfl (by assumption) (ix_nI (by omega) (by omega)) f1 ?_
          refine G_aload0 36 d_Alg_open_35 rfl ?_
          refine G_getR 39 d_Alg_open_36 rfl f_Alg_41 rfl k1.sh k1.f4 ?_
          refine G_getR 42 d_Alg_open_39 rfl f_Alg_350 rfl k1.s4 rz2 ?_
          refine G_iload3 43 d_Alg_open_42 rfl ?_
          refine G_ialoadv 44 d_Alg_open_43 rfl (by assumption) (ix_nI (by omega) (by omega)) f2 ?_
          refine G_invV2 47 d_Alg_open_44 rfl e_Alg_357 M_Alg_takeDifference rfl k1.sh (Nat.le_of_ble_eq_true rfl) (Nat.le_of_ble_eq_true rfl) rfl (G.conseq (htd) (fun r44 X44 FI44 AI44 AL44 h44 => ?_))
          obtain ⟨b1, b2, b3, b4, b5, b6⟩ := h44
          replace b1 := b1.symm
          replace b2 := b2.symm
          replace b3 := b3.symm
          subst b1 b2 b3
          have c1 := k3.tr (cF.al (fun c hc => b4 c (by omega) (by omega)) : cF X1 X1 FJ FJ AJ AJ BJ AL44 lo)
          cases hd : difP (gN (tG S)) (gP (tG S)) ((tRl S e)[i]).1 ((tRl S e)[i]).2 with
          | none =>
            rw [hd] at b6 k6
            subst b6
            rw [← k6]
            refine G_ifeq 61 50 d_Alg_open_47 rfl rfl (fun h47 => ?_) (fun h47 => ?_)
            · refine G_bipush (-5) 63 d_Alg_open_61 rfl rfl ?_
              refine G_iret d_Alg_open_63 rfl ?_
              exact ⟨rfl, k1, b5, c1⟩
            · exact absurd rfl h47
          | some f =>
            rw [hd] at b6 k6
            obtain ⟨rfl, b7⟩ := b6
            have hta := s_taS (V := V) (d := d + 1) k1 b5 hW hwv s10
            rw [b7] at hta
            refine G_ifeq 61 50 d_Alg_open_47 rfl rfl (fun h47 => ?_) (fun h47 => ?_)
            · exact absurd h47 (by decide)
            · refine G_aload0 51 d_Alg_open_50 rfl ?_
              refine G_aload0 52 d_Alg_open_51 rfl ?_
              refine G_getR 55 d_Alg_open_52 rfl f_Alg_79 rfl k1.sh s11 ?_
              refine G_invV1 58 d_Alg_open_55 rfl e_Alg_360 M_Alg_takeApart rfl k1.sh (Nat.le_of_ble_eq_true rfl) (Nat.le_of_ble_eq_true rfl) rfl (G.conseq (hta) (fun r55 X55 FI55 AI55 AL55 h55 => ?_))
              obtain ⟨d1, d2, d3, d4, d5, d6⟩ := h55
              have c2 := c1.tr d3
              have wk2 := d1.wk
              have wks2 := wk2.1
              dsimp only at k6
              cases ha : aptS S f with
              | none =>
                rw [ha] at d6 k6
                subst d6
                rw [← k6]
                refine G_ifne 64 61 d_Alg_open_58 rfl rfl (fun h58 => ?_) (fun h58 => ?_)
                · exact absurd rfl h58
                · refine G_bipush (-5) 63 d_Alg_open_61 rfl rfl ?_
                  refine G_iret d_Alg_open_63 rfl ?_
                  exact ⟨rfl, d1, d2, c2⟩
              | some u =>
                rw [ha] at d6 k6
                obtain ⟨rfl, m1, m2, m3⟩ := d6
                dsimp only at k6
                refine G_ifne 64 61 d_Alg_open_58 rfl rfl (fun h58 => ?_) (fun h58 => ?_)
                · refine G_aload0 65 d_Alg_open_64 rfl ?_
                  refine G_getR 68 d_Alg_open_65 rfl f_Alg_65 rfl d1.sh d1.f8 ?_
                  refine G_invV0d 71 d_Alg_open_68 rfl e_Alg_363 M_Poly_isZero rfl d1.s8 (Nat.le_of_ble_eq_true rfl) (Nat.le_of_ble_eq_true rfl) rfl (s_isZero (by assumption)) ?_
                  refine G_ifne 76 74 d_Alg_open_71 rfl rfl (fun h71 => ?_) (fun h71 => ?_)
                  · by_cases hz : lead1 u.1 (tO S) = 0
                    · rw [if_pos hz] at k6
                      first | refine G_iincN3 79 d_Alg_open_76 rfl (by decide) rfl ?_ | refine G_iinc3 _ 79 d_Alg_open_76 rfl (by decide) rfl rfl ?_
                      refine G_goto 20 d_Alg_open_79 rfl ?_
                      exact ih _ _ _ _ d1 d2 c2 (d5.trans k4) ⟨fun i q hq => by
                        rw [d4.2.2.2.2.1 _ (by omega) (by omega), d4.2.2.2.2.1 _ (by omega) (by omega)]; exact k5.1 i q hq, fun d' d1' d6' => by
                        rw [d4.2.2.2.2.1 _ (by omega) (by omega)]; exact k5.2 d' d1' d6'⟩ k6
                    · rw [m1, if_neg (fun e => hz ((deg_lead ho).mp e))] at h71; exact absurd rfl h71
                  · by_cases hz : lead1 u.1 (tO S) = 0
                    · rw [m1, if_pos ((deg_lead ho).mpr hz)] at h71; exact absurd h71 (by decide)
                    · rw [if_neg hz] at k6
                      rw [← k6]
                      refine G_iload3 75 d_Alg_open_74 rfl ?_
                      refine G_iret d_Alg_open_75 rfl ?_
                      exact ⟨rfl, d1, d2, c2⟩
                · exact absurd h58 (by decide)
    have hr := s_relNow (V := V) (d := d) h hI hW
    refine G_aload0 10 d_Alg_open_9 rfl ?_
    refine G_invV0 13 d_Alg_open_10 rfl e_Alg_336 M_Alg_relationsNow rfl h.sh (Nat.le_of_ble_eq_true rfl) (Nat.le_of_ble_eq_true rfl) rfl (G.conseq (hr) (fun r10 X10 FI10 AI10 AL10 h10 => ?_))
    obtain ⟨a1, a2, a3, a4, a5, a6⟩ := h10
    replace a2 := a2.symm
    replace a3 := a3.symm
    subst a1 a2 a3
    have hct := s_countTo (V := V) (d := d + 5) (FI := FI10) (AL := AL) h a6 e1 e6
    refine G_iload1 14 d_Alg_open_13 rfl ?_
    refine G_invV1d 17 d_Alg_open_14 rfl e_Alg_340 M_Rel_countTo rfl h.s4 (Nat.le_of_ble_eq_true rfl) (Nat.le_of_ble_eq_true rfl) rfl (hct) ?_
    refine G_istore2 18 d_Alg_open_17 rfl (by decide) rfl ?_
    refine G_iconstN 0 19 d_Alg_open_18 rfl rfl ?_
    refine G_istore3 20 d_Alg_open_19 rfl (by decide) rfl ?_
    exact L 0 (Nat.zero_le _) X FI10 AI10 AL h a4 a5 rfl a6 rfl
  · have q0 := bB_f h1
    simp only [fOpen, q0, Bool.false_and, Bool.and_false, Bool.false_eq_true, if_false]
    refine G_iconst (-1) 8 d_Alg_open_7 rfl rfl ?_
    refine G_iret d_Alg_open_8 rfl ?_
    exact ⟨rfl, h, hI, cF.rf⟩
