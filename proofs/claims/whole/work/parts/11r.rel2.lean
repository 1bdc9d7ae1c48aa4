/-! ===== the class: RelationList.build, relationsNow ===== -/
def RLt (AI : FT) (lo : Nat) (L : List (Nat × Nat)) : Prop := ∀ i q, L[i]? = some q → AI (lo + 36) i = nI q.1 ∧ AI (lo + 37) i = nI q.2
theorem eS_up2 : ∀ d, d < 7 → eS d ≤ eS (d + 1) - 1 ∨ d = 0 := by decide
theorem eS_pos2 : ∀ d, d < 7 → 0 < eS (d + 1) := by decide
theorem s_relBuild {V : GV} {d lo o : Nat} {Gt : GT} {X : XT} {FI AI : FT} {AL : LT} (h : CO X lo) (hT : CTb Gt AI lo) (hO : COd o FI AI lo) (ho : o < 3) (hn : gN Gt ≤ 7) (hl : ∀ i, i < gN Gt → gL Gt i < 84 ∧ 1 ≤ eD (gL Gt i)) : G V m_Rel_build (d + 4) 0 [some (.ref (lo + 35)), some (.ref (lo + 27)), some (.ref (lo + 2)), none, none, none, none, none] [] X FI AI AL (fun r X' FI' AI' AL' => r = none ∧ X' = X ∧ FI' = FI ∧ AL' = AL ∧ (∀ c, c < lo + 36 ∨ lo + 40 < c → AI' c = AI c) ∧ RLt AI' lo (rlD o (cLs Gt) 6 84) ∧ ∀ d, 1 ≤ d → d ≤ 6 → AI' (lo + 38) d = nI (rlD o (cLs Gt) d 84).length) := by
  obtain ⟨x0, ⟨x1, x2, x3, x4, x5⟩, y1, y2, y3, y4, y5⟩ := h.rl
  have z1 : x_FR X (lo + 35) 0 = some (lo + 36) := x1
  have z2' : x_FR X (lo + 35) 1 = some (lo + 37) := x2
  have z3 : x_FR X (lo + 35) 2 = some (lo + 38) := x3
  have z5 : x_FR X (lo + 35) 4 = some (lo + 40) := x5
  have w1 : x_sh X (lo + 36) = some (0, 344) := y1
  have w2 : x_sh X (lo + 37) = some (0, 344) := y2
  have w3 : x_sh X (lo + 38) = some (0, 7) := y3
  have w5 : x_sh X (lo + 40) = some (0, 7) := y5
  clear x1 x2 x3 x4 x5 y1 y2 y3 y4 y5
  obtain ⟨rs, rf, rq⟩ := h.rk
  have P344 := fun k hk => PLs_344 (o := o) (k := k) ho hT hk
  have O : ∀ r, r ≤ 84 → ∀ (AJ : FT) (v5 v6 v7 : Option Value), (∀ c, c < lo + 36 ∨ lo + 40 < c → AJ c = AI c) → RLt AJ lo (PLs o (cLs Gt) r) → (∀ d, d < 7 → eS (d + 1) ≤ r → AJ (lo + 38) d = nI (PLs o (cLs Gt) (eS (d + 1))).length) → G V m_Rel_build (d + 4) 5 [some (.ref (lo + 35)), some (.ref (lo + 27)), some (.ref (lo + 2)), some (.int (nI (PLs o (cLs Gt) r).length)), some (.int (nI r)), v5, v6, v7] [] X FI AJ AL (fun r X' FI' AI' AL' => r = none ∧ X' = X ∧ FI' = FI ∧ AL' = AL ∧ (∀ c, c < lo + 36 ∨ lo + 40 < c → AI' c = AI c) ∧ RLt AI' lo (rlD o (cLs Gt) 6 84) ∧ ∀ d, 1 ≤ d → d ≤ 6 → AI' (lo + 38) d = nI (rlD o (cLs Gt) d 84).length) := by
    refine upto ?_ ?_
    · intro AJ v5 v6 v7 k1 k2 k3
      refine G_iload4 7 d_Rel_build_5 rfl ?_
      refine G_bipushN 84 9 d_Rel_build_7 rfl rfl ?_
      first | refine G_icgeN 99 12 d_Rel_build_9 rfl rfl (by omega) (by omega) (fun h9 => ?_) (fun h9 => ?_) | refine G_icge 99 12 d_Rel_build_9 rfl rfl (fun h9 => ?_) (fun h9 => ?_)
      · refine G_vret d_Rel_build_99 rfl ?_
        refine ⟨rfl, rfl, rfl, rfl, k1, ?_, fun d d1 d6 => ?_⟩
        · rw [rlD_PL ho (by omega)]; exact k2
        · rw [rlD_PL ho (by omega)]; exact k3 d (by omega) (eS_84 d (by omega))
      · omega
    · intro r hr ih AJ v5 v6 v7 k1 k2 k3
      have e1 : AJ (lo + 3) r = nI (rk o r) := by rw [k1 _ (by omega)]; exact hO.2 r hr
      have hp := (rk_ok o ho r hr).2.2.1
      have hfg := s_findGroups (V := V) (d := d) (FI := FI) (AL := AL) h (hT.tr (k1 _ (by omega)) (k1 _ (by omega)) : CTb Gt AJ lo) hn hl hp
      have hPr := P344 r (by omega)
      have hPr1 := P344 (r + 1) hr
      rw [PLs] at ih hPr1
      have hdr := fun dd (hd : dd < 7) => deg_rk o ho r hr dd hd
      have hed := (e_le hp).2.2.2.1
      -- what comes behind the inner loop
      have fin : ∀ (AK : FT) (v6 v7 : Option Value), (∀ c, c < lo + 36 ∨ lo + 40 < c → AK c = AI c) → RLt AK lo (PLs o (cLs Gt) r ++ prsR (RN (cLs Gt) (rk o r))) → (∀ d, d < 7 → eS (d + 1) ≤ r → AK (lo + 38) d = nI (PLs o (cLs Gt) (eS (d + 1))).length) → G V m_Rel_build (d + 4) 81 [some (.ref (lo + 35)), some (.ref (lo + 27)), some (.ref (lo + 2)), some (.int (nI (PLs o (cLs Gt) r ++ prsR (RN (cLs Gt) (rk o r))).length)), some (.int (nI r)), some (.int (nI (rk o r))), v6, v7] [] X FI AK AL (fun r X' FI' AI' AL' => r = none ∧ X' = X ∧ FI' = FI ∧ AL' = AL ∧ (∀ c, c < lo + 36 ∨ lo + 40 < c → AI' c = AI c) ∧ RLt AI' lo (rlD o (cLs Gt) 6 84) ∧ ∀ d, 1 ≤ d → d ≤ 6 → AI' (lo + 38) d = nI (rlD o (cLs Gt) d 84).length) := by
        intro AK v6 v7 j1 j2 j3
        refine G_aload0 82 d_Rel_build_81 rfl ?_
        refine G_getR 85 d_Rel_build_82 rfl f_Rel_20 rfl (by assumption) z3 ?_
        refine G_gets 0 88 d_Rel_build_85 rfl rfl s_Rel_40 ?_
        refine G_iload5 90 d_Rel_build_88 rfl ?_
        refine G_st0 91 d_Rel_build_90 rfl (ix_nI (by omega) (by omega)) ?_
        refine G_iload3 92 d_Rel_build_91 rfl ?_
        refine G_iastore 93 d_Rel_build_92 rfl (by assumption) (ix_nI (by omega) (by omega)) ?_
        first | refine G_iincN4 96 d_Rel_build_93 rfl (by decide) rfl ?_ | refine G_iinc4 _ 96 d_Rel_build_93 rfl (by decide) rfl rfl ?_
        refine G_goto 5 d_Rel_build_96 rfl ?_
        refine ih _ _ _ _ (fun c hc => by rw [u2_off _ _ _ (by omega)]; exact j1 c hc) (fun i q hq => by rw [u2_off _ _ _ (by omega), u2_off _ _ _ (by omega)]; exact j2 i q hq) (fun d' d7 hle => ?_)
        by_cases e : d' = eD (rk o r)
        · have h1 := hdr d' d7
          have h2 : eS (d' + 1) = r + 1 := by
            have : r < eS (d' + 1) := h1.mp (by omega)
            omega
          rw [← e, u2_at, h2]; rfl
        · rw [u2_ix _ _ e]
          have h1 := hdr d' d7
          by_cases e2 : eS (d' + 1) ≤ r
          · exact j3 d' d7 e2
          · exfalso
            have : eD (rk o r) ≤ d' := h1.mpr (by omega)
            have h3 := hdr (d' - 1) (by omega)
            rw [show d' - 1 + 1 = d' by omega] at h3
            have h4 : r < eS d' := h3.mp (by omega)
            have h5 : eS d' ≤ eS (d' + 1) - 1 ∨ d' = 0 := eS_up2 d' d7
            omega
      refine G_iload4 7 d_Rel_build_5 rfl ?_
      refine G_bipushN 84 9 d_Rel_build_7 rfl rfl ?_
      first | refine G_icgeN 99 12 d_Rel_build_9 rfl rfl (by omega) (by omega) (fun h9 => ?_) (fun h9 => ?_) | refine G_icge 99 12 d_Rel_build_9 rfl rfl (fun h9 => ?_) (fun h9 => ?_)
      · omega
      · refine G_aload2 13 d_Rel_build_12 rfl ?_
        refine G_getR 16 d_Rel_build_13 rfl f_Rel_31 rfl rs rf ?_
        refine G_iload4 18 d_Rel_build_16 rfl ?_
        refine G_ialoadv 19 d_Rel_build_18 rfl (by assumption) (ix_nI (by omega) (by omega)) e1 ?_
        refine G_istore5 21 d_Rel_build_19 rfl (by decide) rfl ?_
        refine G_aload0 22 d_Rel_build_21 rfl ?_
        refine G_aload1 23 d_Rel_build_22 rfl ?_
        refine G_iload5 25 d_Rel_build_23 rfl ?_
        refine G_invV2 28 d_Rel_build_25 rfl e_Rel_36 M_Rel_findGroups rfl h.s4 (Nat.le_of_ble_eq_true rfl) (Nat.le_of_ble_eq_true rfl) rfl (G.conseq (hfg) (fun r25 X25 FI25 AI25 AL25 h25 => ?_))
        obtain ⟨a1, a2, a3, a4, a5, a6⟩ := h25
        replace a2 := a2.symm
        replace a3 := a3.symm
        replace a4 := a4.symm
        subst a1 a2 a3 a4
        have j1 : ∀ c, c < lo + 36 ∨ lo + 40 < c → AI25 c = AI c := fun c hc => by rw [a5 c (by omega) (by omega)]; exact k1 c hc
        have j2 : RLt AI25 lo (PLs o (cLs Gt) r) := fun i q hq => by rw [a5 _ (by omega) (by omega), a5 _ (by omega) (by omega)]; exact k2 i q hq
        have j3 : ∀ d, d < 7 → eS (d + 1) ≤ r → AI25 (lo + 38) d = nI (PLs o (cLs Gt) (eS (d + 1))).length := fun d d7 hd => by rw [a5 _ (by omega) (by omega)]; exact k3 d d7 hd
        rcases Nat.eq_zero_or_pos (RN (cLs Gt) (rk o r)).length with hz | hz
        · have eg : gpF (RN (cLs Gt) (rk o r)) (RN (cLs Gt) (rk o r)).length = [] := by rw [hz]; rfl
          have epr : prsR (RN (cLs Gt) (rk o r)) = [] := by unfold prsR; rw [hz]; rfl
          rw [eg, List.length_nil]
          rw [epr, List.append_nil] at fin
          refine G_istore6 30 d_Rel_build_28 rfl (by decide) rfl ?_
          refine G_iconstN 1 31 d_Rel_build_30 rfl rfl ?_
          refine G_istore7 33 d_Rel_build_31 rfl (by decide) rfl ?_
          refine G_iload7 35 d_Rel_build_33 rfl ?_
          refine G_iload6 37 d_Rel_build_35 rfl ?_
          first | refine G_icgeN 81 40 d_Rel_build_37 rfl rfl (by omega) (by omega) (fun h37 => ?_) (fun h37 => ?_) | refine G_icge 81 40 d_Rel_build_37 rfl rfl (fun h37 => ?_) (fun h37 => ?_)
          · exact fin AI25 _ _ j1 j2 j3
          · omega
        · obtain ⟨q0, L, eg, e0, epr⟩ := prs_gp hz
          rw [eg] at a6 ⊢
          have hd0 := (a6 0 q0 rfl).2
          rw [e0] at hd0
          have hd0' : AI25 (lo + 40) 0 = nI ((RN (cLs Gt) (rk o r)).getD 0 0) := hd0
          have hG7 : (q0 :: L).length ≤ 7 := by rw [← eg]; exact gp7 (gl := gL Gt) (n := gN Gt) hn hl hp _ (Nat.le_refl _)
          rw [List.length_cons] at hG7
          have hpl : (prsR (RN (cLs Gt) (rk o r))).length = L.length := by rw [epr, List.length_map]
          rw [List.length_append, hpl] at hPr1
          have I : ∀ j, j ≤ L.length → ∀ AK : FT, (∀ c, c < lo + 36 ∨ lo + 40 < c → AK c = AI c) → RLt AK lo (PLs o (cLs Gt) r ++ (prsR (RN (cLs Gt) (rk o r))).take j) → (∀ c, c ≠ lo + 36 → c ≠ lo + 37 → AK c = AI25 c) → G V m_Rel_build (d + 4) 33 [some (.ref (lo + 35)), some (.ref (lo + 27)), some (.ref (lo + 2)), some (.int (nI ((PLs o (cLs Gt) r).length + j))), some (.int (nI r)), some (.int (nI (rk o r))), some (.int (nI (q0 :: L).length)), some (.int (nI (1 + j)))] [] X FI AK AL (fun r X' FI' AI' AL' => r = none ∧ X' = X ∧ FI' = FI ∧ AL' = AL ∧ (∀ c, c < lo + 36 ∨ lo + 40 < c → AI' c = AI c) ∧ RLt AI' lo (rlD o (cLs Gt) 6 84) ∧ ∀ d, 1 ≤ d → d ≤ 6 → AI' (lo + 38) d = nI (rlD o (cLs Gt) d 84).length) := by
            refine upto ?_ ?_
            · intro AK i1 i2 i3
              rw [← hpl, List.take_length] at i2
              have efin := fin AK (some (.int (nI (q0 :: L).length))) (some (.int (nI (1 + L.length)))) i1 i2 (fun d d7 hd => by rw [i3 _ (by omega) (by omega)]; exact j3 d d7 hd)
              rw [List.length_append, hpl] at efin
              have eln : (q0 :: L).length = L.length + 1 := List.length_cons
              refine G_iload7 35 d_Rel_build_33 rfl ?_
              refine G_iload6 37 d_Rel_build_35 rfl ?_
              first | refine G_icgeN 81 40 d_Rel_build_37 rfl rfl (by omega) (by omega) (fun h37 => ?_) (fun h37 => ?_) | refine G_icge 81 40 d_Rel_build_37 rfl rfl (fun h37 => ?_) (fun h37 => ?_)
              · exact efin
              · omega
            · intro j hj ihj AK i1 i2 i3
              have eln : (q0 :: L).length = L.length + 1 := List.length_cons
              have hLj : L[j]? = some L[j] := List.getElem?_eq_getElem hj
              have hh := (a6 (j + 1) L[j] (by rw [List.getElem?_cons_succ]; exact hLj)).2
              have hh0 : AK (lo + 40) 0 = nI ((RN (cLs Gt) (rk o r)).getD 0 0) := by rw [i3 _ (by omega) (by omega)]; exact hd0'
              have hhj : u2 AK (lo + 36) ((PLs o (cLs Gt) r).length + j) (nI ((RN (cLs Gt) (rk o r)).getD 0 0)) (lo + 40) (1 + j) = nI ((RN (cLs Gt) (rk o r)).getD L[j].2 0) := by
                rw [u2_ne _ _ _ _ (by omega), i3 _ (by omega) (by omega), Nat.add_comm 1 j]; exact hh
              have epj : (prsR (RN (cLs Gt) (rk o r)))[j]? = some ((RN (cLs Gt) (rk o r)).getD 0 0, (RN (cLs Gt) (rk o r)).getD L[j].2 0) := by
                rw [epr, List.getElem?_map, hLj]; rfl
              have etk : (prsR (RN (cLs Gt) (rk o r))).take (j + 1) = (prsR (RN (cLs Gt) (rk o r))).take j ++ [((RN (cLs Gt) (rk o r)).getD 0 0, (RN (cLs Gt) (rk o r)).getD L[j].2 0)] := by
                rw [List.take_succ, epj]; rfl
              have elk : (PLs o (cLs Gt) r ++ (prsR (RN (cLs Gt) (rk o r))).take j).length = (PLs o (cLs Gt) r).length + j := by
                rw [List.length_append, List.length_take, hpl]; omega
              rw [etk, ← List.append_assoc] at ihj
              refine G_iload7 35 d_Rel_build_33 rfl ?_
              refine G_iload6 37 d_Rel_build_35 rfl ?_
              first | refine G_icgeN 81 40 d_Rel_build_37 rfl rfl (by omega) (by omega) (fun h37 => ?_) (fun h37 => ?_) | refine G_icge 81 40 d_Rel_build_37 rfl rfl (fun h37 => ?_) (fun h37 => ?_)
              · omega
              · refine G_iload3 41 d_Rel_build_40 rfl ?_
                refine G_sipushN 344 44 d_Rel_build_41 rfl rfl ?_
                first | refine G_icgeN 81 47 d_Rel_build_44 rfl rfl (by omega) (by omega) (fun h44 => ?_) (fun h44 => ?_) | refine G_icge 81 47 d_Rel_build_44 rfl rfl (fun h44 => ?_) (fun h44 => ?_)
                · omega
                · refine G_aload0 48 d_Rel_build_47 rfl ?_
                  refine G_getR 51 d_Rel_build_48 rfl f_Rel_9 rfl (by assumption) z1 ?_
                  refine G_iload3 52 d_Rel_build_51 rfl ?_
                  refine G_aload0 53 d_Rel_build_52 rfl ?_
                  refine G_getR 56 d_Rel_build_53 rfl f_Rel_28 rfl (by assumption) z5 ?_
                  refine G_iconstN 0 57 d_Rel_build_56 rfl rfl ?_
                  refine G_ialoadv 58 d_Rel_build_57 rfl (by assumption) (ix_nI (by omega) (by omega)) hh0 ?_
                  refine G_iastore 59 d_Rel_build_58 rfl (by assumption) (ix_nI (by omega) (by omega)) ?_
                  refine G_aload0 60 d_Rel_build_59 rfl ?_
                  refine G_getR 63 d_Rel_build_60 rfl f_Rel_15 rfl (by assumption) z2' ?_
                  refine G_iload3 64 d_Rel_build_63 rfl ?_
                  refine G_aload0 65 d_Rel_build_64 rfl ?_
                  refine G_getR 68 d_Rel_build_65 rfl f_Rel_28 rfl (by assumption) z5 ?_
                  refine G_iload7 70 d_Rel_build_68 rfl ?_
                  refine G_ialoadv 71 d_Rel_build_70 rfl (by assumption) (ix_nI (by omega) (by omega)) hhj ?_
                  refine G_iastore 72 d_Rel_build_71 rfl (by assumption) (ix_nI (by omega) (by omega)) ?_
                  first | refine G_iincN3 75 d_Rel_build_72 rfl (by decide) rfl ?_ | refine G_iinc3 _ 75 d_Rel_build_72 rfl (by decide) rfl rfl ?_
                  first | refine G_iincN7 78 d_Rel_build_75 rfl (by decide) rfl ?_ | refine G_iinc7 _ 78 d_Rel_build_75 rfl (by decide) rfl rfl ?_
                  refine G_goto 33 d_Rel_build_78 rfl ?_
                  refine ihj _ (fun c hc => by rw [u2_off _ _ _ (by omega), u2_off _ _ _ (by omega)]; exact i1 c hc) (fun i q hq => ?_) (fun c c1 c2 => by rw [u2_off _ _ _ c2, u2_off _ _ _ c1]; exact i3 c c1 c2)
                  rcases get_snoc hq with ⟨c1, c2⟩ | ⟨c1, c2⟩
                  · rw [elk] at c1
                    obtain ⟨g1, g2⟩ := i2 i q c2
                    exact ⟨by rw [u2_ne _ _ _ _ (by omega), u2_ix _ _ (by omega)]; exact g1, by rw [u2_ix _ _ (by omega), u2_ne _ _ _ _ (by omega)]; exact g2⟩
                  · rw [elk] at c1
                    subst c1 c2
                    exact ⟨by rw [u2_ne _ _ _ _ (by omega), u2_at], by rw [u2_at]⟩
          refine G_istore6 30 d_Rel_build_28 rfl (by decide) rfl ?_
          refine G_iconstN 1 31 d_Rel_build_30 rfl rfl ?_
          refine G_istore7 33 d_Rel_build_31 rfl (by decide) rfl ?_
          exact I 0 (Nat.zero_le _) AI25 j1 (by rw [List.take_zero, List.append_nil]; exact j2) (fun _ _ _ => rfl)
  refine G_iconstN 0 1 d_Rel_build_0 rfl rfl ?_
  refine G_istore3 2 d_Rel_build_1 rfl (by decide) rfl ?_
  refine G_iconstN 0 3 d_Rel_build_2 rfl rfl ?_
  refine G_istore4 5 d_Rel_build_3 rfl (by decide) rfl ?_
  exact O 0 (by omega) AI _ _ _ (fun _ _ => rfl) (fun i q hq => by simp [PLs] at hq) (fun d' d7 hd => by have := eS_pos2 d' d7; omega)
