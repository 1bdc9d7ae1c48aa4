/-! ===== the class finds all ROWS ===== -/
def FD (AI0 AI1 : FT) (ta : Nat → Nat) (Ls : List Nat) (c : Nat) : Prop :=
  (∀ b, b ≠ ta 2 → b ≠ ta 3 → b ≠ ta 4 → AI1 b = AI0 b) ∧ ∀ (c' : Nat) (v : List Nat), c' < c → (rowsD Ls 6)[c']? = some v → AI1 (ta 2) c' = nI (num v) ∧ AI1 (ta 3) c' = nI (vpl Ls v)
theorem s_find {V : GV} {d t g n : Nat} {ta ga po qo gl : Nat → Nat} {X : XT} {FI AI : FT} {AL : LT} (hT : TO X t ta) (hG : GO X g ga po qo) (hL : GLd FI AI g ga n gl) (hga : ∀ i, i < 7 → ga 2 ≠ ta i) (hE : (rowsD (leadL gl n) 6).length ≤ 344) :
    G V m_Tab_find (d + 2) 0 [some (.ref t), some (.ref g), none, none, none, none] [] X FI AI AL (fun r X' FI' AI' AL' => r = some (.int (nI (rowsD (leadL gl n) 6).length)) ∧ X' = X ∧ FI' = FI ∧ AL' = AL ∧ FD AI AI' ta (leadL gl n) (rowsD (leadL gl n) 6).length) := by
  have hT0 := hT
  have hG0 := hG
  have hL0 := hL
  obtain ⟨t0, r0, r1, r2, r3, r4, r5, r6, q0, q1, q2, q3, q4, q5, q6, hinj⟩ := hT
  obtain ⟨h1, f1, f2, f3, f4, f5, f6, f7, f8, s1, s2, -⟩ := hG
  obtain ⟨hn, hn7, hl⟩ := hL
  have n23 : ta 2 ≠ ta 3 := fun e => by have := hinj 2 3 (by omega) (by omega) e; omega
  have n24 : ta 2 ≠ ta 4 := fun e => by have := hinj 2 4 (by omega) (by omega) e; omega
  have n34 : ta 3 ≠ ta 4 := fun e => by have := hinj 3 4 (by omega) (by omega) e; omega
  obtain ⟨c0, cs⟩ := (rowsD_chn (leadL gl n) 6).ix
  have hll := leadL_len gl n
  have hmem : ∀ {c : Nat} {v : List Nat}, (rowsD (leadL gl n) 6)[c]? = some v → v.length = n ∧ vdeg (leadL gl n) v ≤ 6 := fun h => by
    have := rowsD_mem _ _ _ (List.mem_of_getElem? h)
    rw [hll] at this
    exact this
  have LG : ∀ {AI1 : FT} {c : Nat}, FD AI AI1 ta (leadL gl n) c → GLd FI AI1 g ga n gl := fun hF => ⟨hn, hn7, fun i hi => by rw [hF.1 _ (hga 2 (by omega)) (hga 3 (by omega)) (hga 4 (by omega))]; exact hl i hi⟩
  -- what the loop ends in
  have fin : ∀ (AI1 : FT) (rm : Nat) (l5 : Option Value), FD AI AI1 ta (leadL gl n) (rowsD (leadL gl n) 6).length → G V m_Tab_find (d + 2) 14 [some (.ref t), some (.ref g), some (.int (nI rm)), some (.int (nI (rowsD (leadL gl n) 6).length)), some (.int (nI 0)), l5] [] X FI AI1 AL (fun r X' FI' AI' AL' => r = some (.int (nI (rowsD (leadL gl n) 6).length)) ∧ X' = X ∧ FI' = FI ∧ AL' = AL ∧ FD AI AI' ta (leadL gl n) (rowsD (leadL gl n) 6).length) := by
    intro AI1 rm l5 hF
    refine G_iload4 16 d_Tab_find_14 rfl ?_
    refine G_ifeq 112 19 d_Tab_find_16 rfl rfl (fun h16 => ?_) (fun h16 => ?_)
    · refine G_iload3 113 d_Tab_find_112 rfl ?_
      refine G_iret d_Tab_find_113 rfl ?_
      exact ⟨rfl, rfl, rfl, rfl, hF⟩
    · exact absurd rfl h16
  have L : ∀ c, c ≤ (rowsD (leadL gl n) 6).length → ∀ (v : List Nat) (AI1 : FT) (l5 : Option Value), (rowsD (leadL gl n) 6)[c]? = some v → FD AI AI1 ta (leadL gl n) c → (∀ j, j < n → AI1 (ta 4) j = nI (v.getD j 0)) →
      G V m_Tab_find (d + 2) 14 [some (.ref t), some (.ref g), some (.int (nI (6 - vdeg (leadL gl n) v))), some (.int (nI c)), some (.int (nI 1)), l5] [] X FI AI1 AL (fun r X' FI' AI' AL' => r = some (.int (nI (rowsD (leadL gl n) 6).length)) ∧ X' = X ∧ FI' = FI ∧ AL' = AL ∧ FD AI AI' ta (leadL gl n) (rowsD (leadL gl n) 6).length) := by
    refine upto ?_ ?_
    · intro v AI1 l5 hv
      rw [List.getElem?_eq_none (Nat.le_refl _)] at hv
      cases hv
    · intro c hc ih v AI1 l5 hv hF hP
      obtain ⟨v1, v2⟩ := hmem hv
      have hnx := cs c v hv
      have hF2 : FD AI (u2 (u2 AI1 (ta 2) c (nI (num v))) (ta 3) c (nI (vpl (leadL gl n) v))) ta (leadL gl n) (c + 1) := by
        refine ⟨fun b b2 b3 b4 => by rw [u2_off _ _ _ b3, u2_off _ _ _ b2]; exact hF.1 b b2 b3 b4, fun c' v' hc' hv' => ?_⟩
        by_cases e : c' = c
        · subst e
          rw [hv] at hv'
          cases hv'
          rw [u2_at, u2_ne _ _ _ _ n23, u2_at]
          exact ⟨rfl, rfl⟩
        · rw [u2_ix _ _ e, u2_ne _ _ _ _ n23, u2_ix _ _ e, u2_ne _ _ _ _ n23.symm]
          exact hF.2 c' v' (by omega) hv'
      have hP2 : ∀ j, j < n → (u2 (u2 AI1 (ta 2) c (nI (num v))) (ta 3) c (nI (vpl (leadL gl n) v))) (ta 4) j = nI (v.getD j 0) := fun j hj => by
        rw [u2_ne _ _ _ _ n34.symm, u2_ne _ _ _ _ n24.symm]; exact hP j hj
      have hnote := s_note (V := V) (d := d) (FI := FI) (AI := AI1) (AL := AL) hT0 hG0 (LG hF) (i := c) (by omega) v1 hP v2
      generalize (u2 (u2 AI1 (ta 2) c (nI (num v))) (ta 3) c (nI (vpl (leadL gl n) v))) = AI2 at hF2 hP2 hnote
      have out1 : ∀ (k : Nat) (v' : List Nat) (AI3 : FT), k ≤ 7 → (rowsD (leadL gl n) 6)[c + 1]? = some v' → FD AI AI3 ta (leadL gl n) (c + 1) → (∀ j, j < n → AI3 (ta 4) j = nI (v'.getD j 0)) → G V m_Tab_find (d + 2) 46 [some (.ref t), some (.ref g), some (.int (nI (6 - vdeg (leadL gl n) v'))), some (.int (nI (c + 1))), some (.int (nI 1)), some (.int (dI k))] [] X FI AI3 AL (fun r X' FI' AI' AL' => r = some (.int (nI (rowsD (leadL gl n) 6).length)) ∧ X' = X ∧ FI' = FI ∧ AL' = AL ∧ FD AI AI' ta (leadL gl n) (rowsD (leadL gl n) 6).length) := by
        intro k v' AI3 hk hv' hF3 hP3
        refine G_iload5 48 d_Tab_find_46 rfl ?_
        first | refine G_ifltD 109 51 d_Tab_find_48 rfl rfl (by omega) (fun h48 => ?_) (fun j h48 => ?_) | refine G_iflt 109 51 d_Tab_find_48 rfl rfl (fun h48 => ?_) (fun h48 => ?_)
        · refine G_goto 14 d_Tab_find_109 rfl ?_
          exact ih v' AI3 _ hv' hF3 hP3
        · refine G_iload4 53 d_Tab_find_51 rfl ?_
          refine G_ifne 109 56 d_Tab_find_53 rfl rfl (fun h53 => ?_) (fun h53 => ?_)
          · refine G_goto 14 d_Tab_find_109 rfl ?_
            exact ih v' AI3 _ hv' hF3 hP3
          · exact absurd h53 (by decide)
      have inn : ∀ k, k ≤ n → (∀ i p, k ≤ i → v[i]? = some p → p = 0) → G V m_Tab_find (d + 2) 46 [some (.ref t), some (.ref g), some (.int (nI (6 - vdeg (leadL gl n) v))), some (.int (nI (c + 1))), some (.int (nI 0)), some (.int (dI k))] [] X FI AI2 AL (fun r X' FI' AI' AL' => r = some (.int (nI (rowsD (leadL gl n) 6).length)) ∧ X' = X ∧ FI' = FI ∧ AL' = AL ∧ FD AI AI' ta (leadL gl n) (rowsD (leadL gl n) 6).length) := by
        refine downto ?_ ?_
        · intro _ hz
          have hno : (rowsD (leadL gl n) 6)[c + 1]? = none := by
            rw [hnx]
            exact nxt_none _ _ _ (fun p hp => by
              obtain ⟨i, hi⟩ := List.getElem?_of_mem hp
              exact hz i p (Nat.zero_le _) hi)
          have hlen : c + 1 = (rowsD (leadL gl n) 6).length := by
            have := List.getElem?_eq_none_iff.mp hno
            omega
          refine G_iload5 48 d_Tab_find_46 rfl ?_
          first | refine G_ifltD 109 51 d_Tab_find_48 rfl rfl (by omega) (fun h48 => ?_) (fun j h48 => ?_) | refine G_iflt 109 51 d_Tab_find_48 rfl rfl (fun h48 => ?_) (fun h48 => ?_)
          · refine G_goto 14 d_Tab_find_109 rfl ?_
            have := fin AI2 (6 - vdeg (leadL gl n) v) (some (.int (dI 0))) (by rw [← hlen]; exact hF2)
            rw [← hlen] at this ⊢
            exact this
          · omega
        · intro j ihj hj hz
          have hjl : j < v.length := by omega
          have hvj : v[j]? = some v[j] := List.getElem?_eq_getElem hjl
          have hgd : v.getD j 0 = v[j] := by simp [List.getD, hvj]
          obtain ⟨a1, a2, a3⟩ := (LG hF2).2.2 j (by omega)
          have e2 := e_le a2
          have hp8 := hP2 j (by omega)
          rw [hgd] at hp8
          rw [dI_s]
          have hdj : v[j] * eD (gl j) ≤ 6 := by
            have hcut := vdeg_cut (Ls := leadL gl n) (by rw [hll]; exact v1) hvj (fun i q hi hq => hz i q (by omega) hq)
            rw [leadL_getD gl (by omega)] at hcut
            omega
          have hvj6 : v[j] ≤ 6 := Nat.le_trans (Nat.le_mul_of_pos_right _ (by omega)) hdj
          refine G_iload5 48 d_Tab_find_46 rfl ?_
          first | refine G_ifltD 109 51 d_Tab_find_48 rfl rfl (by omega) (fun h48 => ?_) (fun j h48 => ?_) | refine G_iflt 109 51 d_Tab_find_48 rfl rfl (fun h48 => ?_) (fun h48 => ?_)
          · exact absurd h48 (nI_pos (by omega))
          · refine G_iload4 53 d_Tab_find_51 rfl ?_
            refine G_ifne 109 56 d_Tab_find_53 rfl rfl (fun h53 => ?_) (fun h53 => ?_)
            · exact absurd rfl h53
            · refine G_aload0 57 d_Tab_find_56 rfl ?_
              refine G_getR 60 d_Tab_find_57 rfl f_Tab_26 rfl (by assumption) (by assumption) ?_
              refine G_iload5 62 d_Tab_find_60 rfl ?_
              refine G_ialoadv 63 d_Tab_find_62 rfl (by assumption) (ix_nI (by omega) (by omega)) hp8 ?_
              refine G_ifle 103 66 d_Tab_find_63 rfl rfl (fun h63 => ?_) (fun h63 => ?_)
              · first | refine G_iinc5 _ 106 d_Tab_find_103 rfl (by decide) rfl (dI_m1 _) ?_ | refine G_iinc5 _ 106 d_Tab_find_103 rfl (by decide) rfl rfl ?_
                refine G_goto 46 d_Tab_find_106 rfl ?_
                refine ihj (by omega) (fun i p hi hp => ?_)
                by_cases e : i = j
                · subst e
                  rw [hvj] at hp
                  cases hp
                  rcases Nat.eq_zero_or_pos v[i] with z | z
                  · exact z
                  · exact absurd h63 (nI_nle z (by omega))
                · exact hz i p (by omega) hp
              · obtain ⟨q, hq⟩ : ∃ q, v[j] = q + 1 := by
                  rcases Nat.eq_zero_or_pos v[j] with z | z
                  · exact absurd (by rw [z]; decide) h63
                  · exact ⟨v[j] - 1, by omega⟩
                have hvq : v[j]? = some (q + 1) := by rw [hvj, hq]
                have hz2 : ∀ i p, j < i → v[i]? = some p → p = 0 := fun i p hi hp => hz i p (by omega) hp
                have hcut := vdeg_cut (Ls := leadL gl n) (by rw [hll]; exact v1) hvq hz2
                have hns := nxt_some (leadL gl n) 6 v j q (by rw [hll]; exact v1) hvq hz2
                rw [leadL_getD gl (by omega)] at hcut hns
                have hsucc : (q + 1) * eD (gl j) = q * eD (gl j) + eD (gl j) := Nat.succ_mul _ _
                have hroom : 6 - vdeg (leadL gl n) v + eD (gl j) = 6 - vdeg ((leadL gl n).take j) (v.take j) - q * eD (gl j) := by omega
                rw [hns] at hnx
                rw [hq] at hp8
                have hP3 : GLd FI (u2 AI2 (ta 4) j (nI q)) g ga n gl := ⟨hn, hn7, fun i hi => by rw [u2_ne _ _ _ _ (hga 4 (by omega))]; exact (LG hF2).2.2 i hi⟩
                have hfill := s_fill (V := V) (d := d + 1) (FI := FI) (AI := u2 AI2 (ta 4) j (nI q)) (AL := AL) hT0 hG0 hP3 (hga 4 (by omega)) (h0 := j + 1) (room := 6 - vdeg (leadL gl n) v + eD (gl j)) (by omega) (by omega)
                have hfd := fill_deg ((leadL gl n).drop (j + 1)) (6 - vdeg (leadL gl n) v + eD (gl j))
                have hvs := vdeg_set (Ls := leadL gl n) (v := v) (w := fillV ((leadL gl n).drop (j + 1)) (6 - vdeg ((leadL gl n).take j) (v.take j) - q * eD (gl j))) (j := j) (q := q) (by omega) (by omega)
                rw [leadL_getD gl (by omega)] at hvs
                rw [hroom] at hfill hfd
                have hm2 := hmem hnx
                generalize hw9 : fillV ((leadL gl n).drop (j + 1)) (6 - vdeg ((leadL gl n).take j) (v.take j) - q * eD (gl j)) = w9 at hfill hfd hvs hnx hm2
                have hrm : fillR ((leadL gl n).drop (j + 1)) (6 - vdeg ((leadL gl n).take j) (v.take j) - q * eD (gl j)) = 6 - vdeg (leadL gl n) (v.take j ++ q :: w9) := by omega
                rw [hrm] at hfill
                refine G_aload0 67 d_Tab_find_66 rfl ?_
                refine G_getR 70 d_Tab_find_67 rfl f_Tab_26 rfl (by assumption) (by assumption) ?_
                refine G_iload5 72 d_Tab_find_70 rfl ?_
                refine G_dup2 73 d_Tab_find_72 rfl rfl rfl ?_
                refine G_ialoadv 74 d_Tab_find_73 rfl (by assumption) (ix_nI (by omega) (by omega)) hp8 ?_
                refine G_iconstN 1 75 d_Tab_find_74 rfl rfl ?_
                first | refine G_isubN 76 d_Tab_find_75 rfl (by omega) ?_ | refine G_isub 76 d_Tab_find_75 rfl ?_
                refine G_iastore 77 d_Tab_find_76 rfl (by assumption) (ix_nI (by omega) (by omega)) ?_
                rw [show q + 1 - 1 = q by omega]
                refine G_aload0 78 d_Tab_find_77 rfl ?_
                refine G_aload1 79 d_Tab_find_78 rfl ?_
                refine G_iload5 81 d_Tab_find_79 rfl ?_
                refine G_iconstN 1 82 d_Tab_find_81 rfl rfl ?_
                first | refine G_iaddN 83 d_Tab_find_82 rfl ?_ | refine G_iadd 83 d_Tab_find_82 rfl ?_
                refine G_iload2 84 d_Tab_find_83 rfl ?_
                refine G_gets 0 87 d_Tab_find_84 rfl rfl s_Tab_68 ?_
                refine G_aload1 88 d_Tab_find_87 rfl ?_
                refine G_getR 91 d_Tab_find_88 rfl f_Tab_71 rfl (by assumption) (by assumption) ?_
                refine G_iload5 93 d_Tab_find_91 rfl ?_
                refine G_ialoadv 94 d_Tab_find_93 rfl (by assumption) (ix_nI (by omega) (by omega)) (by rw [u2_ne _ _ _ _ (hga 4 (by omega))]; exact a1 : _ = nI (gl j)) ?_
                refine G_st0 95 d_Tab_find_94 rfl (ix_nI (by omega) (by omega)) ?_
                first | refine G_iaddN 96 d_Tab_find_95 rfl ?_ | refine G_iadd 96 d_Tab_find_95 rfl ?_
                rw [hroom]
                refine G_invV3d 99 d_Tab_find_96 rfl e_Tab_56 M_Tab_fill rfl (by assumption) (Nat.le_of_ble_eq_true rfl) (Nat.le_of_ble_eq_true rfl) rfl (hfill) ?_
                refine G_istore2 100 d_Tab_find_99 rfl (by decide) rfl ?_
                refine G_iconstN 1 101 d_Tab_find_100 rfl rfl ?_
                refine G_istore4 103 d_Tab_find_101 rfl (by decide) rfl ?_
                first | refine G_iinc5 _ 106 d_Tab_find_103 rfl (by decide) rfl (dI_m1 _) ?_ | refine G_iinc5 _ 106 d_Tab_find_103 rfl (by decide) rfl rfl ?_
                refine G_goto 46 d_Tab_find_106 rfl ?_
                refine out1 j _ _ (by omega) hnx ⟨fun b b2 b3 b4 => ?_, fun c' v' hc' hv' => ?_⟩ (fun i hi => ?_)
                · rw [sr_ne _ _ b4, u2_off _ _ _ b4]
                  exact hF2.1 b b2 b3 b4
                · rw [sr_ne _ _ n24, sr_ne _ _ n34, u2_ne _ _ _ _ n24, u2_ne _ _ _ _ n34]
                  exact hF2.2 c' v' hc' hv'
                · rw [sr_at, getD_mid (by omega)]
                  by_cases c1 : i < j
                  · rw [if_neg (by omega), if_pos c1, u2_ix _ _ (by omega)]
                    exact hP2 i hi
                  · rw [if_neg c1]
                    by_cases c2 : i = j
                    · subst c2
                      rw [if_neg (by omega), if_pos rfl, u2_at]
                    · rw [if_neg c2, if_pos (by omega)]
      refine G_iload4 16 d_Tab_find_14 rfl ?_
      refine G_ifeq 112 19 d_Tab_find_16 rfl rfl (fun h16 => ?_) (fun h16 => ?_)
      · exact absurd h16 (by decide)
      · refine G_iload3 20 d_Tab_find_19 rfl ?_
        refine G_sipushN 344 23 d_Tab_find_20 rfl rfl ?_
        first | refine G_icgeN 112 26 d_Tab_find_23 rfl rfl (by omega) (by omega) (fun h23 => ?_) (fun h23 => ?_) | refine G_icge 112 26 d_Tab_find_23 rfl rfl (fun h23 => ?_) (fun h23 => ?_)
        · omega
        · refine G_aload0 27 d_Tab_find_26 rfl ?_
          refine G_aload1 28 d_Tab_find_27 rfl ?_
          refine G_iload3 29 d_Tab_find_28 rfl ?_
          refine G_invV2v 32 d_Tab_find_29 rfl e_Tab_60 M_Tab_note rfl (by assumption) (Nat.le_of_ble_eq_true rfl) (Nat.le_of_ble_eq_true rfl) rfl (hnote) ?_
          first | refine G_iincN3 35 d_Tab_find_32 rfl (by decide) rfl ?_ | refine G_iinc3 _ 35 d_Tab_find_32 rfl (by decide) rfl rfl ?_
          refine G_iconstN 0 36 d_Tab_find_35 rfl rfl ?_
          refine G_istore4 38 d_Tab_find_36 rfl (by decide) rfl ?_
          refine G_aload1 39 d_Tab_find_38 rfl ?_
          refine G_getIv 42 d_Tab_find_39 rfl f_Tab_64 rfl (by assumption) hn ?_
          refine G_iconstN 1 43 d_Tab_find_42 rfl rfl ?_
          refine G_isub 44 d_Tab_find_43 rfl ?_
          rw [show nI n - nI 1 = dI n from rfl]
          refine G_istore5 46 d_Tab_find_44 rfl (by decide) rfl ?_
          exact inn n (Nat.le_refl _) (fun i p hi hp => by
            have := (List.getElem?_eq_some_iff.mp hp).1
            omega)
  have hfill := s_fill (V := V) (d := d + 1) (FI := FI) (AI := AI) (AL := AL) hT0 hG0 hL0 (hga 4 (by omega)) (h0 := 0) (room := 6) (by omega) (by omega)
  have hfd := fill_deg (leadL gl n) 6
  rw [List.drop_zero] at hfill
  refine G_aload0 1 d_Tab_find_0 rfl ?_
  refine G_aload1 2 d_Tab_find_1 rfl ?_
  refine G_iconstN 0 3 d_Tab_find_2 rfl rfl ?_
  refine G_bipushN 6 5 d_Tab_find_3 rfl rfl ?_
  refine G_invV3d 8 d_Tab_find_5 rfl e_Tab_56 M_Tab_fill rfl (by assumption) (Nat.le_of_ble_eq_true rfl) (Nat.le_of_ble_eq_true rfl) rfl (hfill) ?_
  refine G_istore2 9 d_Tab_find_8 rfl (by decide) rfl ?_
  refine G_iconstN 0 10 d_Tab_find_9 rfl rfl ?_
  refine G_istore3 11 d_Tab_find_10 rfl (by decide) rfl ?_
  refine G_iconstN 1 12 d_Tab_find_11 rfl rfl ?_
  refine G_istore4 14 d_Tab_find_12 rfl (by decide) rfl ?_
  have := L 0 (by omega) (fillV (leadL gl n) 6) (sr AI (ta 4) (fun j => if 0 ≤ j ∧ j < n then nI ((fillV (leadL gl n) 6).getD (j - 0) 0) else AI (ta 4) j)) none c0 ⟨fun b b2 b3 b4 => sr_ne _ _ b4, fun c' v' hc' hv' => absurd hc' (by omega)⟩ (fun j hj => by rw [sr_at, if_pos (by omega), Nat.sub_zero])
  rw [show 6 - vdeg (leadL gl n) (fillV (leadL gl n) 6) = fillR (leadL gl n) 6 by omega] at this
  exact this
