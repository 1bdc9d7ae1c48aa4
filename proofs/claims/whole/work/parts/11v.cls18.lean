/-! ===== the class: complete, wouldGrow ===== -/
theorem CIv.f17 {C E lo : Nat} {S : ST} {X : XT} {FI AI : FT} {AL : LT} {v : Int32} (hI : CIv C E S X FI AI AL lo) (hW : WS S) : CIv C E S X (u2 FI lo 17 v) AI AL lo ∧ cF X X FI (u2 FI lo 17 v) AI AI AL AL lo := by
  obtain ⟨a1, a2, a3, a4, a5, a6, a7, a8, a9, a10, a11, a12⟩ := hI
  have fi : ∀ c, c ≠ lo → u2 FI lo 17 v c = FI c := fun c hc => u2_off _ _ _ hc
  have fj : ∀ j, j ≠ 17 → u2 FI lo 17 v lo j = FI lo j := fun j hj => u2_ix _ _ hj
  exact ⟨⟨a1, a2.tr (fi _ (by omega)) rfl, a3.tr (fi _ (by omega)) (fun _ _ _ => rfl) (fun _ _ _ => rfl), a4, a5, a6.tr (fj _ (by omega)) rfl rfl rfl, a7.tr (fj _ (by omega)) (fun _ _ _ => rfl), a8.tr (fun c _ _ => fi c (by omega)) (fun _ _ _ => rfl), a9.tr hW.2.2.2.2.2.1.1 (fj _ (by omega)) (fun c _ _ => fi c (by omega)) (fun _ _ _ => rfl), a10.tr (fj _ (by omega)) (fun c _ _ => fi c (by omega)) (fun _ _ _ => rfl) (fun _ _ _ => rfl), a11.tr (fun c _ => fi c (by omega)) (fun _ _ => rfl) (fun _ _ => rfl), a12⟩, cF.cl (fun c hc => fi c (by omega)) (fun _ _ => rfl) (fun _ _ => rfl)⟩
theorem stl_nz {o : Nat} {S : GT} {q : Nat × Nat} {e : Nat} (h : (stl o S q).1 = some e) : 1 ≤ e ∧ e ≤ 3 := by
  unfold stl at h
  split at h
  · injection h with h; omega
  · split at h
    · injection h with h; omega
    · split at h
      · cases h
      · split at h
        · injection h with h; omega
        · split at h
          · injection h with h; omega
          · cases h
theorem s_completeTo {V : GV} {d lo C E e : Nat} {S : ST} {X : XT} {FI AI : FT} {AL : LT} (h : CO X lo) (hI : CIv C E S X FI AI AL lo) (hW : WS S) (e1 : 1 ≤ e) (e6 : e ≤ 6) : G V m_Alg_completeTo (d + 6) 0 [some (.ref lo), some (.int (nI e)), none, none, none, none, none] [] X FI AI AL (fun r X' FI' AI' AL' => r = some (.int (nI (grw (tO S) e 8 (tG S) 0).1)) ∧ CO X' lo ∧ CIv C E (stG S (grw (tO S) e 8 (tG S) 0).2.1) X' FI' AI' AL' lo ∧ cF X X' FI FI' AI AI' AL AL' lo ∧ FI' lo 17 = nI (grw (tO S) e 8 (tG S) 0).2.2) := by
  have O : ∀ m rd, m + rd = 8 → ∀ (G1 : GT) (X1 : XT) (FJ AJ : FT) (BJ : LT) (v3 v4 v5 v6 : Option Value), CO X1 lo → CIv C E (stG S G1) X1 FJ AJ BJ lo → WS (stG S G1) → cF X X1 FI FJ AI AJ AL BJ lo → FJ lo 17 = nI rd → grw (tO S) e m G1 rd = (grw (tO S) e 8 (tG S) 0) → G V m_Alg_completeTo (d + 6) 7 [some (.ref lo), some (.int (nI e)), some (.int (nI rd)), v3, v4, v5, v6] [] X1 FJ AJ BJ (fun r X' FI' AI' AL' => r = some (.int (nI (grw (tO S) e 8 (tG S) 0).1)) ∧ CO X' lo ∧ CIv C E (stG S (grw (tO S) e 8 (tG S) 0).2.1) X' FI' AI' AL' lo ∧ cF X X' FI FI' AI AI' AL AL' lo ∧ FI' lo 17 = nI (grw (tO S) e 8 (tG S) 0).2.2) := by
    intro m
    induction m with
    | zero =>
      intro rd hm G1 X1 FJ AJ BJ v3 v4 v5 v6 k1 k2 k3 k4 k5 k6
      rw [grw] at k6
      rw [← k6]
      refine G_iload2 8 d_Alg_completeTo_7 rfl ?_
      refine G_bipushN 7 10 d_Alg_completeTo_8 rfl rfl ?_
      first | refine G_icgtN 110 13 d_Alg_completeTo_10 rfl rfl (by omega) (by omega) (fun h10 => ?_) (fun h10 => ?_) | refine G_icgt 110 13 d_Alg_completeTo_10 rfl rfl (fun h10 => ?_) (fun h10 => ?_)
      · refine G_iconstN 0 111 d_Alg_completeTo_110 rfl rfl ?_
        refine G_iret d_Alg_completeTo_111 rfl ?_
        exact ⟨rfl, k1, k2, k4, k5⟩
      · omega
    | succ m IH =>
      intro rd hm G1 X1 FJ AJ BJ v3 v4 v5 v6 k1 k2 k3 k4 k5 k6
      have f17 : ∀ v, u2 FJ lo 17 v lo 17 = v := fun v => u2_at _ _ _ _
      obtain ⟨j2, j4⟩ := k2.f17 (v := nI (rd + 1)) k3
      have hr := s_relNow2 (V := V) (d := d) k1 j2 k3
      have g0 : u2 FJ lo 17 (nI (rd + 1)) (lo + 4) 0 = nI (gN G1) := j2.2.2.1.1
      have hn7 : gN G1 ≤ 7 := k3.2.1.1
      have ho : tO S < 3 := k3.1
      have h344 := rl_344 j2 k3 e6
      have hgl : ∀ i, i < gN G1 → gL G1 i < 84 ∧ 1 ≤ eD (gL G1 i) := fun i hi => ⟨(k3.2.1.2.1 i hi).1, (k3.2.1.2.1 i hi).2.1⟩
      rw [grw] at k6
      have eTR : tRl (stG S G1) e = rlD (tO S) (leadL (gL G1) (gN G1)) e 84 := rfl
      rw [← eTR] at k6
      have I : ∀ i, i ≤ (tRl (stG S G1) e).length → ∀ (G2 : GT) (X2 : XT) (FK AK : FT) (BK : LT) (v6 : Option Value), CO X2 lo → CIv C E (stG S G2) X2 FK AK BK lo → WS (stG S G2) → cF X X2 FI FK AI AK AL BK lo → FK lo 17 = nI (rd + 1) → RLt AK lo (tRl (stG S G1) 6) → (∀ q ∈ (tRl (stG S G1) e).drop i, relQ (gL G2) (gN G2) q) → gN G1 ≤ gN G2 → rnd (tO S) ((tRl (stG S G1) e).drop i) G2 = rnd (tO S) (tRl (stG S G1) e) G1 → G V m_Alg_completeTo (d + 6) 44 [some (.ref lo), some (.int (nI e)), some (.int (nI rd)), some (.int (nI (gN G1))), some (.int (nI (tRl (stG S G1) e).length)), some (.int (nI i)), v6] [] X2 FK AK BK (fun r X' FI' AI' AL' => r = some (.int (nI (grw (tO S) e 8 (tG S) 0).1)) ∧ CO X' lo ∧ CIv C E (stG S (grw (tO S) e 8 (tG S) 0).2.1) X' FI' AI' AL' lo ∧ cF X X' FI FI' AI AI' AL AL' lo ∧ FI' lo 17 = nI (grw (tO S) e 8 (tG S) 0).2.2) := by
        refine upto ?_ ?_
        · intro G2 X2 FK AK BK v6 i1 i2 i3 i4 i5 i6 i7 i8 i9
          rw [List.drop_length, rnd] at i9
          rw [← i9] at k6
          dsimp only at k6
          have g2 : FK (lo + 4) 0 = nI (gN G2) := i2.2.2.1.1
          have hn72 : gN G2 ≤ 7 := i3.2.1.1
          refine G_iload5 46 d_Alg_completeTo_44 rfl ?_
          refine G_iload4 48 d_Alg_completeTo_46 rfl ?_
          first | refine G_icgeN 91 51 d_Alg_completeTo_48 rfl rfl (by omega) (by omega) (fun h48 => ?_) (fun h48 => ?_) | refine G_icge 91 51 d_Alg_completeTo_48 rfl rfl (fun h48 => ?_) (fun h48 => ?_)
          · refine G_aload0 92 d_Alg_completeTo_91 rfl ?_
            refine G_getR 95 d_Alg_completeTo_92 rfl f_Alg_27 rfl i1.sh i1.f2 ?_
            refine G_getIv 98 d_Alg_completeTo_95 rfl f_Alg_109 rfl i1.s2 g2 ?_
            refine G_iload3 99 d_Alg_completeTo_98 rfl ?_
            first | refine G_icneN 104 102 d_Alg_completeTo_99 rfl rfl (by omega) (by omega) (fun h99 => ?_) (fun h99 => ?_) | refine G_icne 104 102 d_Alg_completeTo_99 rfl rfl (fun h99 => ?_) (fun h99 => ?_)
            · rw [if_neg h99] at k6
              first | refine G_iincN2 107 d_Alg_completeTo_104 rfl (by decide) rfl ?_ | refine G_iinc2 _ 107 d_Alg_completeTo_104 rfl (by decide) rfl rfl ?_
              refine G_goto 7 d_Alg_completeTo_107 rfl ?_
              exact IH (rd + 1) (by omega) G2 X2 FK AK BK _ _ _ _ i1 i2 i3 i4 i5 k6
            · rw [if_pos h99] at k6
              rw [← k6]
              refine G_iconstN 0 103 d_Alg_completeTo_102 rfl rfl ?_
              refine G_iret d_Alg_completeTo_103 rfl ?_
              exact ⟨rfl, i1, i2, i4, i5⟩
          · omega
        · intro i hi ih G2 X2 FK AK BK v6 i1 i2 i3 i4 i5 i6 i7 i8 i9
          obtain ⟨rx0, ⟨rx1, rx2, -, -, -⟩, ry1, ry2, -, -, -⟩ := i1.rl
          have rz1 : x_FR X2 (lo + 35) 0 = some (lo + 36) := rx1
          have rz2 : x_FR X2 (lo + 35) 1 = some (lo + 37) := rx2
          have rw1 : x_sh X2 (lo + 36) = some (0, 344) := ry1
          have rw2 : x_sh X2 (lo + 37) = some (0, 344) := ry2
          have hq : (tRl (stG S G1) e)[i]? = some (tRl (stG S G1) e)[i] := List.getElem?_eq_getElem hi
          obtain ⟨f1, f2⟩ := i6 i _ (rl_pre ho e6 hq)
          rw [List.drop_eq_getElem_cons hi] at i7 i9
          have hrq := i7 _ List.mem_cons_self
          have hst := s_settle (V := V) (d := d) i1 i2 i3 hrq
          have i3g : WG (tO S) G2 := i3.2.1
          obtain ⟨o1, o2, o3⟩ := stl_ok (o := tO S) ho i3g hrq
          have ogx := stl_gx (o := tO S) (S := G2) (q := (tRl (stG S G1) e)[i])
          have hW3 : WS (stG S (stl (tO S) G2 (tRl (stG S G1) e)[i]).2) := ws_gx (S := stG S G2) i3 ogx o1
          rw [rnd] at i9
          have hnz := fun x => stl_nz (o := tO S) (S := G2) (q := (tRl (stG S G1) e)[i]) (e := x)
          refine G_iload5 46 d_Alg_completeTo_44 rfl ?_
          refine G_iload4 48 d_Alg_completeTo_46 rfl ?_
          first | refine G_icgeN 91 51 d_Alg_completeTo_48 rfl rfl (by omega) (by omega) (fun h48 => ?_) (fun h48 => ?_) | refine G_icge 91 51 d_Alg_completeTo_48 rfl rfl (fun h48 => ?_) (fun h48 => ?_)
          · omega
          · refine G_aload0 52 d_Alg_completeTo_51 rfl ?_
            refine G_aload0 53 d_Alg_completeTo_52 rfl ?_
            refine G_getR 56 d_Alg_completeTo_53 rfl f_Alg_41 rfl i1.sh i1.f4 ?_
            refine G_getR 59 d_Alg_completeTo_56 rfl f_Alg_347 rfl i1.s4 rz1 ?_
            refine G_iload5 61 d_Alg_completeTo_59 rfl ?_
            refine G_ialoadv 62 d_Alg_completeTo_61 rfl (by assumption) (ix_nI (by omega) (by omega)) f1 ?_
            refine G_aload0 63 d_Alg_completeTo_62 rfl ?_
            refine G_getR 66 d_Alg_completeTo_63 rfl f_Alg_41 rfl i1.sh i1.f4 ?_
            refine G_getR 69 d_Alg_completeTo_66 rfl f_Alg_350 rfl i1.s4 rz2 ?_
            refine G_iload5 71 d_Alg_completeTo_69 rfl ?_
            refine G_ialoadv 72 d_Alg_completeTo_71 rfl (by assumption) (ix_nI (by omega) (by omega)) f2 ?_
            refine G_invV2 75 d_Alg_completeTo_72 rfl e_Alg_470 M_Alg_settle rfl i1.sh (Nat.le_of_ble_eq_true rfl) (Nat.le_of_ble_eq_true rfl) rfl (G.conseq (hst) (fun r72 X72 FI72 AI72 AL72 h72 => ?_))
            obtain ⟨a1, a2, a3, a4, a5, a6, a7⟩ := h72
            subst a1
            have c3 := i4.tr a4
            have a3' : CIv C E (stG S (stl (tO S) G2 (tRl (stG S G1) e)[i]).2) X72 FI72 AI72 AL72 lo := a3
            have etl : (stl (tO (stG S G2)) (tG (stG S G2)) (tRl (stG S G1) e)[i]) = stl (tO S) G2 (tRl (stG S G1) e)[i] := rfl
            rw [etl]
            have a7' : FI72 lo 17 = nI (rd + 1) := a7.trans i5
            cases hs : stl (tO S) G2 (tRl (stG S G1) e)[i] with
            | mk x G3 =>
              rw [hs] at i9 a3' o1 o2 o3 hW3 hnz
              cases x with
              | some x =>
                have i9' : (some x, G3) = rnd (tO S) (tRl (stG S G1) e) G1 := i9
                rw [← i9'] at k6
                have hx := hnz x rfl
                rw [← k6]
                show G V m_Alg_completeTo (d + 6) 75 _ [.int (nI x)] _ _ _ _ _
                refine G_istore6 77 d_Alg_completeTo_75 rfl (by decide) rfl ?_
                refine G_iload6 79 d_Alg_completeTo_77 rfl ?_
                refine G_ifeq 85 82 d_Alg_completeTo_79 rfl rfl (fun h79 => ?_) (fun h79 => ?_)
                · exact absurd h79 (nI_ne0 (by omega) (by omega))
                · refine G_iload6 84 d_Alg_completeTo_82 rfl ?_
                  refine G_iret d_Alg_completeTo_84 rfl ?_
                  exact ⟨rfl, a2, a3', c3, a7'⟩
              | none =>
                have i9' : rnd (tO S) ((tRl (stG S G1) e).drop (i + 1)) G3 = rnd (tO S) (tRl (stG S G1) e) G1 := i9
                show G V m_Alg_completeTo (d + 6) 75 _ [.int (nI 0)] _ _ _ _ _
                refine G_istore6 77 d_Alg_completeTo_75 rfl (by decide) rfl ?_
                refine G_iload6 79 d_Alg_completeTo_77 rfl ?_
                refine G_ifeq 85 82 d_Alg_completeTo_79 rfl rfl (fun h79 => ?_) (fun h79 => ?_)
                · first | refine G_iincN5 88 d_Alg_completeTo_85 rfl (by decide) rfl ?_ | refine G_iinc5 _ 88 d_Alg_completeTo_85 rfl (by decide) rfl rfl ?_
                  refine G_goto 44 d_Alg_completeTo_88 rfl ?_
                  refine ih G3 _ _ _ _ _ a2 a3' hW3 c3 a7' (fun j p hp => ?_) (fun p hp => (i7 p (List.mem_cons_of_mem _ hp)).up o2 o1.1 o3) (Nat.le_trans i8 o2) i9'
                  rw [a5 _ (by omega) (by omega), a5 _ (by omega) (by omega)]; exact i6 j p hp
                · exact absurd rfl h79
      refine G_iload2 8 d_Alg_completeTo_7 rfl ?_
      refine G_bipushN 7 10 d_Alg_completeTo_8 rfl rfl ?_
      first | refine G_icgtN 110 13 d_Alg_completeTo_10 rfl rfl (by omega) (by omega) (fun h10 => ?_) (fun h10 => ?_) | refine G_icgt 110 13 d_Alg_completeTo_10 rfl rfl (fun h10 => ?_) (fun h10 => ?_)
      · omega
      · refine G_aload0 14 d_Alg_completeTo_13 rfl ?_
        refine G_dup 15 d_Alg_completeTo_14 rfl rfl ?_
        refine G_getIv 18 d_Alg_completeTo_15 rfl f_Alg_100 rfl k1.sh k5 ?_
        refine G_iconstN 1 19 d_Alg_completeTo_18 rfl rfl ?_
        first | refine G_iaddN 20 d_Alg_completeTo_19 rfl ?_ | refine G_iadd 20 d_Alg_completeTo_19 rfl ?_
        refine G_putI 23 d_Alg_completeTo_20 rfl f_Alg_100 rfl (by intro C T N h; cases h; rfl) k1.sh rfl rfl ?_
        refine G_aload0 24 d_Alg_completeTo_23 rfl ?_
        refine G_getR 27 d_Alg_completeTo_24 rfl f_Alg_27 rfl k1.sh k1.f2 ?_
        refine G_getIv 30 d_Alg_completeTo_27 rfl f_Alg_109 rfl k1.s2 g0 ?_
        refine G_istore3 31 d_Alg_completeTo_30 rfl (by decide) rfl ?_
        refine G_aload0 32 d_Alg_completeTo_31 rfl ?_
        refine G_invV0 35 d_Alg_completeTo_32 rfl e_Alg_336 M_Alg_relationsNow rfl k1.sh (Nat.le_of_ble_eq_true rfl) (Nat.le_of_ble_eq_true rfl) rfl (G.conseq (hr) (fun r32 X32 FI32 AI32 AL32 h32 => ?_))
        obtain ⟨a1, a2, a3, a4, a5, a6, a7⟩ := h32
        replace a2 := a2.symm
        replace a3 := a3.symm
        subst a1 a2 a3
        have hct := s_countTo (V := V) (d := d + 5) (FI := FI32) (AL := BJ) k1 a6 e1 e6
        have f17' : FI32 lo 17 = nI (rd + 1) := by rw [a7 17 (by omega)]; exact u2_at _ _ _ _
        refine G_iload1 36 d_Alg_completeTo_35 rfl ?_
        refine G_invV1d 39 d_Alg_completeTo_36 rfl e_Alg_340 M_Rel_countTo rfl k1.s4 (Nat.le_of_ble_eq_true rfl) (Nat.le_of_ble_eq_true rfl) rfl (hct) ?_
        refine G_istore4 41 d_Alg_completeTo_39 rfl (by decide) rfl ?_
        refine G_iconstN 0 42 d_Alg_completeTo_41 rfl rfl ?_
        refine G_istore5 44 d_Alg_completeTo_42 rfl (by decide) rfl ?_
        refine I 0 (Nat.zero_le _) G1 X1 FI32 AI32 BJ _ k1 a4 k3 ((k4.tr j4).tr a5) f17' a6.1 (fun q hq => ?_) (Nat.le_refl _) rfl
        exact rlD_ok ho hn7 hgl 84 (Nat.le_refl _) (by rw [List.drop_zero] at hq; exact hq)
  obtain ⟨j2, j4⟩ := hI.f17 (v := nI 0) hW
  refine G_aload0 1 d_Alg_completeTo_0 rfl ?_
  refine G_iconstN 0 2 d_Alg_completeTo_1 rfl rfl ?_
  refine G_putI 5 d_Alg_completeTo_2 rfl f_Alg_100 rfl (by intro C T N h; cases h; rfl) h.sh rfl rfl ?_
  refine G_iconstN 0 6 d_Alg_completeTo_5 rfl rfl ?_
  refine G_istore2 7 d_Alg_completeTo_6 rfl (by decide) rfl ?_
  exact O 8 0 rfl (tG S) X _ AI AL _ _ _ _ h j2 hW j4 (u2_at _ _ _ _) rfl
