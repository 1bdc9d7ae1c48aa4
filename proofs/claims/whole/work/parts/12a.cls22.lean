/-! ===== the class: through ===== -/
theorem thR_len (f : Nat → Int64) : ∀ m, (thR f m).length ≤ m
  | 0 => Nat.le_refl 0
  | m + 1 => by
    rw [thR]
    have := thR_len f m
    split
    · omega
    · rw [List.length_cons]; omega
theorem thR_row (f : Nat → Int64) : ∀ m, ∀ q ∈ thR f m, q.2 < 2097152
  | 0 => fun q hq => by rw [thR] at hq; simp at hq
  | m + 1 => fun q hq => by
    rw [thR] at hq
    split at hq
    · exact thR_row f m q hq
    · rcases List.mem_cons.mp hq with e | e
      · rw [e]; exact pr3_lt (by omega)
      · exact thR_row f m q e
theorem pr3_s {t : Nat} : 0 + ex t 0 * un 0 + ex t 1 * un 1 + ex t 2 * un 2 = pr3 t := by
  unfold pr3 num
  simp only [numL, ex]
  simp
  omega
theorem CSt.sn {FI AI : FT} {AL : LT} {s : Nat} {L : List (Int64 × Nat)} {c : Int64} {r : Nat} (h : CSt FI AI AL s L) : CSt (u2 FI s 0 (nI (L.length + 1))) (u2 AI (s + 2) L.length (nI r)) (u2 AL (s + 1) L.length c) s (L ++ [(c, r)]) := by
  refine ⟨by rw [u2_at, List.length_append]; rfl, fun i q hq => ?_⟩
  by_cases e : i = L.length
  · subst e
    rw [List.getElem?_append_right (Nat.le_refl _), Nat.sub_self] at hq
    simp only [List.getElem?_cons_zero, Option.some.injEq] at hq
    subst hq
    rw [u2_at, u2_at]
    exact ⟨rfl, rfl⟩
  · have hl : i < L.length := by
      have : i < (L ++ [(c, r)]).length := (List.getElem?_eq_some_iff.mp hq).1
      rw [List.length_append, List.length_singleton] at this
      omega
    rw [List.getElem?_append_left hl] at hq
    rw [u2_ix _ _ e, u2_ix _ _ e]
    exact h.2 i q hq
theorem c_through {V : GV} {d lo C E : Nat} {S : ST} {s : Int32} {X : XT} {FI AI : FT} {AL : LT} (h : CO X lo) (hI : CIv C E S X FI AI AL lo) (hW : WS S) : G V m_Alg_through (d + 4) 0 [some (.ref lo), some (.int s), none, none, none] [] X FI AI AL (fun r X' FI' AI' AL' => r = some (.int (fThrough S s).1) ∧ CO X' lo ∧ CIv C E (fThrough S s).2 X' FI' AI' AL' lo ∧ cF X X' FI FI' AI AI' AL AL' lo) := by
  have wk := h.wk
  have wks := wk.1
  have spp := h.sp
  have sps := spp.1
  have hcb := hI.cb h
  have ho := hW.1
  have hn7 : gN (tG S) ≤ 7 := hI.2.2.1.2.1
  have gof := hI.2.2.1.1
  have hgl : ∀ i, i < gN (tG S) → gL (tG S) i < 84 ∧ 1 ≤ eD (gL (tG S) i) := fun i hi => ⟨(hW.2.1.2.1 i hi).1, (hW.2.1.2.1 i hi).2.1⟩
  obtain ⟨w, v, hwv, r10, r11, f13, hst⟩ := hI.2.2.2.2.2.2.2.2.2.1
  have hv : v = 60 ∨ v = 63 := by omega
  have stp := h.st hv
  have sts := stp.1
  refine G_iload1 1 d_Alg_through_0 rfl ?_
  refine G_invS1b 4 d_Alg_through_1 rfl e_Alg_119 M_Alg_isSlot (Nat.le_of_ble_eq_true rfl) (Nat.le_of_ble_eq_true rfl) rfl (s_isSlot) (fun h1 => G_ifne1 7 d_Alg_through_4 9 rfl rfl ?_) (fun h1 => G_ifne0 7 d_Alg_through_4 9 rfl rfl ?_)
  · obtain ⟨k, hk, rfl⟩ := h1
    have qk := bN_t hk (show 6 < 2 ^ 31 by omega)
    have zk := ni_nI (show k < 2 ^ 31 by omega)
    obtain ⟨ark, pok⟩ := h.sl hk
    have psk := pok.1
    have ek := hI.1 k hk
    simp only [fThrough, qk, zk, if_true]
    refine G_aload0 10 d_Alg_through_9 rfl ?_
    refine G_getR 13 d_Alg_through_10 rfl f_Alg_27 rfl h.sh h.f2 ?_
    refine G_getIv 16 d_Alg_through_13 rfl f_Alg_109 rfl h.s2 gof ?_
    refine G_iconstN 3 17 d_Alg_through_16 rfl rfl ?_
    first | refine G_icgeN 23 20 d_Alg_through_17 rfl rfl (by omega) (by omega) (fun h17 => ?_) (fun h17 => ?_) | refine G_icge 23 20 d_Alg_through_17 rfl rfl (fun h17 => ?_) (fun h17 => ?_)
    · have hge : ¬ gN (tG S) < 3 := by omega
      rw [if_neg hge]
      have hrd : ∀ t, t < 84 → rdeg (gL (tG S)) (pr3 t) (gN (tG S)) < 2 ^ 31 := by
        intro t ht
        rw [rdeg3 (by omega) hn7 ht]
        have e := e_le ht
        have d0 := (e_le (hgl 0 (by omega)).1).2.2.2.1
        have d1 := (e_le (hgl 1 (by omega)).1).2.2.2.1
        have d2 := (e_le (hgl 2 (by omega)).1).2.2.2.1
        have m0 : eX t * eD (gL (tG S) 0) ≤ 6 * 6 := Nat.mul_le_mul e.1 d0
        have m1 : eY t * eD (gL (tG S) 1) ≤ 6 * 6 := Nat.mul_le_mul e.2.1 d1
        have m2 : eZ t * eD (gL (tG S) 2) ≤ 6 * 6 := Nat.mul_le_mul e.2.2.1 d2
        omega
      have L : ∀ m, m ≤ 84 → ∀ (FJ AJ : FT) (BJ : LT) (L : List (Int64 × Nat)) (l3 l4 : Option Value), tF v C E (tG S) X X FI FJ AI AJ AL BJ lo → CSt FJ AJ BJ (lo + v) L → L ++ thR (tS S k) m = thR (tS S k) 84 → L.length ≤ 84 - m → (∀ q ∈ L, rdeg (gL (tG S)) q.2 (gN (tG S)) ≤ 6) → G V m_Alg_through (d + 4) 33 [some (.ref lo), some (.int (nI k)), some (.int (nI (84 - m))), l3, l4] [] X FJ AJ BJ (fun r X' FI' AI' AL' => r = some (.int (thF S k (tS S k) false (thR (tS S k) 84) 0).1) ∧ CO X' lo ∧ CIv C E (thF S k (tS S k) false (thR (tS S k) 84) 0).2 X' FI' AI' AL' lo ∧ cF X X' FI FI' AI AI' AL AL' lo) := by
        intro m
        induction m with
        | zero =>
          intro _ FJ AJ BJ L l3 l4 hF hS hL hlen hdg
          rw [thR, List.append_nil] at hL
          have hcb2 := hcb.tf hv hF
          have hss := s_sumSteps (V := V) (d := d) hcb2 hv hS (by omega) (fun q hq => by rw [hL] at hq; have := thR_row _ _ q hq; omega)
          obtain ⟨j1, j2⟩ := hI.tf hW hwv r10 hF
          have hth : thD (gL (tG S)) (gN (tG S)) (thR (tS S k) 84) = false := by
            rw [← hL]
            unfold thD
            rw [List.any_eq_false]
            intro q hq
            have := hdg q hq
            simp only [decide_eq_true_eq]
            omega
          unfold thF
          rw [if_neg (by rw [hth]; decide)]
          refine G_iload2 34 d_Alg_through_33 rfl ?_
          refine G_bipushN 84 36 d_Alg_through_34 rfl rfl ?_
          first | refine G_icgeN 128 39 d_Alg_through_36 rfl rfl (by omega) (by omega) (fun h36 => ?_) (fun h36 => ?_) | refine G_icge 128 39 d_Alg_through_36 rfl rfl (fun h36 => ?_) (fun h36 => ?_)
          · refine G_aload0 129 d_Alg_through_128 rfl ?_
            refine G_aload0 130 d_Alg_through_129 rfl ?_
            refine G_getR 133 d_Alg_through_130 rfl f_Alg_79 rfl h.sh r11 ?_
            refine G_invV1 136 d_Alg_through_133 rfl e_Alg_304 M_Alg_sumSteps rfl h.sh (Nat.le_of_ble_eq_true rfl) (Nat.le_of_ble_eq_true rfl) rfl (G.conseq (hss) (fun r133 X133 FI133 AI133 AL133 h133 => ?_))
            obtain ⟨b1, b2, b3, b4, b5⟩ := h133
            replace b1 := b1.symm
            replace b2 := b2.symm
            replace b3 := b3.symm
            subst b1 b2 b3
            rw [hL] at b5
            split at b5
            · rename_i hc
              rw [if_pos hc]
              subst b5
              refine G_ifeq 147 139 d_Alg_through_136 rfl rfl (fun h136 => ?_) (fun h136 => ?_)
              · refine G_bipush (-5) 149 d_Alg_through_147 rfl rfl ?_
                refine G_iret d_Alg_through_149 rfl ?_
                exact ⟨rfl, h, j1.wk hW b4, j2.tr (cF.al (fun c hc => b4 c (by omega) (by omega)))⟩
              · exact absurd rfl h136
            · rename_i hc
              rw [if_neg hc]
              obtain ⟨rfl, b6⟩ := b5
              refine G_ifeq 147 139 d_Alg_through_136 rfl rfl (fun h136 => ?_) (fun h136 => ?_)
              · exact absurd h136 (by decide)
              · refine G_aload0 140 d_Alg_through_139 rfl ?_
                refine G_iload1 141 d_Alg_through_140 rfl ?_
                refine G_invV1d 144 d_Alg_through_141 rfl e_Alg_178 M_Alg_putWork rfl h.sh (Nat.le_of_ble_eq_true rfl) (Nat.le_of_ble_eq_true rfl) rfl (s_putWork (by assumption) (by omega)) ?_
                refine G_goto 149 d_Alg_through_144 rfl ?_
                refine G_iret d_Alg_through_149 rfl ?_
                rw [b6]
                exact ⟨rfl, h, j1.s1 hW hk (fun c h1 h2 hc => by rw [sr_ne _ _ hc]; exact b4 c h1 h2) (sr_at _ _ _), j2.tr (cF.al (fun c hc => by rw [sr_ne _ _ (by omega)]; exact b4 c (by omega) (by omega)))⟩
          · omega
        | succ m ih =>
          intro hm FJ AJ BJ L l3 l4 hF hS hL hlen hdg
          have hF' := hF
          obtain ⟨b1, b2, b3, b4, b5, b6, b7⟩ := hF'
          have lez := b3.1
          have eB : BJ (lo + 67 + 2 * k) = tS S k := by rw [b6 _ (by omega) (by omega) (by omega) (by omega)]; exact ek
          have ev : BJ (lo + 67 + 2 * k) (83 - m) = tS S k (83 - m) := by rw [eB]
          have gof2 : FJ (lo + 4) 0 = nI (gN (tG S)) := by rw [b4 _ (by omega) (by omega)]; exact gof
          have ht : 83 - m < 84 := by omega
          rw [show 84 - (m + 1) = 83 - m by omega]
          by_cases hz : tS S k (83 - m) = 0
          · have hR : thR (tS S k) (m + 1) = thR (tS S k) m := by rw [thR, if_pos hz]
            rw [hR] at hL
            refine G_iload2 34 d_Alg_through_33 rfl ?_
            refine G_bipushN 84 36 d_Alg_through_34 rfl rfl ?_
            first | refine G_icgeN 128 39 d_Alg_through_36 rfl rfl (by omega) (by omega) (fun h36 => ?_) (fun h36 => ?_) | refine G_icge 128 39 d_Alg_through_36 rfl rfl (fun h36 => ?_) (fun h36 => ?_)
            · omega
            · refine G_aload0 40 d_Alg_through_39 rfl ?_
              refine G_getR 43 d_Alg_through_40 rfl f_Alg_13 rfl h.sh h.f0 ?_
              refine G_iload1 44 d_Alg_through_43 rfl ?_
              refine G_aaload 45 d_Alg_through_44 rfl h.s0 (by decide) (by decide) (ix_nI (by omega) (by omega)) (by assumption) ?_
              refine G_getR 48 d_Alg_through_45 rfl f_Alg_148 rfl (by assumption) pok.2.1 ?_
              refine G_iload2 49 d_Alg_through_48 rfl ?_
              refine G_laloadv 50 d_Alg_through_49 rfl pok.2.2 (ix_nI (by omega) (by omega)) ev ?_
              refine G_lconst 0 51 d_Alg_through_50 rfl rfl ?_
              refine G_lceq 122 55 d_Alg_through_51 d_Alg_through_52 rfl rfl (fun h51 => ?_) (fun h51 => ?_)
              · first | refine G_iincN2 125 d_Alg_through_122 rfl (by decide) rfl ?_ | refine G_iinc2 _ 125 d_Alg_through_122 rfl (by decide) rfl rfl ?_
                refine G_goto 33 d_Alg_through_125 rfl ?_
                rw [show 83 - m + 1 = 84 - m by omega]
                exact ih (by omega) FJ AJ BJ L _ _ hF hS hL (by omega) hdg
              · exact absurd hz h51
          · have hR : thR (tS S k) (m + 1) = (tS S k (83 - m), pr3 (83 - m)) :: thR (tS S k) m := by rw [thR, if_neg hz]
            rw [hR] at hL
            have hp := pr3_lt ht
            have hdo := s_degreeOfRow (V := V) (d := d + 2) (gl := gL (tG S)) (AI := AJ) (AL := BJ) h.go gof2 hn7 (fun i hi => ⟨by rw [show cga lo 2 = lo + 6 from rfl, b5 _ (by omega) (by omega)]; exact (hI.2.2.1.2.2 i hi).1, (hgl i hi).1⟩) (show pr3 (83 - m) < 2 ^ 31 by omega)
            have hr := hrd _ ht
            have hap := s_stepsAppend (V := V) (d := d + 3) (v := tS S k (83 - m)) (row := nI (pr3 (83 - m))) (AI := AJ) (AL := BJ) stp hS.1 (show L.length < 84 by omega)
            refine G_iload2 34 d_Alg_through_33 rfl ?_
            refine G_bipushN 84 36 d_Alg_through_34 rfl rfl ?_
            first | refine G_icgeN 128 39 d_Alg_through_36 rfl rfl (by omega) (by omega) (fun h36 => ?_) (fun h36 => ?_) | refine G_icge 128 39 d_Alg_through_36 rfl rfl (fun h36 => ?_) (fun h36 => ?_)
            · omega
            · refine G_aload0 40 d_Alg_through_39 rfl ?_
              refine G_getR 43 d_Alg_through_40 rfl f_Alg_13 rfl h.sh h.f0 ?_
              refine G_iload1 44 d_Alg_through_43 rfl ?_
              refine G_aaload 45 d_Alg_through_44 rfl h.s0 (by decide) (by decide) (ix_nI (by omega) (by omega)) (by assumption) ?_
              refine G_getR 48 d_Alg_through_45 rfl f_Alg_148 rfl (by assumption) pok.2.1 ?_
              refine G_iload2 49 d_Alg_through_48 rfl ?_
              refine G_laloadv 50 d_Alg_through_49 rfl pok.2.2 (ix_nI (by omega) (by omega)) ev ?_
              refine G_lconst 0 51 d_Alg_through_50 rfl rfl ?_
              refine G_lceq 122 55 d_Alg_through_51 d_Alg_through_52 rfl rfl (fun h51 => ?_) (fun h51 => ?_)
              · exact absurd h51 hz
              · refine G_iconstN 0 56 d_Alg_through_55 rfl rfl ?_
                refine G_istore3 57 d_Alg_through_56 rfl (by decide) rfl ?_
                refine G_iconstN 0 58 d_Alg_through_57 rfl rfl ?_
                refine G_istore4 60 d_Alg_through_58 rfl (by decide) rfl ?_
                refine G_iload4 62 d_Alg_through_60 rfl ?_
                refine G_iconstN 3 63 d_Alg_through_62 rfl rfl ?_
                first | refine G_icgeN 87 66 d_Alg_through_63 rfl rfl (by omega) (by omega) (fun h63 => ?_) (fun h63 => ?_) | refine G_icge 87 66 d_Alg_through_63 rfl rfl (fun h63 => ?_) (fun h63 => ?_)
                · omega
                · refine G_iload3 67 d_Alg_through_66 rfl ?_
                  refine G_iload2 68 d_Alg_through_67 rfl ?_
                  refine G_iload4 70 d_Alg_through_68 rfl ?_
                  refine G_invS2d 73 d_Alg_through_70 rfl e_Alg_203 M_Terms_exponent (Nat.le_of_ble_eq_true rfl) (Nat.le_of_ble_eq_true rfl) rfl (s_exponent (by omega) (by omega)) ?_
                  refine G_iload4 75 d_Alg_through_73 rfl ?_
                  refine G_invS1d 78 d_Alg_through_75 rfl e_Alg_295 M_Gen_unit (Nat.le_of_ble_eq_true rfl) (Nat.le_of_ble_eq_true rfl) rfl (s_unit (by omega)) ?_
                  first | refine G_imulN 79 d_Alg_through_78 rfl ?_ | refine G_imul 79 d_Alg_through_78 rfl ?_
                  first | refine G_iaddN 80 d_Alg_through_79 rfl ?_ | refine G_iadd 80 d_Alg_through_79 rfl ?_
                  refine G_istore3 81 d_Alg_through_80 rfl (by decide) rfl ?_
                  first | refine G_iincN4 84 d_Alg_through_81 rfl (by decide) rfl ?_ | refine G_iinc4 _ 84 d_Alg_through_81 rfl (by decide) rfl rfl ?_
                  refine G_goto 60 d_Alg_through_84 rfl ?_
                  refine G_iload4 62 d_Alg_through_60 rfl ?_
                  refine G_iconstN 3 63 d_Alg_through_62 rfl rfl ?_
                  first | refine G_icgeN 87 66 d_Alg_through_63 rfl rfl (by omega) (by omega) (fun h63 => ?_) (fun h63 => ?_) | refine G_icge 87 66 d_Alg_through_63 rfl rfl (fun h63 => ?_) (fun h63 => ?_)
                  · omega
                  · refine G_iload3 67 d_Alg_through_66 rfl ?_
                    refine G_iload2 68 d_Alg_through_67 rfl ?_
                    refine G_iload4 70 d_Alg_through_68 rfl ?_
                    refine G_invS2d 73 d_Alg_through_70 rfl e_Alg_203 M_Terms_exponent (Nat.le_of_ble_eq_true rfl) (Nat.le_of_ble_eq_true rfl) rfl (s_exponent (by omega) (by omega)) ?_
                    refine G_iload4 75 d_Alg_through_73 rfl ?_
                    refine G_invS1d 78 d_Alg_through_75 rfl e_Alg_295 M_Gen_unit (Nat.le_of_ble_eq_true rfl) (Nat.le_of_ble_eq_true rfl) rfl (s_unit (by omega)) ?_
                    first | refine G_imulN 79 d_Alg_through_78 rfl ?_ | refine G_imul 79 d_Alg_through_78 rfl ?_
                    first | refine G_iaddN 80 d_Alg_through_79 rfl ?_ | refine G_iadd 80 d_Alg_through_79 rfl ?_
                    refine G_istore3 81 d_Alg_through_80 rfl (by decide) rfl ?_
                    first | refine G_iincN4 84 d_Alg_through_81 rfl (by decide) rfl ?_ | refine G_iinc4 _ 84 d_Alg_through_81 rfl (by decide) rfl rfl ?_
                    refine G_goto 60 d_Alg_through_84 rfl ?_
                    refine G_iload4 62 d_Alg_through_60 rfl ?_
                    refine G_iconstN 3 63 d_Alg_through_62 rfl rfl ?_
                    first | refine G_icgeN 87 66 d_Alg_through_63 rfl rfl (by omega) (by omega) (fun h63 => ?_) (fun h63 => ?_) | refine G_icge 87 66 d_Alg_through_63 rfl rfl (fun h63 => ?_) (fun h63 => ?_)
                    · omega
                    · refine G_iload3 67 d_Alg_through_66 rfl ?_
                      refine G_iload2 68 d_Alg_through_67 rfl ?_
                      refine G_iload4 70 d_Alg_through_68 rfl ?_
                      refine G_invS2d 73 d_Alg_through_70 rfl e_Alg_203 M_Terms_exponent (Nat.le_of_ble_eq_true rfl) (Nat.le_of_ble_eq_true rfl) rfl (s_exponent (by omega) (by omega)) ?_
                      refine G_iload4 75 d_Alg_through_73 rfl ?_
                      refine G_invS1d 78 d_Alg_through_75 rfl e_Alg_295 M_Gen_unit (Nat.le_of_ble_eq_true rfl) (Nat.le_of_ble_eq_true rfl) rfl (s_unit (by omega)) ?_
                      first | refine G_imulN 79 d_Alg_through_78 rfl ?_ | refine G_imul 79 d_Alg_through_78 rfl ?_
                      first | refine G_iaddN 80 d_Alg_through_79 rfl ?_ | refine G_iadd 80 d_Alg_through_79 rfl ?_
                      refine G_istore3 81 d_Alg_through_80 rfl (by decide) rfl ?_
                      first | refine G_iincN4 84 d_Alg_through_81 rfl (by decide) rfl ?_ | refine G_iinc4 _ 84 d_Alg_through_81 rfl (by decide) rfl rfl ?_
                      refine G_goto 60 d_Alg_through_84 rfl ?_
                      refine G_iload4 62 d_Alg_through_60 rfl ?_
                      refine G_iconstN 3 63 d_Alg_through_62 rfl rfl ?_
                      first | refine G_icgeN 87 66 d_Alg_through_63 rfl rfl (by omega) (by omega) (fun h63 => ?_) (fun h63 => ?_) | refine G_icge 87 66 d_Alg_through_63 rfl rfl (fun h63 => ?_) (fun h63 => ?_)
                      · rw [pr3_s]
                        refine G_aload0 88 d_Alg_through_87 rfl ?_
                        refine G_getR 91 d_Alg_through_88 rfl f_Alg_27 rfl h.sh h.f2 ?_
                        refine G_iload3 92 d_Alg_through_91 rfl ?_
                        refine G_invV1d 95 d_Alg_through_92 rfl e_Alg_298 M_Gen_degreeOfRow rfl h.s2 (Nat.le_of_ble_eq_true rfl) (Nat.le_of_ble_eq_true rfl) rfl (hdo) ?_
                        refine G_bipushN 6 97 d_Alg_through_95 rfl rfl ?_
                        first | refine G_icleN 103 100 d_Alg_through_97 rfl rfl (by omega) (by omega) (fun h97 => ?_) (fun h97 => ?_) | refine G_icle 103 100 d_Alg_through_97 rfl rfl (fun h97 => ?_) (fun h97 => ?_)
                        · have hle : rdeg (gL (tG S)) (pr3 (83 - m)) (gN (tG S)) ≤ 6 := by omega
                          refine G_aload0 104 d_Alg_through_103 rfl ?_
                          refine G_getR 107 d_Alg_through_104 rfl f_Alg_79 rfl h.sh r11 ?_
                          refine G_aload0 108 d_Alg_through_107 rfl ?_
                          refine G_getR 111 d_Alg_through_108 rfl f_Alg_13 rfl h.sh h.f0 ?_
                          refine G_iload1 112 d_Alg_through_111 rfl ?_
                          refine G_aaload 113 d_Alg_through_112 rfl h.s0 (by decide) (by decide) (ix_nI (by omega) (by omega)) (by assumption) ?_
                          refine G_getR 116 d_Alg_through_113 rfl f_Alg_148 rfl (by assumption) pok.2.1 ?_
                          refine G_iload2 117 d_Alg_through_116 rfl ?_
                          refine G_laloadv 118 d_Alg_through_117 rfl pok.2.2 (ix_nI (by omega) (by omega)) ev ?_
                          refine G_iload3 119 d_Alg_through_118 rfl ?_
                          refine G_invV2v 122 d_Alg_through_119 rfl e_Alg_301 M_Steps_append rfl sts (Nat.le_of_ble_eq_true rfl) (Nat.le_of_ble_eq_true rfl) rfl (hap) ?_
                          first | refine G_iincN2 125 d_Alg_through_122 rfl (by decide) rfl ?_ | refine G_iinc2 _ 125 d_Alg_through_122 rfl (by decide) rfl rfl ?_
                          refine G_goto 33 d_Alg_through_125 rfl ?_
                          rw [show 83 - m + 1 = 84 - m by omega]
                          refine ih (by omega) _ _ _ (L ++ [(tS S k (83 - m), pr3 (83 - m))]) _ _ (hF.tr (tF.o hF.2.1 hF.2.2.1 hv (fun k hk => (hcb.2.2.2.2.2.2 k hk).1) (fun c hc => u2_off _ _ _ hc) (fun c hc => u2_off _ _ _ hc) (fun c _ _ hc => u2_off _ _ _ hc)) (by omega)) hS.sn (by rw [List.append_assoc]; exact hL) (by rw [List.length_append, List.length_singleton]; omega) (fun q hq => ?_)
                          rcases List.mem_append.mp hq with e | e
                          · exact hdg q e
                          · rw [List.mem_singleton.mp e]; exact hle
                        · have hlt : 6 < rdeg (gL (tG S)) (pr3 (83 - m)) (gN (tG S)) := by omega
                          have hth : thD (gL (tG S)) (gN (tG S)) (thR (tS S k) 84) = true := by
                            rw [← hL]
                            unfold thD
                            rw [List.any_eq_true]
                            exact ⟨_, List.mem_append_right _ (List.mem_cons_self), decide_eq_true hlt⟩
                          unfold thF
                          rw [if_pos (by rw [hth]; rfl)]
                          obtain ⟨j1, j2⟩ := hI.tf hW hwv r10 hF
                          refine G_bipush (-6) 102 d_Alg_through_100 rfl rfl ?_
                          refine G_iret d_Alg_through_102 rfl ?_
                          exact ⟨rfl, h, j1, j2⟩
                      · omega
      refine G_aload0 24 d_Alg_through_23 rfl ?_
      refine G_getR 27 d_Alg_through_24 rfl f_Alg_79 rfl h.sh r11 ?_
      refine G_iconstN 0 28 d_Alg_through_27 rfl rfl ?_
      refine G_putI 31 d_Alg_through_28 rfl f_Alg_294 rfl (by intro C T N h; cases h; rfl) sts rfl rfl ?_
      refine G_iconstN 0 32 d_Alg_through_31 rfl rfl ?_
      refine G_istore2 33 d_Alg_through_32 rfl (by decide) rfl ?_
      exact L 84 (Nat.le_refl _) _ _ _ [] _ _ (tF.o hI.2.2.2.2.1 hI.2.2.2.2.2.2.2.2.2.2.2 hv (fun k hk => (hcb.2.2.2.2.2.2 k hk).1) (fun c hc => u2_off _ _ _ hc) (fun c hc => rfl) (fun c _ _ hc => rfl)) ⟨u2_at _ _ _ _, fun i q hq => by simp at hq⟩ rfl (by simp) (fun q hq => by simp at hq)
    · have hlt : gN (tG S) < 3 := by omega
      rw [if_pos hlt]
      refine G_bipush (-3) 22 d_Alg_through_20 rfl rfl ?_
      refine G_iret d_Alg_through_22 rfl ?_
      exact ⟨rfl, h, hI, cF.rf⟩
  · have q1 := bN_f h1 (show 6 < 2 ^ 31 by omega)
    simp only [fThrough, q1, Bool.false_eq_true, if_false]
    refine G_iconst (-1) 8 d_Alg_through_7 rfl rfl ?_
    refine G_iret d_Alg_through_8 rfl ?_
    exact ⟨rfl, h, hI, cF.rf⟩
