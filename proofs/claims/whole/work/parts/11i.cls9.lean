/-! ===== the class: SUBDUCTION ===== -/
/-- what taking apart leaves; v: the steps that are written -/
def tF (v C E : Nat) (Gt : GT) (X X' : XT) (FI FI' AI AI' : FT) (AL AL' : LT) (lo : Nat) : Prop := xK X X' lo ∧ CPr Gt X' AI' AL' lo ∧ CRm C E X' lo ∧ (∀ c, c < x_sz X → c ≠ lo + v → FI' c = FI c) ∧ (∀ c, c ≠ lo + 34 → c ≠ lo + v + 2 → AI' c = AI c) ∧ (∀ c, c < lo + 150 → c ≠ lo + 57 → c ≠ lo + 59 → c ≠ lo + v + 1 → AL' c = AL c) ∧ ∀ k c, x_FR X lo 12 = some k → k + 36 < x_sz X → k ≤ c → c ≤ k + 36 → AL' c = AL c
theorem tF.tr {v C E lo : Nat} {Gt : GT} {X X1 X2 : XT} {FI FI1 FI2 AI AI1 AI2 : FT} {AL AL1 AL2 : LT} (h : tF v C E Gt X X1 FI FI1 AI AI1 AL AL1 lo) (k : tF v C E Gt X1 X2 FI1 FI2 AI1 AI2 AL1 AL2 lo) (hz : lo < x_sz X) : tF v C E Gt X X2 FI FI2 AI AI2 AL AL2 lo := by
  obtain ⟨a1, a2, a3, a4, a5, a6, a7⟩ := h
  obtain ⟨b1, b2, b3, b4, b5, b6, b7⟩ := k
  have hs := a1.1
  refine ⟨a1.tr b1, b2, b3, fun c hc h1 => (b4 c (by omega) h1).trans (a4 c hc h1), fun c hc h1 => (b5 c hc h1).trans (a5 c hc h1), fun c hc h1 h2 h3 => (b6 c hc h1 h2 h3).trans (a6 c hc h1 h2 h3), fun k c h1 h2 h3 h4 => (b7 k c (by rw [(a1.2 lo hz).2.1]; exact h1) (by omega) h3 h4).trans (a7 k c h1 h2 h3 h4)⟩
theorem tF.p {v C E lo : Nat} {Gt : GT} {X X' : XT} {FI FI' AI AI' : FT} {AL AL' : LT} (h : pF C E Gt X X' FI FI' AI AI' AL AL' lo) : tF v C E Gt X X' FI FI' AI AI' AL AL' lo := by
  obtain ⟨a1, a2, a3, a4, a5, a6, a7⟩ := h
  exact ⟨a1, a2, a3, fun c hc _ => a4 c hc, fun c hc _ => a5 c hc, fun c hc _ _ _ => a6 c hc, a7⟩
/-- numbers in the class's own cells -/
theorem tF.o {v C E lo : Nat} {Gt : GT} {X : XT} {FI FI' AI AI' : FT} {AL AL' : LT} (hP : CPr Gt X AI AL lo) (hR : CRm C E X lo) (hv : v = 60 ∨ v = 63) (hK : ∀ k, x_FR X lo 12 = some k → lo + 150 ≤ k) (k1 : ∀ c, c ≠ lo + v → FI' c = FI c) (k2 : ∀ c, c ≠ lo + v + 2 → AI' c = AI c) (k3 : ∀ c, c ≠ lo + 57 → c ≠ lo + 59 → c ≠ lo + v + 1 → AL' c = AL c) : tF v C E Gt X X FI FI' AI AI' AL AL' lo :=
  ⟨xK.rf, hP.tr (k2 _ (by omega)) (fun c hc => k3 c (by omega) (by omega) (by omega)), hR, fun c _ h1 => k1 c h1, fun c _ h1 => k2 c h1, fun c _ h1 h2 h3 => k3 c h1 h2 h3, fun k c h1 _ h3 h4 => by have := hK k h1; exact k3 c (by omega) (by omega) (by omega)⟩
/-- what is known of GENERATORS and the rest while they are worked with -/
def CB (C E o : Nat) (Gt : GT) (X : XT) (FI AI : FT) (AL : LT) (lo : Nat) : Prop := CO X lo ∧ COd o FI AI lo ∧ CGs Gt FI AI AL (lo + 4) ∧ CTb Gt AI lo ∧ CPr Gt X AI AL lo ∧ CRm C E X lo ∧ ∀ k, x_FR X lo 12 = some k → lo + 150 ≤ k ∧ k + 36 < x_sz X
theorem CB.tf {v C E o lo : Nat} {Gt : GT} {X X' : XT} {FI FI' AI AI' : FT} {AL AL' : LT} (h : CB C E o Gt X FI AI AL lo) (hv : v = 60 ∨ v = 63) (k : tF v C E Gt X X' FI FI' AI AI' AL AL' lo) : CB C E o Gt X' FI' AI' AL' lo := by
  obtain ⟨a1, a2, a3, a4, a5, a6, a7⟩ := h
  obtain ⟨b1, b2, b3, b4, b5, b6, b7⟩ := k
  have hz := a6.1
  refine ⟨a1.xk b1 hz, a2.tr (b4 _ (by omega) (by omega)) (b5 _ (by omega) (by omega)), a3.tr (b4 _ (by omega) (by omega)) (fun c _ _ => b5 c (by omega) (by omega)) (fun c _ _ => b6 c (by omega) (by omega) (by omega) (by omega)), a4.tr (b5 _ (by omega) (by omega)) (b5 _ (by omega) (by omega)), b2, b3, fun k hk => ?_⟩
  have := a7 k (by rw [← (b1.2 lo (by omega)).2.1]; exact hk)
  have := b1.1
  omega
theorem CIv.cb {C E lo : Nat} {S : ST} {X : XT} {FI AI : FT} {AL : LT} (h : CO X lo) (hI : CIv C E S X FI AI AL lo) : CB C E (tO S) (tG S) X FI AI AL lo := by
  obtain ⟨a1, a2, a3, a4, a5, a6, a7, a8, a9, a10, a11, a12⟩ := hI
  refine ⟨h, a2, a3, a4, a5, a12, fun k hk => ?_⟩
  cases hx : tX S with
  | none =>
    rw [hx] at a11
    have : x_FR X lo 12 = none := a11
    rw [this] at hk; cases hk
  | some K =>
    rw [hx] at a11
    obtain ⟨k', h1, h2, h3, -⟩ := a11
    rw [h1] at hk
    injection hk with hk
    omega
theorem CB.cost {C E o lo r : Nat} {Gt : GT} {X : XT} {FI AI : FT} {AL : LT} (h : CB C E o Gt X FI AI AL lo) : cost (AL (cga lo 3)) (pw r) (gN Gt) = cost (fun g => norm (gP Gt g)) (pw r) (gN Gt) :=
  cost_congr (fun i hi => (h.2.2.1.2.2 i hi).2.2.1) (fun _ _ => rfl)
theorem CB.prod {C E o lo r : Nat} {Gt : GT} {X : XT} {FI AI : FT} {AL : LT} (h : CB C E o Gt X FI AI AL lo) : prodP (fun i => AL (cqo lo i)) (pw r) (gN Gt) = prodP (gP Gt) (pw r) (gN Gt) :=
  prodP_cu2 _ (fun i hi => by
    have := (h.2.2.1.2.2 i hi).2.1
    rw [show lo + 4 + 10 + 2 * i = lo + 14 + 2 * i by omega] at this
    show cu (AL (lo + 14 + 2 * i)) = _
    rw [this]) (fun _ _ => rfl)
theorem s_takeApart {V : GV} {d lo v C E o : Nat} {Gt : GT} {X : XT} {FI AI : FT} {AL : LT} (h : CB C E o Gt X FI AI AL lo) (hv : v = 60 ∨ v = 63) (ho : o < 3) (hl : ∀ i, i < gN Gt → gL Gt i < 84 ∧ 1 ≤ eD (gL Gt i)) : G V m_Alg_takeApart (d + 4) 0 [some (.ref lo), some (.ref (lo + v)), none, none, none, none, none, none, none] [] X FI AI AL (fun r X' FI' AI' AL' => tF v C E Gt X X' FI FI' AI AI' AL AL' lo ∧ match apt o (gN Gt) (cLs Gt) (gP Gt) 84 (AL (lo + 57)) [] with
      | none => r = some (.int (nI 0))
      | some q => r = some (.int (nI 1)) ∧ AL' (lo + 57) = q.1 ∧ CSt FI' AI' AL' (lo + v) q.2 ∧ q.2.length ≤ 84) := by
  have L : ∀ k, k ≤ 84 → ∀ (X1 : XT) (FJ AJ : FT) (BJ : LT) (st : List (Int64 × Nat)) (l3 l4 l5 l6 l7 l8 : Option Value), tF v C E Gt X X1 FI FJ AI AJ AL BJ lo → CSt FJ AJ BJ (lo + v) st → st.length + k ≤ 84 → apt o (gN Gt) (cLs Gt) (gP Gt) k (BJ (lo + 57)) st = apt o (gN Gt) (cLs Gt) (gP Gt) 84 (AL (lo + 57)) [] → G V m_Alg_takeApart (d + 4) 8 [some (.ref lo), some (.ref (lo + v)), some (.int (dI k)), l3, l4, l5, l6, l7, l8] [] X1 FJ AJ BJ (fun r X' FI' AI' AL' => tF v C E Gt X X' FI FI' AI AI' AL AL' lo ∧ match apt o (gN Gt) (cLs Gt) (gP Gt) 84 (AL (lo + 57)) [] with
      | none => r = some (.int (nI 0))
      | some q => r = some (.int (nI 1)) ∧ AL' (lo + 57) = q.1 ∧ CSt FI' AI' AL' (lo + v) q.2 ∧ q.2.length ≤ 84) := by
    intro k
    induction k with
    | zero =>
      intro _ X1 FJ AJ BJ st l3 l4 l5 l6 l7 l8 hF hst hlen hap
      rw [← hap]
      refine G_iload2 9 d_Alg_takeApart_8 rfl ?_
      first | refine G_ifltD 138 12 d_Alg_takeApart_9 rfl rfl (by omega) (fun h9 => ?_) (fun j h9 => ?_) | refine G_iflt 138 12 d_Alg_takeApart_9 rfl rfl (fun h9 => ?_) (fun h9 => ?_)
      · refine G_iconstN 1 139 d_Alg_takeApart_138 rfl rfl ?_
        refine G_zret d_Alg_takeApart_139 rfl ?_ ?_
        · exact Or.inr rfl
        · exact ⟨hF, rfl, rfl, hst, by simp only; omega⟩
      · omega
    | succ k ih =>
      intro hk X1 FJ AJ BJ st l3 l4 l5 l6 l7 l8 hF hst hlen hap
      have hc := h.tf hv hF
      obtain ⟨c1, c2, c3, c4, c5, c6, c7⟩ := id hc
      have rkk := c1.rk
      have rs := rkk.1
      have rf := rkk.2.1
      have rq := rkk.2.2
      have wk := c1.wk
      have wks := wk.1
      have wf := wk.2.1
      have wq := wk.2.2
      have e1 := c2.2 k (by omega)
      have e2 := (rk_ok o ho k (by omega)).2.2.1
      have hn7 := c3.2.1
      have hzx := h.2.2.2.2.2.1.1
      rw [apt] at hap
      rw [dI_s]
      have skip : ∀ (m4 m5 m6 m7 m8 : Option Value), apt o (gN Gt) (cLs Gt) (gP Gt) k (BJ (lo + 57)) st = apt o (gN Gt) (cLs Gt) (gP Gt) 84 (AL (lo + 57)) [] → G V m_Alg_takeApart (d + 4) 132 [some (.ref lo), some (.ref (lo + v)), some (.int (nI k)), some (.int (nI (rk o k))), m4, m5, m6, m7, m8] [] X1 FJ AJ BJ (fun r X' FI' AI' AL' => tF v C E Gt X X' FI FI' AI AI' AL AL' lo ∧ match apt o (gN Gt) (cLs Gt) (gP Gt) 84 (AL (lo + 57)) [] with
      | none => r = some (.int (nI 0))
      | some q => r = some (.int (nI 1)) ∧ AL' (lo + 57) = q.1 ∧ CSt FI' AI' AL' (lo + v) q.2 ∧ q.2.length ≤ 84) := by
        intro m4 m5 m6 m7 m8 hap2
        first | refine G_iinc2 _ 135 d_Alg_takeApart_132 rfl (by decide) rfl (dI_m1 _) ?_ | refine G_iinc2 _ 135 d_Alg_takeApart_132 rfl (by decide) rfl rfl ?_
        refine G_goto 8 d_Alg_takeApart_135 rfl ?_
        exact ih (by omega) X1 FJ AJ BJ st _ _ _ _ _ _ hF hst (by omega) hap2
      refine G_iload2 9 d_Alg_takeApart_8 rfl ?_
      first | refine G_ifltD 138 12 d_Alg_takeApart_9 rfl rfl (by omega) (fun h9 => ?_) (fun j h9 => ?_) | refine G_iflt 138 12 d_Alg_takeApart_9 rfl rfl (fun h9 => ?_) (fun h9 => ?_)
      · exact absurd h9 (nI_pos (by omega))
      · by_cases hz : BJ (lo + 57) (rk o k) = 0
        · rw [if_pos hz] at hap
          refine G_aload0 13 d_Alg_takeApart_12 rfl ?_
          refine G_getR 16 d_Alg_takeApart_13 rfl f_Alg_20 rfl c1.sh c1.f1 ?_
          refine G_getR 19 d_Alg_takeApart_16 rfl f_Alg_226 rfl c1.s1 (by assumption) ?_
          refine G_iload2 20 d_Alg_takeApart_19 rfl ?_
          refine G_ialoadv 21 d_Alg_takeApart_20 rfl (by assumption) (ix_nI (by omega) (by omega)) e1 ?_
          refine G_istore3 22 d_Alg_takeApart_21 rfl (by decide) rfl ?_
          refine G_aload0 23 d_Alg_takeApart_22 rfl ?_
          refine G_getR 26 d_Alg_takeApart_23 rfl f_Alg_65 rfl c1.sh c1.f8 ?_
          refine G_getR 29 d_Alg_takeApart_26 rfl f_Alg_148 rfl c1.s8 (by assumption) ?_
          refine G_iload3 30 d_Alg_takeApart_29 rfl ?_
          refine G_laload 31 d_Alg_takeApart_30 rfl (by assumption) (ix_nI (by omega) (by omega)) ?_
          refine G_lstore4 33 d_Alg_takeApart_31 rfl (by decide) rfl ?_
          refine G_lload4 35 d_Alg_takeApart_33 rfl ?_
          refine G_lconst 0 36 d_Alg_takeApart_35 rfl rfl ?_
          refine G_lceq 132 40 d_Alg_takeApart_36 d_Alg_takeApart_37 rfl rfl (fun h36 => ?_) (fun h36 => ?_)
          · exact skip _ _ _ _ _ hap
          · exact absurd hz h36
        · rw [if_neg hz] at hap
          have hca := s_countAt (V := V) (d := d + 3) (FI := FJ) (AL := BJ) c1.to c4 e2
          refine G_aload0 13 d_Alg_takeApart_12 rfl ?_
          refine G_getR 16 d_Alg_takeApart_13 rfl f_Alg_20 rfl c1.sh c1.f1 ?_
          refine G_getR 19 d_Alg_takeApart_16 rfl f_Alg_226 rfl c1.s1 (by assumption) ?_
          refine G_iload2 20 d_Alg_takeApart_19 rfl ?_
          refine G_ialoadv 21 d_Alg_takeApart_20 rfl (by assumption) (ix_nI (by omega) (by omega)) e1 ?_
          refine G_istore3 22 d_Alg_takeApart_21 rfl (by decide) rfl ?_
          refine G_aload0 23 d_Alg_takeApart_22 rfl ?_
          refine G_getR 26 d_Alg_takeApart_23 rfl f_Alg_65 rfl c1.sh c1.f8 ?_
          refine G_getR 29 d_Alg_takeApart_26 rfl f_Alg_148 rfl c1.s8 (by assumption) ?_
          refine G_iload3 30 d_Alg_takeApart_29 rfl ?_
          refine G_laload 31 d_Alg_takeApart_30 rfl (by assumption) (ix_nI (by omega) (by omega)) ?_
          refine G_lstore4 33 d_Alg_takeApart_31 rfl (by decide) rfl ?_
          refine G_lload4 35 d_Alg_takeApart_33 rfl ?_
          refine G_lconst 0 36 d_Alg_takeApart_35 rfl rfl ?_
          refine G_lceq 132 40 d_Alg_takeApart_36 d_Alg_takeApart_37 rfl rfl (fun h36 => ?_) (fun h36 => ?_)
          · exact absurd h36 hz
          · cases hR : RT (cLs Gt) (rk o k) with
            | nil =>
              have hRN : RN (cLs Gt) (rk o k) = [] := by unfold RN; rw [hR]; rfl
              rw [hRN] at hap
              rw [hR] at hca
              refine G_aload0 41 d_Alg_takeApart_40 rfl ?_
              refine G_getR 44 d_Alg_takeApart_41 rfl f_Alg_34 rfl c1.sh c1.f3 ?_
              refine G_iload3 45 d_Alg_takeApart_44 rfl ?_
              refine G_invV1d 48 d_Alg_takeApart_45 rfl e_Alg_266 M_Tab_countAt rfl c1.s3 (Nat.le_of_ble_eq_true rfl) (Nat.le_of_ble_eq_true rfl) rfl (hca) ?_
              refine G_ifle 132 51 d_Alg_takeApart_48 rfl rfl (fun h48 => ?_) (fun h48 => ?_)
              · exact skip _ _ _ _ _ hap
              · exact absurd (by decide) h48
            | cons u us =>
              have hRN : RN (cLs Gt) (rk o k) = num u :: us.map num := by unfold RN; rw [hR]; rfl
              rw [hRN] at hap
              simp only at hap
              have h0 : (RT (cLs Gt) (rk o k))[0]? = some u := by rw [hR]; rfl
              obtain ⟨o1, o2, o3, o4, o5, o6⟩ := RT_ok hn7 hl h0
              have hu31 : num u < 2 ^ 31 := by omega
              have hlenR : (RT (cLs Gt) (rk o k)).length ≤ 344 := by
                obtain ⟨S, hS⟩ := c4
                have := (hS _ e2).2.2.1
                omega
              have hpos : 0 < (RT (cLs Gt) (rk o k)).length := by rw [hR]; simp
              have hro := s_rowAt (V := V) (d := d + 3) (FI := FJ) (AL := BJ) c1.to c4 e2 h0
              have hco := s_costOf (V := V) (d := d + 2) (AI := AJ) (AL := BJ) c1.go c3.1 hn7 hu31
              rw [hc.cost] at hco
              have hfp := s_firstProduct (V := V) (d := d) c1 c3 c4 c5 c6 (fun k hk => (c7 k hk).2) e2 h0 hu31
              refine G_aload0 41 d_Alg_takeApart_40 rfl ?_
              refine G_getR 44 d_Alg_takeApart_41 rfl f_Alg_34 rfl c1.sh c1.f3 ?_
              refine G_iload3 45 d_Alg_takeApart_44 rfl ?_
              refine G_invV1d 48 d_Alg_takeApart_45 rfl e_Alg_266 M_Tab_countAt rfl c1.s3 (Nat.le_of_ble_eq_true rfl) (Nat.le_of_ble_eq_true rfl) rfl (hca) ?_
              refine G_ifle 132 51 d_Alg_takeApart_48 rfl rfl (fun h48 => ?_) (fun h48 => ?_)
              · exact absurd h48 (nI_nle hpos (by omega))
              · refine G_aload0 52 d_Alg_takeApart_51 rfl ?_
                refine G_getR 55 d_Alg_takeApart_52 rfl f_Alg_34 rfl c1.sh c1.f3 ?_
                refine G_iload3 56 d_Alg_takeApart_55 rfl ?_
                refine G_iconstN 0 57 d_Alg_takeApart_56 rfl rfl ?_
                refine G_invV2d 60 d_Alg_takeApart_57 rfl e_Alg_308 M_Tab_rowAt rfl c1.s3 (Nat.le_of_ble_eq_true rfl) (Nat.le_of_ble_eq_true rfl) rfl (hro) ?_
                refine G_istore6 62 d_Alg_takeApart_60 rfl (by decide) rfl ?_
                refine G_lload4 64 d_Alg_takeApart_62 rfl ?_
                refine G_invS1d 67 d_Alg_takeApart_64 rfl e_Alg_463 M_Math_abs_JJ (Nat.le_of_ble_eq_true rfl) (Nat.le_of_ble_eq_true rfl) rfl (s_labs) ?_
                refine G_aload0 68 d_Alg_takeApart_67 rfl ?_
                refine G_getR 71 d_Alg_takeApart_68 rfl f_Alg_27 rfl c1.sh c1.f2 ?_
                refine G_iload6 73 d_Alg_takeApart_71 rfl ?_
                refine G_invV1d 76 d_Alg_takeApart_73 rfl e_Alg_455 M_Gen_costOf rfl c1.s2 (Nat.le_of_ble_eq_true rfl) (Nat.le_of_ble_eq_true rfl) rfl (hco) ?_
                refine G_invS2d 79 d_Alg_takeApart_76 rfl e_Alg_163 M_Alg_productOrAbove (Nat.le_of_ble_eq_true rfl) (Nat.le_of_ble_eq_true rfl) rfl (s_prodA) ?_
                refine G_lstore7 81 d_Alg_takeApart_79 rfl (by decide) rfl ?_
                refine G_aload0 82 d_Alg_takeApart_81 rfl ?_
                refine G_getR 85 d_Alg_takeApart_82 rfl f_Alg_65 rfl c1.sh c1.f8 ?_
                refine G_invV0d 88 d_Alg_takeApart_85 rfl e_Alg_132 M_Poly_normNow rfl c1.s8 (Nat.le_of_ble_eq_true rfl) (Nat.le_of_ble_eq_true rfl) rfl (s_norm' (by assumption)) ?_
                refine G_lload7 90 d_Alg_takeApart_88 rfl ?_
                refine G_invS2d 93 d_Alg_takeApart_90 rfl e_Alg_142 M_Alg_sumOrAbove (Nat.le_of_ble_eq_true rfl) (Nat.le_of_ble_eq_true rfl) rfl (s_sumA) ?_
                refine G_ldc2 96 d_Alg_takeApart_93 rfl k_Alg_146 ?_
                refine G_lcne 102 100 d_Alg_takeApart_96 d_Alg_takeApart_97 rfl rfl (fun h96 => ?_) (fun h96 => ?_)
                · rw [← sumA_neg] at h96
                  rw [if_neg h96] at hap
                  refine G_aload0 103 d_Alg_takeApart_102 rfl ?_
                  refine G_getR 106 d_Alg_takeApart_103 rfl f_Alg_65 rfl c1.sh c1.f8 ?_
                  refine G_aload0 107 d_Alg_takeApart_106 rfl ?_
                  refine G_getR 110 d_Alg_takeApart_107 rfl f_Alg_34 rfl c1.sh c1.f3 ?_
                  refine G_iload3 111 d_Alg_takeApart_110 rfl ?_
                  refine G_aload0 112 d_Alg_takeApart_111 rfl ?_
                  refine G_getR 115 d_Alg_takeApart_112 rfl f_Alg_27 rfl c1.sh c1.f2 ?_
                  refine G_invV2 118 d_Alg_takeApart_115 rfl e_Alg_466 M_Tab_firstProduct rfl c1.s3 (Nat.le_of_ble_eq_true rfl) (Nat.le_of_ble_eq_true rfl) rfl (G.conseq (hfp) (fun r115 X115 FI115 AI115 AL115 h115 => ?_))
                  obtain ⟨a, rfl, ha, hpo, hal, hpf⟩ := h115
                  have hF3 := hF.tr (tF.p hpf) (by omega)
                  have hc3 := h.tf hv hF3
                  have d1 := hc3.1
                  have wk3 := d1.wk
                  have wks3 := wk3.1
                  have w57 : AL115 (lo + 57) = BJ (lo + 57) := hpf.2.2.2.2.2.1 _ (by omega)
                  have stp := d1.st hv
                  have hsz : FI115 (lo + v) 0 = nI st.length := by rw [hpf.2.2.2.1 _ (by have := hF.1.1; omega)]; exact hst.1
                  have hsp := s_stepsAppend (V := V) (d := d + 3) (AI := AI115) (AL := sr AL115 (lo + 57) (fun j => AL115 (lo + 57) j + -BJ (lo + 57) (rk o k) * AL115 (a + 1) j)) (v := BJ (lo + 57) (rk o k)) (row := nI (num u)) stp hsz (by omega)
                  refine G_lload4 120 d_Alg_takeApart_118 rfl ?_
                  refine G_lneg 121 d_Alg_takeApart_120 rfl ?_
                  refine G_invV2v 124 d_Alg_takeApart_121 rfl e_Alg_166 M_Poly_addMultiple rfl wks3 (Nat.le_of_ble_eq_true rfl) (Nat.le_of_ble_eq_true rfl) rfl (s_addMultiple (by assumption) (by assumption)) ?_
                  refine G_aload1 125 d_Alg_takeApart_124 rfl ?_
                  refine G_lload4 127 d_Alg_takeApart_125 rfl ?_
                  refine G_iload6 129 d_Alg_takeApart_127 rfl ?_
                  refine G_invV2v 132 d_Alg_takeApart_129 rfl e_Alg_301 M_Steps_append rfl stp.1 (Nat.le_of_ble_eq_true rfl) (Nat.le_of_ble_eq_true rfl) rfl (hsp) ?_
                  have hzz : lo + 150 ≤ x_sz X115 := hc3.2.2.2.2.2.1.1
                  have hF4 : tF v C E Gt X115 X115 FI115 (u2 FI115 (lo + v) 0 (nI (st.length + 1))) AI115 (u2 AI115 (lo + v + 2) st.length (nI (num u))) AL115 (u2 (sr AL115 (lo + 57) (fun j => AL115 (lo + 57) j + -BJ (lo + 57) (rk o k) * AL115 (a + 1) j)) (lo + v + 1) st.length (BJ (lo + 57) (rk o k))) lo :=
                    tF.o hc3.2.2.2.2.1 hc3.2.2.2.2.2.1 hv (fun k hk => (hc3.2.2.2.2.2.2 k hk).1) (fun c hc => u2_off _ _ _ hc) (fun c hc => u2_off _ _ _ hc) (fun c h1 _ h2 => by rw [u2_off _ _ _ h2, sr_ne _ _ h1])
                  first | refine G_iinc2 _ 135 d_Alg_takeApart_132 rfl (by decide) rfl (dI_m1 _) ?_ | refine G_iinc2 _ 135 d_Alg_takeApart_132 rfl (by decide) rfl rfl ?_
                  refine G_goto 8 d_Alg_takeApart_135 rfl ?_
                  refine ih (by omega) _ _ _ _ (st ++ [(BJ (lo + 57) (rk o k), num u)]) _ _ _ _ _ _ (hF3.tr hF4 (by omega)) ⟨by rw [u2_at, List.length_append, List.length_singleton], fun i q hq => ?_⟩ (by rw [List.length_append, List.length_singleton]; omega) ?_
                  · rcases Nat.lt_trichotomy i st.length with hi | hi | hi
                    · rw [List.getElem?_append_left hi] at hq
                      obtain ⟨f1, f2⟩ := hst.2 i q hq
                      refine ⟨?_, ?_⟩
                      · rw [u2_ix _ _ (by omega), sr_ne _ _ (by omega), hpf.2.2.2.2.2.1 _ (by omega)]; exact f1
                      · rw [u2_ix _ _ (by omega), hpf.2.2.2.2.1 _ (by omega)]; exact f2
                    · subst hi
                      rw [List.getElem?_append_right (Nat.le_refl _), Nat.sub_self] at hq
                      have hq' : (BJ (lo + 57) (rk o k), num u) = q := by simpa using hq
                      rw [← hq']
                      exact ⟨by rw [u2_at], by rw [u2_at]⟩
                    · rw [List.getElem?_append_right (by omega)] at hq
                      rw [List.getElem?_eq_none (by simp; omega)] at hq
                      cases hq
                  · rw [u2_off _ _ _ (by omega), sr_at, w57, hal]
                    exact hap
                · rw [← sumA_neg] at h96
                  rw [if_pos h96] at hap
                  rw [← hap]
                  refine G_iconstN 0 101 d_Alg_takeApart_100 rfl rfl ?_
                  refine G_zret d_Alg_takeApart_101 rfl ?_ ?_
                  · exact Or.inl rfl
                  · exact ⟨hF, rfl⟩
  obtain ⟨c1, c2, c3, c4, c5, c6, c7⟩ := id h
  have stp := c1.st hv
  have sts := stp.1
  refine G_aload1 1 d_Alg_takeApart_0 rfl ?_
  refine G_iconstN 0 2 d_Alg_takeApart_1 rfl rfl ?_
  refine G_putI 5 d_Alg_takeApart_2 rfl f_Alg_294 rfl (by intro C T N h; cases h; rfl) sts rfl rfl ?_
  refine G_bipushN 83 7 d_Alg_takeApart_5 rfl rfl ?_
  refine G_istore2 8 d_Alg_takeApart_7 rfl (by decide) rfl ?_
  have hF0 : tF v C E Gt X X FI (u2 FI (lo + v) 0 (nI 0)) AI AI AL AL lo := tF.o c5 c6 hv (fun k hk => (c7 k hk).1) (fun c hc => u2_off _ _ _ hc) (fun _ _ => rfl) (fun _ _ _ _ => rfl)
  have := L 84 (Nat.le_refl _) X _ AI AL [] none none none none none none hF0 ⟨u2_at _ _ _ _, fun i q hq => by simp at hq⟩ (by simp) rfl
  rw [dI_s] at this
  exact this
