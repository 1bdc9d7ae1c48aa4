/-! ===== the class: differences, sums; member, subduct, witness ===== -/
theorem pdeg_0 {f : Nat → Int64} : ∀ k, pdeg f k = 0 ↔ ∀ t, t < k → f t = 0
  | 0 => ⟨fun _ t ht => by omega, fun _ => rfl⟩
  | k + 1 => by
    rw [pdeg]
    constructor
    · intro h t ht
      split at h
      · rename_i e
        by_cases e2 : t = k
        · rw [e2]; exact e
        · exact (pdeg_0 k).mp h t (by omega)
      · omega
    · intro h
      rw [if_pos (h k (by omega))]
      exact (pdeg_0 k).mpr (fun t ht => h t (by omega))
theorem deg_lead {f : Nat → Int64} {o : Nat} (ho : o < 3) : deg1 f = 0 ↔ lead1 f o = 0 := by
  unfold deg1 lead1
  rw [pdeg_0]
  rcases pld_ok (f := f) ho 84 (Nat.le_refl _) with ⟨a, c⟩ | ⟨i, a, b, c, d⟩
  · refine ⟨fun _ => a, fun _ t ht => ?_⟩
    have := c (rnk o t) (rk_ok o ho t ht).1
    rw [(rk_ok o ho t ht).2.1] at this; exact this
  · refine ⟨fun h => absurd (h _ (rk_ok o ho i a).2.2.1) c, fun h => by omega⟩
/-- through taking apart the state stays -/
theorem CIv.tf {v w C E lo : Nat} {S : ST} {X X' : XT} {FI FI' AI AI' : FT} {AL AL' : LT} (hI : CIv C E S X FI AI AL lo) (hW : WS S) (hwv : w = 60 ∧ v = 63 ∨ w = 63 ∧ v = 60) (hr : x_FR X lo 10 = some (lo + w)) (hF : tF v C E (tG S) X X' FI FI' AI AI' AL AL' lo) : CIv C E S X' FI' AI' AL' lo ∧ cF X X' FI FI' AI AI' AL AL' lo := by
  obtain ⟨a1, a2, a3, a4, a5, a6, a7, a8, a9, a10, a11, a12⟩ := hI
  obtain ⟨b1, b2, b3, b4, b5, b6, b7⟩ := hF
  have hz := a12.1
  have fi : ∀ c, c < lo + 150 → c ≠ lo + v → FI' c = FI c := fun c hc h1 => b4 c (by omega) h1
  have e12 := (b1.2 lo (by omega)).2.1
  have hl8 := hW.2.2.2.2.2.1.1
  obtain ⟨w', v', h1, h2, h3, h4, h5⟩ := a10
  have ew : w' = w := by rw [hr] at h2; injection h2 with h2; omega
  subst ew
  refine ⟨⟨fun s hs => by rw [b6 _ (by omega) (by omega) (by omega) (by omega)]; exact a1 s hs, a2.tr (fi _ (by omega) (by omega)) (b5 _ (by omega) (by omega)), a3.tr (fi _ (by omega) (by omega)) (fun c _ _ => b5 c (by omega) (by omega)) (fun c _ _ => b6 c (by omega) (by omega) (by omega) (by omega)), a4.tr (b5 _ (by omega) (by omega)) (b5 _ (by omega) (by omega)), b2, a6.tr (by rw [fi _ (by omega) (by omega)]) (b5 _ (by omega) (by omega)) (b5 _ (by omega) (by omega)) (b5 _ (by omega) (by omega)), a7.tr (by rw [fi _ (by omega) (by omega)]) (fun c _ _ => b6 c (by omega) (by omega) (by omega) (by omega)), a8.tr (fun c _ _ => fi c (by omega) (by omega)) (fun c _ _ => b5 c (by omega) (by omega)), a9.tr hl8 (by rw [fi _ (by omega) (by omega)]) (fun c _ _ => fi c (by omega) (by omega)) (fun c _ _ => b6 c (by omega) (by omega) (by omega) (by omega)), ⟨w', v', h1, by rw [e12]; exact h2, by rw [e12]; exact h3, by rw [fi _ (by omega) (by omega)]; exact h4, fun e => (h5 e).tr (fi _ (by omega) (by omega)) (b5 _ (by omega) (by omega)) (b6 _ (by omega) (by omega) (by omega) (by omega))⟩, ?_, b3⟩, fun c hc => ⟨⟨fi c (by omega) (by omega), b5 c (by omega) (by omega), b6 c (by omega) (by omega) (by omega) (by omega)⟩, (b1.2 c (by omega)).1, (b1.2 c (by omega)).2.1, (b1.2 c (by omega)).2.2 (by omega)⟩⟩
  cases hx : tX S with
  | none =>
    rw [hx] at a11
    show x_FR X' lo 12 = none
    rw [e12]; exact a11
  | some K =>
    rw [hx] at a11
    have hk : ∀ k, x_FR X lo 12 = some k → lo + 150 ≤ k := by
      obtain ⟨k, k1, k2, -⟩ := a11
      intro k' hk'
      rw [k1] at hk'; injection hk' with hk'; omega
    exact a11.xk b1 hz (fun b c h1 h2 h3 h4 => by
      have := hk b h1
      exact ⟨b4 c (by omega) (by omega), b5 c (by omega) (by omega), b7 b c h1 h4 h2 h3⟩)
theorem s_takeDifference {V : GV} {d lo C E o l r : Nat} {Gt : GT} {X : XT} {FI AI : FT} {AL : LT} (h : CB C E o Gt X FI AI AL lo) (hl : l < 2 ^ 31) (hr : r < 2 ^ 31) : G V m_Alg_takeDifference (d + 3) 0 [some (.ref lo), some (.int (nI l)), some (.int (nI r))] [] X FI AI AL (fun q X' FI' AI' AL' => X' = X ∧ FI' = FI ∧ AI' = AI ∧ (∀ c, c ≠ lo + 57 → c ≠ lo + 59 → AL' c = AL c) ∧ match difP (gN Gt) (gP Gt) l r with
      | none => q = some (.int (nI 0))
      | some f => q = some (.int (nI 1)) ∧ AL' (lo + 57) = f) := by
  obtain ⟨c1, c2, c3, c4, c5, c6, c7⟩ := id h
  have wk := c1.wk
  have wks := wk.1
  have spp := c1.sp
  have hn7 := c3.2.1
  have x1 := s_costOf (V := V) (d := d + 1) (AI := AI) (AL := AL) c1.go c3.1 hn7 hl
  have x2 := s_costOf (V := V) (d := d + 1) (AI := AI) (AL := AL) c1.go c3.1 hn7 hr
  rw [h.cost] at x1 x2
  have y1 := s_multiplyOut (V := V) (d := d) (FI := FI) (AI := AI) (AL := AL) c1.go wk (fun i hi => show lo + 14 + 2 * i ≠ lo + 57 by omega) c3.1 hn7 hl
  rw [h.prod] at y1
  have y2 := s_multiplyOut (V := V) (d := d) (FI := FI) (AI := AI) (AL := sr AL (lo + 57) (prodP (gP Gt) (pw l) (gN Gt))) c1.go spp (fun i hi => show lo + 14 + 2 * i ≠ lo + 59 by omega) c3.1 hn7 hr
  have e2 : prodP (fun i => sr AL (lo + 57) (prodP (gP Gt) (pw l) (gN Gt)) (cqo lo i)) (pw r) (gN Gt) = prodP (gP Gt) (pw r) (gN Gt) := by
    refine (prodP_cu2 _ (fun i hi => ?_) (fun _ _ => rfl)).trans h.prod
    show cu (sr AL (lo + 57) _ (lo + 14 + 2 * i)) = cu (AL (lo + 14 + 2 * i))
    rw [sr_ne _ _ (by omega)]
  rw [e2] at y2
  refine G_aload0 1 d_Alg_takeDifference_0 rfl ?_
  refine G_getR 4 d_Alg_takeDifference_1 rfl f_Alg_27 rfl c1.sh c1.f2 ?_
  refine G_iload1 5 d_Alg_takeDifference_4 rfl ?_
  refine G_invV1d 8 d_Alg_takeDifference_5 rfl e_Alg_455 M_Gen_costOf rfl c1.s2 (Nat.le_of_ble_eq_true rfl) (Nat.le_of_ble_eq_true rfl) rfl (x1) ?_
  refine G_aload0 9 d_Alg_takeDifference_8 rfl ?_
  refine G_getR 12 d_Alg_takeDifference_9 rfl f_Alg_27 rfl c1.sh c1.f2 ?_
  refine G_iload2 13 d_Alg_takeDifference_12 rfl ?_
  refine G_invV1d 16 d_Alg_takeDifference_13 rfl e_Alg_455 M_Gen_costOf rfl c1.s2 (Nat.le_of_ble_eq_true rfl) (Nat.le_of_ble_eq_true rfl) rfl (x2) ?_
  refine G_invS2d 19 d_Alg_takeDifference_16 rfl e_Alg_142 M_Alg_sumOrAbove (Nat.le_of_ble_eq_true rfl) (Nat.le_of_ble_eq_true rfl) rfl (s_sumA) ?_
  refine G_ldc2 22 d_Alg_takeDifference_19 rfl k_Alg_146 ?_
  refine G_lcne 28 26 d_Alg_takeDifference_22 d_Alg_takeDifference_23 rfl rfl (fun h22 => ?_) (fun h22 => ?_)
  · rw [← sumA_neg] at h22
    have eD : difP (gN Gt) (gP Gt) l r = some (addP (prodP (gP Gt) (pw l) (gN Gt)) (prodP (gP Gt) (pw r) (gN Gt)) (-1)) := by unfold difP; rw [if_neg h22]
    refine G_aload0 29 d_Alg_takeDifference_28 rfl ?_
    refine G_getR 32 d_Alg_takeDifference_29 rfl f_Alg_27 rfl c1.sh c1.f2 ?_
    refine G_iload1 33 d_Alg_takeDifference_32 rfl ?_
    refine G_aload0 34 d_Alg_takeDifference_33 rfl ?_
    refine G_getR 37 d_Alg_takeDifference_34 rfl f_Alg_65 rfl c1.sh c1.f8 ?_
    refine G_invV2v 40 d_Alg_takeDifference_37 rfl e_Alg_459 M_Gen_multiplyOut rfl c1.s2 (Nat.le_of_ble_eq_true rfl) (Nat.le_of_ble_eq_true rfl) rfl (y1) ?_
    refine G_aload0 41 d_Alg_takeDifference_40 rfl ?_
    refine G_getR 44 d_Alg_takeDifference_41 rfl f_Alg_27 rfl c1.sh c1.f2 ?_
    refine G_iload2 45 d_Alg_takeDifference_44 rfl ?_
    refine G_aload0 46 d_Alg_takeDifference_45 rfl ?_
    refine G_getR 49 d_Alg_takeDifference_46 rfl f_Alg_69 rfl c1.sh c1.f9 ?_
    refine G_invV2v 52 d_Alg_takeDifference_49 rfl e_Alg_459 M_Gen_multiplyOut rfl c1.s2 (Nat.le_of_ble_eq_true rfl) (Nat.le_of_ble_eq_true rfl) rfl (y2) ?_
    refine G_aload0 53 d_Alg_takeDifference_52 rfl ?_
    refine G_getR 56 d_Alg_takeDifference_53 rfl f_Alg_65 rfl c1.sh c1.f8 ?_
    refine G_aload0 57 d_Alg_takeDifference_56 rfl ?_
    refine G_getR 60 d_Alg_takeDifference_57 rfl f_Alg_69 rfl c1.sh c1.f9 ?_
    refine G_ldc2 63 d_Alg_takeDifference_60 rfl k_Alg_146 ?_
    refine G_invV2v 66 d_Alg_takeDifference_63 rfl e_Alg_166 M_Poly_addMultiple rfl c1.s8 (Nat.le_of_ble_eq_true rfl) (Nat.le_of_ble_eq_true rfl) rfl (s_addMultiple (by assumption) (by assumption)) ?_
    refine G_iconstN 1 67 d_Alg_takeDifference_66 rfl rfl ?_
    refine G_zret d_Alg_takeDifference_67 rfl ?_ ?_
    · exact Or.inr rfl
    · refine ⟨rfl, rfl, rfl, fun c h1 h2 => by rw [sr_ne _ _ h1, sr_ne _ _ h2, sr_ne _ _ h1], ?_⟩
      rw [eD]
      refine ⟨rfl, ?_⟩
      rw [sr_at, sr_at, sr_ne _ _ (show lo + 57 ≠ lo + 59 by omega), sr_at]
      rfl
  · rw [← sumA_neg] at h22
    have eD : difP (gN Gt) (gP Gt) l r = none := by unfold difP; rw [if_pos h22]
    refine G_iconstN 0 27 d_Alg_takeDifference_26 rfl rfl ?_
    refine G_zret d_Alg_takeDifference_27 rfl ?_ ?_
    · exact Or.inl rfl
    · exact ⟨rfl, rfl, rfl, fun _ _ _ => rfl, by rw [eD]⟩
theorem smC_m (n : Nat) (gp : Nat → Nat → Int64) : ∀ L : List (Int64 × Nat), smC n gp L (-1) = -1
  | [] => rfl
  | q :: L => by
    rw [smC]
    have : sumA (-1) (prodA (labs q.1) (cost (fun g => norm (gp g)) (pw q.2) n)) = -1 := if_pos (Or.inl (by decide))
    rw [this]; exact smC_m n gp L
theorem smC_neg (n : Nat) (gp : Nat → Nat → Int64) : ∀ (L : List (Int64 × Nat)) (a : Int64), (a < 0 → a = -1) → (smC n gp L a < 0 ↔ smC n gp L a = -1)
  | [], a, h => by
    rw [smC]
    exact ⟨h, fun e => by rw [e]; decide⟩
  | q :: L, a, h => by
    rw [smC]
    exact smC_neg n gp L _ (fun e => (sumA_neg _ _).mp e)
theorem s_sumSteps {V : GV} {d lo v C E o : Nat} {Gt : GT} {L : List (Int64 × Nat)} {X : XT} {FI AI : FT} {AL : LT} (h : CB C E o Gt X FI AI AL lo) (hv : v = 60 ∨ v = 63) (hS : CSt FI AI AL (lo + v) L) (h84 : L.length ≤ 84) (hr : ∀ q ∈ L, q.2 < 2 ^ 31) : G V m_Alg_sumSteps (d + 3) 0 [some (.ref lo), some (.ref (lo + v)), none, none, none, none, none] [] X FI AI AL (fun q X' FI' AI' AL' => X' = X ∧ FI' = FI ∧ AI' = AI ∧ (∀ c, c ≠ lo + 57 → c ≠ lo + 59 → AL' c = AL c) ∧ if smC (gN Gt) (gP Gt) L 0 < 0 then q = some (.int (nI 0)) else q = some (.int (nI 1)) ∧ AL' (lo + 57) = smP (gN Gt) (gP Gt) L (fun _ => 0)) := by
  obtain ⟨c1, c2, c3, c4, c5, c6, c7⟩ := id h
  have wk := c1.wk
  have wks := wk.1
  have spp := c1.sp
  have hn7 := c3.2.1
  obtain ⟨s1, s2, s3, s4, s5⟩ := c1.st hv
  have f0 := hS.1
  have L2 : ∀ i, i ≤ L.length → ∀ (l2 l5 l6 : Option Value) (AJ : LT), (∀ c, c ≠ lo + 57 → c ≠ lo + 59 → AJ c = AL c) → smP (gN Gt) (gP Gt) (L.drop i) (AJ (lo + 57)) = smP (gN Gt) (gP Gt) L (fun _ => 0) → ¬ smC (gN Gt) (gP Gt) L 0 < 0 → G V m_Alg_sumSteps (d + 3) 76 [some (.ref lo), some (.ref (lo + v)), l2, none, some (.int (nI i)), l5, l6] [] X FI AI AJ (fun q X' FI' AI' AL' => X' = X ∧ FI' = FI ∧ AI' = AI ∧ (∀ c, c ≠ lo + 57 → c ≠ lo + 59 → AL' c = AL c) ∧ if smC (gN Gt) (gP Gt) L 0 < 0 then q = some (.int (nI 0)) else q = some (.int (nI 1)) ∧ AL' (lo + 57) = smP (gN Gt) (gP Gt) L (fun _ => 0)) := by
    refine upto ?_ ?_
    · intro l2 l5 l6 AJ k1 k2 k3
      rw [List.drop_length, smP] at k2
      refine G_iload4 78 d_Alg_sumSteps_76 rfl ?_
      refine G_aload1 79 d_Alg_sumSteps_78 rfl ?_
      refine G_getIv 82 d_Alg_sumSteps_79 rfl f_Alg_294 rfl s1 f0 ?_
      first | refine G_icgeN 127 85 d_Alg_sumSteps_82 rfl rfl (by omega) (by omega) (fun h82 => ?_) (fun h82 => ?_) | refine G_icge 127 85 d_Alg_sumSteps_82 rfl rfl (fun h82 => ?_) (fun h82 => ?_)
      · refine G_iconstN 1 128 d_Alg_sumSteps_127 rfl rfl ?_
        refine G_zret d_Alg_sumSteps_128 rfl ?_ ?_
        · exact Or.inr rfl
        · exact ⟨rfl, rfl, rfl, k1, by rw [if_neg k3]; exact ⟨rfl, k2⟩⟩
      · omega
    · intro i hi ih l2 l5 l6 AJ k1 k2 k3
      have hg : L[i]? = some L[i] := List.getElem?_eq_getElem hi
      obtain ⟨e1, e2⟩ := hS.2 i _ hg
      have hri := hr _ (List.getElem_mem hi)
      rw [List.drop_eq_getElem_cons hi, smP] at k2
      have y := s_multiplyOut (V := V) (d := d) (FI := FI) (AI := AI) (AL := AJ) c1.go spp (fun i hi => show lo + 14 + 2 * i ≠ lo + 59 by omega) c3.1 hn7 hri
      have e3 : prodP (fun i => AJ (cqo lo i)) (pw L[i].2) (gN Gt) = prodP (gP Gt) (pw L[i].2) (gN Gt) := by
        refine (prodP_cu2 _ (fun i hi => ?_) (fun _ _ => rfl)).trans h.prod
        show cu (AJ (lo + 14 + 2 * i)) = cu (AL (lo + 14 + 2 * i))
        rw [k1 _ (by omega) (by omega)]
      rw [e3] at y
      have e4 : sr AJ (lo + 59) (prodP (gP Gt) (pw L[i].2) (gN Gt)) (lo + v + 1) i = L[i].1 := by rw [sr_ne _ _ (by omega), k1 _ (by omega) (by omega)]; exact e1
      refine G_iload4 78 d_Alg_sumSteps_76 rfl ?_
      refine G_aload1 79 d_Alg_sumSteps_78 rfl ?_
      refine G_getIv 82 d_Alg_sumSteps_79 rfl f_Alg_294 rfl s1 f0 ?_
      first | refine G_icgeN 127 85 d_Alg_sumSteps_82 rfl rfl (by omega) (by omega) (fun h82 => ?_) (fun h82 => ?_) | refine G_icge 127 85 d_Alg_sumSteps_82 rfl rfl (fun h82 => ?_) (fun h82 => ?_)
      · omega
      · refine G_aload0 86 d_Alg_sumSteps_85 rfl ?_
        refine G_getR 89 d_Alg_sumSteps_86 rfl f_Alg_27 rfl c1.sh c1.f2 ?_
        refine G_aload1 90 d_Alg_sumSteps_89 rfl ?_
        refine G_getR 93 d_Alg_sumSteps_90 rfl f_Alg_379 rfl s1 (by assumption) ?_
        refine G_iload4 95 d_Alg_sumSteps_93 rfl ?_
        refine G_ialoadv 96 d_Alg_sumSteps_95 rfl (by assumption) (ix_nI (by omega) (by omega)) e2 ?_
        refine G_aload0 97 d_Alg_sumSteps_96 rfl ?_
        refine G_getR 100 d_Alg_sumSteps_97 rfl f_Alg_69 rfl c1.sh c1.f9 ?_
        refine G_invV2v 103 d_Alg_sumSteps_100 rfl e_Alg_459 M_Gen_multiplyOut rfl c1.s2 (Nat.le_of_ble_eq_true rfl) (Nat.le_of_ble_eq_true rfl) rfl (y) ?_
        refine G_aload0 104 d_Alg_sumSteps_103 rfl ?_
        refine G_getR 107 d_Alg_sumSteps_104 rfl f_Alg_65 rfl c1.sh c1.f8 ?_
        refine G_aload0 108 d_Alg_sumSteps_107 rfl ?_
        refine G_getR 111 d_Alg_sumSteps_108 rfl f_Alg_69 rfl c1.sh c1.f9 ?_
        refine G_aload1 112 d_Alg_sumSteps_111 rfl ?_
        refine G_getR 115 d_Alg_sumSteps_112 rfl f_Alg_376 rfl s1 (by assumption) ?_
        refine G_iload4 117 d_Alg_sumSteps_115 rfl ?_
        refine G_laloadv 118 d_Alg_sumSteps_117 rfl (by assumption) (ix_nI (by omega) (by omega)) e4 ?_
        refine G_invV2v 121 d_Alg_sumSteps_118 rfl e_Alg_166 M_Poly_addMultiple rfl c1.s8 (Nat.le_of_ble_eq_true rfl) (Nat.le_of_ble_eq_true rfl) rfl (s_addMultiple (by assumption) (by assumption)) ?_
        first | refine G_iincN4 124 d_Alg_sumSteps_121 rfl (by decide) rfl ?_ | refine G_iinc4 _ 124 d_Alg_sumSteps_121 rfl (by decide) rfl rfl ?_
        refine G_goto 76 d_Alg_sumSteps_124 rfl ?_
        refine ih _ _ _ _ (fun c h1 h2 => by rw [sr_ne _ _ h1, sr_ne _ _ h2]; exact k1 c h1 h2) ?_ k3
        rw [sr_at, sr_at, sr_ne _ _ (show lo + 57 ≠ lo + 59 by omega)]
        exact k2
  have L1 : ∀ i, i ≤ L.length → ∀ (a : Int64) (l5 l6 : Option Value), smC (gN Gt) (gP Gt) (L.drop i) a = smC (gN Gt) (gP Gt) L 0 → G V m_Alg_sumSteps (d + 3) 5 [some (.ref lo), some (.ref (lo + v)), some (.long a), none, some (.int (nI i)), l5, l6] [] X FI AI AL (fun q X' FI' AI' AL' => X' = X ∧ FI' = FI ∧ AI' = AI ∧ (∀ c, c ≠ lo + 57 → c ≠ lo + 59 → AL' c = AL c) ∧ if smC (gN Gt) (gP Gt) L 0 < 0 then q = some (.int (nI 0)) else q = some (.int (nI 1)) ∧ AL' (lo + 57) = smP (gN Gt) (gP Gt) L (fun _ => 0)) := by
    refine upto ?_ ?_
    · intro a l5 l6 k2
      rw [List.drop_length, smC] at k2
      have hneg := smC_neg (gN Gt) (gP Gt) L 0 (fun e => absurd e (by decide))
      rw [← k2] at hneg
      refine G_iload4 7 d_Alg_sumSteps_5 rfl ?_
      refine G_aload1 8 d_Alg_sumSteps_7 rfl ?_
      refine G_getIv 11 d_Alg_sumSteps_8 rfl f_Alg_294 rfl s1 f0 ?_
      first | refine G_icgeN 56 14 d_Alg_sumSteps_11 rfl rfl (by omega) (by omega) (fun h11 => ?_) (fun h11 => ?_) | refine G_icge 56 14 d_Alg_sumSteps_11 rfl rfl (fun h11 => ?_) (fun h11 => ?_)
      · refine G_lload2 57 d_Alg_sumSteps_56 rfl ?_
        refine G_ldc2 60 d_Alg_sumSteps_57 rfl k_Alg_146 ?_
        refine G_lcne 66 64 d_Alg_sumSteps_60 d_Alg_sumSteps_61 rfl rfl (fun h60 => ?_) (fun h60 => ?_)
        · rw [← hneg] at h60
          refine G_aload0 67 d_Alg_sumSteps_66 rfl ?_
          refine G_getR 70 d_Alg_sumSteps_67 rfl f_Alg_65 rfl c1.sh c1.f8 ?_
          refine G_invV0v 73 d_Alg_sumSteps_70 rfl e_Alg_160 M_Poly_becomeZero rfl c1.s8 (Nat.le_of_ble_eq_true rfl) (Nat.le_of_ble_eq_true rfl) rfl (s_becomeZero (by assumption)) ?_
          refine G_iconstN 0 74 d_Alg_sumSteps_73 rfl rfl ?_
          refine G_istore4 76 d_Alg_sumSteps_74 rfl (by decide) rfl ?_
          exact L2 0 (Nat.zero_le _) _ _ _ _ (fun c h1 _ => sr_ne _ _ h1) (by rw [sr_at]; rfl) (by rw [← k2]; exact h60)
        · rw [← hneg] at h60
          refine G_iconstN 0 65 d_Alg_sumSteps_64 rfl rfl ?_
          refine G_zret d_Alg_sumSteps_65 rfl ?_ ?_
          · exact Or.inl rfl
          · exact ⟨rfl, rfl, rfl, fun _ _ _ => rfl, by rw [← k2, if_pos h60]⟩
      · omega
    · intro i hi ih a l5 l6 k2
      have hg : L[i]? = some L[i] := List.getElem?_eq_getElem hi
      obtain ⟨e1, e2⟩ := hS.2 i _ hg
      have hri := hr _ (List.getElem_mem hi)
      rw [List.drop_eq_getElem_cons hi, smC] at k2
      have x1 := s_costOf (V := V) (d := d + 1) (AI := AI) (AL := AL) c1.go c3.1 hn7 hri
      rw [h.cost] at x1
      refine G_iload4 7 d_Alg_sumSteps_5 rfl ?_
      refine G_aload1 8 d_Alg_sumSteps_7 rfl ?_
      refine G_getIv 11 d_Alg_sumSteps_8 rfl f_Alg_294 rfl s1 f0 ?_
      first | refine G_icgeN 56 14 d_Alg_sumSteps_11 rfl rfl (by omega) (by omega) (fun h11 => ?_) (fun h11 => ?_) | refine G_icge 56 14 d_Alg_sumSteps_11 rfl rfl (fun h11 => ?_) (fun h11 => ?_)
      · omega
      · refine G_aload1 15 d_Alg_sumSteps_14 rfl ?_
        refine G_getR 18 d_Alg_sumSteps_15 rfl f_Alg_376 rfl s1 (by assumption) ?_
        refine G_iload4 20 d_Alg_sumSteps_18 rfl ?_
        refine G_laloadv 21 d_Alg_sumSteps_20 rfl (by assumption) (ix_nI (by omega) (by omega)) e1 ?_
        refine G_invS1d 24 d_Alg_sumSteps_21 rfl e_Alg_463 M_Math_abs_JJ (Nat.le_of_ble_eq_true rfl) (Nat.le_of_ble_eq_true rfl) rfl (s_labs) ?_
        refine G_aload0 25 d_Alg_sumSteps_24 rfl ?_
        refine G_getR 28 d_Alg_sumSteps_25 rfl f_Alg_27 rfl c1.sh c1.f2 ?_
        refine G_aload1 29 d_Alg_sumSteps_28 rfl ?_
        refine G_getR 32 d_Alg_sumSteps_29 rfl f_Alg_379 rfl s1 (by assumption) ?_
        refine G_iload4 34 d_Alg_sumSteps_32 rfl ?_
        refine G_ialoadv 35 d_Alg_sumSteps_34 rfl (by assumption) (ix_nI (by omega) (by omega)) e2 ?_
        refine G_invV1d 38 d_Alg_sumSteps_35 rfl e_Alg_455 M_Gen_costOf rfl c1.s2 (Nat.le_of_ble_eq_true rfl) (Nat.le_of_ble_eq_true rfl) rfl (x1) ?_
        refine G_invS2d 41 d_Alg_sumSteps_38 rfl e_Alg_163 M_Alg_productOrAbove (Nat.le_of_ble_eq_true rfl) (Nat.le_of_ble_eq_true rfl) rfl (s_prodA) ?_
        refine G_lstore5 43 d_Alg_sumSteps_41 rfl (by decide) rfl ?_
        refine G_lload2 44 d_Alg_sumSteps_43 rfl ?_
        refine G_lload5 46 d_Alg_sumSteps_44 rfl ?_
        refine G_invS2d 49 d_Alg_sumSteps_46 rfl e_Alg_142 M_Alg_sumOrAbove (Nat.le_of_ble_eq_true rfl) (Nat.le_of_ble_eq_true rfl) rfl (s_sumA) ?_
        refine G_lstore2 50 d_Alg_sumSteps_49 rfl (by decide) rfl ?_
        first | refine G_iincN4 53 d_Alg_sumSteps_50 rfl (by decide) rfl ?_ | refine G_iinc4 _ 53 d_Alg_sumSteps_50 rfl (by decide) rfl rfl ?_
        refine G_goto 5 d_Alg_sumSteps_53 rfl ?_
        exact ih _ _ _ k2
  refine G_lconst 0 1 d_Alg_sumSteps_0 rfl rfl ?_
  refine G_lstore2 2 d_Alg_sumSteps_1 rfl (by decide) rfl ?_
  refine G_iconstN 0 3 d_Alg_sumSteps_2 rfl rfl ?_
  refine G_istore4 5 d_Alg_sumSteps_3 rfl (by decide) rfl ?_
  exact L1 0 (Nat.zero_le _) _ _ _ rfl
theorem c_member {V : GV} {d lo C E : Nat} {S : ST} {s : Int32} {X : XT} {FI AI : FT} {AL : LT} (h : CO X lo) (hI : CIv C E S X FI AI AL lo) (hW : WS S) : G V m_Alg_member (d + 5) 0 [some (.ref lo), some (.int s)] [] X FI AI AL (fun r X' FI' AI' AL' => r = some (.int (fMember S s).1) ∧ CO X' lo ∧ CIv C E (fMember S s).2 X' FI' AI' AL' lo ∧ cF X X' FI FI' AI AI' AL AL' lo) := by
  have wk := h.wk
  have wks := wk.1
  have spp := h.sp
  have sps := spp.1
  have hcb := hI.cb h
  have ho := hW.1
  have hgl : ∀ i, i < gN (tG S) → gL (tG S) i < 84 ∧ 1 ≤ eD (gL (tG S) i) := fun i hi => ⟨(hW.2.1.2.1 i hi).1, (hW.2.1.2.1 i hi).2.1⟩
  obtain ⟨w, v, hwv, r10, r11, f13, hst⟩ := hI.2.2.2.2.2.2.2.2.2.1
  refine G_iload1 1 d_Alg_member_0 rfl ?_
  refine G_invS1b 4 d_Alg_member_1 rfl e_Alg_119 M_Alg_isSlot (Nat.le_of_ble_eq_true rfl) (Nat.le_of_ble_eq_true rfl) rfl (s_isSlot) (fun h1 => G_ifne1 7 d_Alg_member_4 9 rfl rfl ?_) (fun h1 => G_ifne0 7 d_Alg_member_4 9 rfl rfl ?_)
  · obtain ⟨k, hk, rfl⟩ := h1
    have qk := bN_t hk (show 6 < 2 ^ 31 by omega)
    have zk := ni_nI (show k < 2 ^ 31 by omega)
    obtain ⟨ark, pok⟩ := h.sl hk
    have psk := pok.1
    have ek := hI.1 k hk
    simp only [fMember, qk, zk, if_true]
    have hb1 : tF v C E (tG S) X X FI FI AI AI AL (sr AL (lo + 57) (AL (lo + 67 + 2 * k))) lo := tF.o hcb.2.2.2.2.1 hcb.2.2.2.2.2.1 (by omega) (fun k hk => (hcb.2.2.2.2.2.2 k hk).1) (fun _ _ => rfl) (fun _ _ => rfl) (fun c h1 _ _ => sr_ne _ _ h1)
    have hta := s_takeApart (V := V) (d := d) (hcb.tf (by omega) hb1) (show v = 60 ∨ v = 63 by omega) ho hgl
    rw [sr_at, ek] at hta
    rw [ek] at hb1
    refine G_aload0 10 d_Alg_member_9 rfl ?_
    refine G_getR 13 d_Alg_member_10 rfl f_Alg_65 rfl h.sh h.f8 ?_
    refine G_aload0 14 d_Alg_member_13 rfl ?_
    refine G_getR 17 d_Alg_member_14 rfl f_Alg_13 rfl h.sh h.f0 ?_
    refine G_iload1 18 d_Alg_member_17 rfl ?_
    refine G_aaload 19 d_Alg_member_18 rfl h.s0 (by decide) (by decide) (ix_nI (by omega) (by omega)) (by assumption) ?_
    refine G_invV1v 22 d_Alg_member_19 rfl e_Alg_170 M_Poly_becomeLike rfl h.s8 (Nat.le_of_ble_eq_true rfl) (Nat.le_of_ble_eq_true rfl) rfl (s_becomeLike (by assumption) (by assumption)) ?_
    refine G_aload0 23 d_Alg_member_22 rfl ?_
    refine G_aload0 24 d_Alg_member_23 rfl ?_
    rw [ek]
    refine G_getR 27 d_Alg_member_24 rfl f_Alg_79 rfl h.sh r11 ?_
    refine G_invV1 30 d_Alg_member_27 rfl e_Alg_360 M_Alg_takeApart rfl h.sh (Nat.le_of_ble_eq_true rfl) (Nat.le_of_ble_eq_true rfl) rfl (G.conseq (hta) (fun r27 X27 FI27 AI27 AL27 h27 => ?_))
    obtain ⟨hF, hm⟩ := h27
    have hF2 := hb1.tr hF (by have := hcb.2.2.2.2.2.1.1; omega)
    obtain ⟨hI2, hc2⟩ := hI.tf hW hwv r10 hF2
    have h2 := h.xk hF2.1 hcb.2.2.2.2.2.1.1
    have wk2 := h2.wk
    have wks2 := wk2.1
    unfold aptS
    have eLs : cLs (tG S) = leadL (gL (tG S)) (gN (tG S)) := rfl
    rw [eLs] at hm
    cases ha : apt (tO S) (gN (tG S)) (leadL (gL (tG S)) (gN (tG S))) (gP (tG S)) 84 (tS S k) [] with
    | none =>
      rw [ha] at hm
      subst hm
      refine G_ifne 36 33 d_Alg_member_30 rfl rfl (fun h30 => ?_) (fun h30 => ?_)
      · exact absurd rfl h30
      · refine G_bipush (-5) 35 d_Alg_member_33 rfl rfl ?_
        refine G_iret d_Alg_member_35 rfl ?_
        exact ⟨rfl, h2, hI2, hc2⟩
    | some q =>
      rw [ha] at hm
      obtain ⟨rfl, m1, m2, m3⟩ := hm
      dsimp only
      refine G_ifne 36 33 d_Alg_member_30 rfl rfl (fun h30 => ?_) (fun h30 => ?_)
      · refine G_aload0 37 d_Alg_member_36 rfl ?_
        refine G_getR 40 d_Alg_member_37 rfl f_Alg_65 rfl h2.sh h2.f8 ?_
        refine G_invV0d 43 d_Alg_member_40 rfl e_Alg_363 M_Poly_isZero rfl h2.s8 (Nat.le_of_ble_eq_true rfl) (Nat.le_of_ble_eq_true rfl) rfl (s_isZero (by assumption)) ?_
        refine G_ifeq 50 46 d_Alg_member_43 rfl rfl (fun h43 => ?_) (fun h43 => ?_)
        · by_cases hz : lead1 q.1 (tO S) = 0
          · rw [m1, if_pos ((deg_lead ho).mpr hz)] at h43; exact absurd h43 (by decide)
          · rw [if_neg hz]
            refine G_iconstN 0 51 d_Alg_member_50 rfl rfl ?_
            refine G_iret d_Alg_member_51 rfl ?_
            exact ⟨rfl, h2, hI2, hc2⟩
        · by_cases hz : lead1 q.1 (tO S) = 0
          · rw [if_pos hz]
            refine G_iconstN 1 47 d_Alg_member_46 rfl rfl ?_
            refine G_goto 51 d_Alg_member_47 rfl ?_
            refine G_iret d_Alg_member_51 rfl ?_
            exact ⟨rfl, h2, hI2, hc2⟩
          · rw [m1, if_neg (fun e => hz ((deg_lead ho).mp e))] at h43; exact absurd rfl h43
      · exact absurd h30 (by decide)
  · have q1 := bN_f h1 (show 6 < 2 ^ 31 by omega)
    simp only [fMember, q1, Bool.false_and, Bool.and_false, Bool.false_eq_true, if_false]
    refine G_iconst (-1) 8 d_Alg_member_7 rfl rfl ?_
    refine G_iret d_Alg_member_8 rfl ?_
    exact ⟨rfl, h, hI, cF.rf⟩
theorem c_witness {V : GV} {d lo C E : Nat} {S : ST} {s : Int32} {X : XT} {FI AI : FT} {AL : LT} (h : CO X lo) (hI : CIv C E S X FI AI AL lo) (hW : WS S) : G V m_Alg_witness (d + 4) 0 [some (.ref lo), some (.int s)] [] X FI AI AL (fun r X' FI' AI' AL' => r = some (.int (fWitness S s).1) ∧ CO X' lo ∧ CIv C E (fWitness S s).2 X' FI' AI' AL' lo ∧ cF X X' FI FI' AI AI' AL AL' lo) := by
  have wk := h.wk
  have wks := wk.1
  have spp := h.sp
  have sps := spp.1
  have hcb := hI.cb h
  have ho := hW.1
  have hgl : ∀ i, i < gN (tG S) → gL (tG S) i < 84 ∧ 1 ≤ eD (gL (tG S) i) := fun i hi => ⟨(hW.2.1.2.1 i hi).1, (hW.2.1.2.1 i hi).2.1⟩
  obtain ⟨w, v, hwv, r10, r11, f13, hst⟩ := hI.2.2.2.2.2.2.2.2.2.1
  refine G_iload1 1 d_Alg_witness_0 rfl ?_
  refine G_invS1b 4 d_Alg_witness_1 rfl e_Alg_119 M_Alg_isSlot (Nat.le_of_ble_eq_true rfl) (Nat.le_of_ble_eq_true rfl) rfl (s_isSlot) (fun h1 => G_ifne1 7 d_Alg_witness_4 9 rfl rfl ?_) (fun h1 => G_ifne0 7 d_Alg_witness_4 9 rfl rfl ?_)
  · obtain ⟨k, hk, rfl⟩ := h1
    have qk := bN_t hk (show 6 < 2 ^ 31 by omega)
    have zk := ni_nI (show k < 2 ^ 31 by omega)
    obtain ⟨ark, pok⟩ := h.sl hk
    have psk := pok.1
    have ek := hI.1 k hk
    cases hw : (tW S).1 with
    | false =>
      rw [hw] at f13
      have f13' : FI lo 13 = 0 := f13
      simp only [fWitness, qk, zk, hw, if_true, Bool.false_eq_true, if_false]
      refine G_aload0 10 d_Alg_witness_9 rfl ?_
      refine G_getIv 13 d_Alg_witness_10 rfl f_Alg_86 rfl h.sh f13' ?_
      refine G_ifne 19 16 d_Alg_witness_13 rfl rfl (fun h13 => ?_) (fun h13 => ?_)
      · exact absurd rfl h13
      · refine G_bipush (-2) 18 d_Alg_witness_16 rfl rfl ?_
        refine G_iret d_Alg_witness_18 rfl ?_
        exact ⟨rfl, h, hI, cF.rf⟩
    | true =>
      rw [hw] at f13
      have f13' : FI lo 13 = 1 := f13
      simp only [fWitness, qk, zk, hw, if_true]
      obtain ⟨l84, hrow⟩ := hW.2.2.2.1 hw
      have hss := s_sumSteps (V := V) (d := d) hcb (show w = 60 ∨ w = 63 by omega) (hst hw) l84 (fun q hq => by have := (hrow q hq).1; omega)
      refine G_aload0 10 d_Alg_witness_9 rfl ?_
      refine G_getIv 13 d_Alg_witness_10 rfl f_Alg_86 rfl h.sh f13' ?_
      refine G_ifne 19 16 d_Alg_witness_13 rfl rfl (fun h13 => ?_) (fun h13 => ?_)
      · refine G_aload0 20 d_Alg_witness_19 rfl ?_
        refine G_aload0 21 d_Alg_witness_20 rfl ?_
        refine G_getR 24 d_Alg_witness_21 rfl f_Alg_75 rfl h.sh r10 ?_
        refine G_invV1 27 d_Alg_witness_24 rfl e_Alg_304 M_Alg_sumSteps rfl h.sh (Nat.le_of_ble_eq_true rfl) (Nat.le_of_ble_eq_true rfl) rfl (G.conseq (hss) (fun r24 X24 FI24 AI24 AL24 h24 => ?_))
        obtain ⟨b1, b2, b3, b4, b5⟩ := h24
        replace b1 := b1.symm
        replace b2 := b2.symm
        replace b3 := b3.symm
        subst b1 b2 b3
        split at b5
        · rename_i hc
          rw [if_pos hc]
          subst b5
          refine G_ifeq 38 30 d_Alg_witness_27 rfl rfl (fun h27 => ?_) (fun h27 => ?_)
          · refine G_bipush (-5) 40 d_Alg_witness_38 rfl rfl ?_
            refine G_iret d_Alg_witness_40 rfl ?_
            exact ⟨rfl, h, hI.wk hW b4, cF.al (fun c hc => b4 c (by omega) (by omega))⟩
          · exact absurd rfl h27
        · rename_i hc
          rw [if_neg hc]
          obtain ⟨rfl, b6⟩ := b5
          refine G_ifeq 38 30 d_Alg_witness_27 rfl rfl (fun h27 => ?_) (fun h27 => ?_)
          · exact absurd h27 (by decide)
          · refine G_aload0 31 d_Alg_witness_30 rfl ?_
            refine G_iload1 32 d_Alg_witness_31 rfl ?_
            refine G_invV1d 35 d_Alg_witness_32 rfl e_Alg_178 M_Alg_putWork rfl h.sh (Nat.le_of_ble_eq_true rfl) (Nat.le_of_ble_eq_true rfl) rfl (s_putWork (by assumption) (by omega)) ?_
            refine G_goto 40 d_Alg_witness_35 rfl ?_
            refine G_iret d_Alg_witness_40 rfl ?_
            rw [b6]
            exact ⟨rfl, h, hI.s1 hW hk (fun c h1 h2 hc => by rw [sr_ne _ _ hc]; exact b4 c h1 h2) (sr_at _ _ _), cF.al (fun c hc => by rw [sr_ne _ _ (by omega)]; exact b4 c (by omega) (by omega))⟩
      · exact absurd h13 (by decide)
  · have q1 := bN_f h1 (show 6 < 2 ^ 31 by omega)
    simp only [fWitness, q1, Bool.false_and, Bool.and_false, Bool.false_eq_true, if_false]
    refine G_iconst (-1) 8 d_Alg_witness_7 rfl rfl ?_
    refine G_iret d_Alg_witness_8 rfl ?_
    exact ⟨rfl, h, hI, cF.rf⟩
