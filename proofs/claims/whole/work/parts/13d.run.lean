/-! ===== the class: run ===== -/
theorem s_addToWork {V : GV} {d lo p q : Nat} {X : XT} {FI AI : FT} {AL : LT} (h : CO X lo) (hP : PO X p q) (hq : q ≠ lo + 57) : G V m_Alg_addToWork (d + 2) 0 [some (.ref lo), some (.ref p)] [] X FI AI AL (Pd (some (.int (goA (AL (lo + 57)) (AL q)).1)) X FI AI (sr AL (lo + 57) (goA (AL (lo + 57)) (AL q)).2)) := by
  have wk := h.wk
  have wks := wk.1
  have ps := hP.1
  refine G_aload0 1 d_Alg_addToWork_0 rfl ?_
  refine G_getR 4 d_Alg_addToWork_1 rfl f_Alg_65 rfl h.sh h.f8 ?_
  refine G_invV0d 7 d_Alg_addToWork_4 rfl e_Alg_132 M_Poly_normNow rfl h.s8 (Nat.le_of_ble_eq_true rfl) (Nat.le_of_ble_eq_true rfl) rfl (s_norm' (by assumption)) ?_
  refine G_aload1 8 d_Alg_addToWork_7 rfl ?_
  refine G_invV0d 11 d_Alg_addToWork_8 rfl e_Alg_132 M_Poly_normNow rfl (by assumption) (Nat.le_of_ble_eq_true rfl) (Nat.le_of_ble_eq_true rfl) rfl (s_norm' (by assumption)) ?_
  refine G_invS2d 14 d_Alg_addToWork_11 rfl e_Alg_142 M_Alg_sumOrAbove (Nat.le_of_ble_eq_true rfl) (Nat.le_of_ble_eq_true rfl) rfl (s_sumA) ?_
  refine G_ldc2 17 d_Alg_addToWork_14 rfl k_Alg_146 ?_
  refine G_lcne 24 21 d_Alg_addToWork_17 d_Alg_addToWork_18 rfl rfl (fun h17 => ?_) (fun h17 => ?_)
  · rw [← sumA_neg] at h17
    unfold goA
    rw [if_neg h17]
    refine G_aload0 25 d_Alg_addToWork_24 rfl ?_
    refine G_getR 28 d_Alg_addToWork_25 rfl f_Alg_65 rfl h.sh h.f8 ?_
    refine G_aload1 29 d_Alg_addToWork_28 rfl ?_
    refine G_lconst 1 30 d_Alg_addToWork_29 rfl rfl ?_
    refine G_invV2v 33 d_Alg_addToWork_30 rfl e_Alg_166 M_Poly_addMultiple rfl h.s8 (Nat.le_of_ble_eq_true rfl) (Nat.le_of_ble_eq_true rfl) rfl (s_addMultiple (by assumption) (by assumption)) ?_
    refine G_iconst (0) 34 d_Alg_addToWork_33 rfl rfl ?_
    refine G_iret d_Alg_addToWork_34 rfl ?_
    exact Pd.rf
  · rw [← sumA_neg] at h17
    unfold goA
    rw [if_pos h17, sr_self]
    refine G_bipush (-5) 23 d_Alg_addToWork_21 rfl rfl ?_
    refine G_iret d_Alg_addToWork_23 rfl ?_
    exact Pd.rf
theorem s_scaleWork {V : GV} {d lo : Nat} {n : Int32} {X : XT} {FI AI : FT} {AL : LT} (h : CO X lo) (hn : isB n (-999) 999) : G V m_Alg_scaleWork (d + 2) 0 [some (.ref lo), some (.int n)] [] X FI AI AL (Pd (some (.int (goT (AL (lo + 57)) n).1)) X FI AI (sr AL (lo + 57) (goT (AL (lo + 57)) n).2)) := by
  have wk := h.wk
  have wks := wk.1
  have ia := iabs_l hn
  refine G_iload1 1 d_Alg_scaleWork_0 rfl ?_
  refine G_invS1d 4 d_Alg_scaleWork_1 rfl e_Alg_136 M_Math_abs_II (Nat.le_of_ble_eq_true rfl) (Nat.le_of_ble_eq_true rfl) rfl (s_iabs) ?_
  refine G_i2l 5 d_Alg_scaleWork_4 rfl ?_
  refine G_aload0 6 d_Alg_scaleWork_5 rfl ?_
  refine G_getR 9 d_Alg_scaleWork_6 rfl f_Alg_65 rfl h.sh h.f8 ?_
  refine G_invV0d 12 d_Alg_scaleWork_9 rfl e_Alg_132 M_Poly_normNow rfl h.s8 (Nat.le_of_ble_eq_true rfl) (Nat.le_of_ble_eq_true rfl) rfl (s_norm' (by assumption)) ?_
  refine G_invS2d 15 d_Alg_scaleWork_12 rfl e_Alg_163 M_Alg_productOrAbove (Nat.le_of_ble_eq_true rfl) (Nat.le_of_ble_eq_true rfl) rfl (s_prodA) ?_
  refine G_ldc2 18 d_Alg_scaleWork_15 rfl k_Alg_146 ?_
  refine G_lcne 25 22 d_Alg_scaleWork_18 d_Alg_scaleWork_19 rfl rfl (fun h18 => ?_) (fun h18 => ?_)
  · rw [ia, ← prodA_neg] at h18
    unfold goT
    rw [if_neg h18]
    refine G_aload0 26 d_Alg_scaleWork_25 rfl ?_
    refine G_getR 29 d_Alg_scaleWork_26 rfl f_Alg_65 rfl h.sh h.f8 ?_
    refine G_iload1 30 d_Alg_scaleWork_29 rfl ?_
    refine G_i2l 31 d_Alg_scaleWork_30 rfl ?_
    refine G_invV1v 34 d_Alg_scaleWork_31 rfl e_Alg_445 M_Poly_scaleBy rfl h.s8 (Nat.le_of_ble_eq_true rfl) (Nat.le_of_ble_eq_true rfl) rfl (s_scaleBy (by assumption)) ?_
    refine G_iconst (0) 35 d_Alg_scaleWork_34 rfl rfl ?_
    refine G_iret d_Alg_scaleWork_35 rfl ?_
    exact Pd.rf
  · rw [ia, ← prodA_neg] at h18
    unfold goT
    rw [if_pos h18, sr_self]
    refine G_bipush (-5) 24 d_Alg_scaleWork_22 rfl rfl ?_
    refine G_iret d_Alg_scaleWork_24 rfl ?_
    exact Pd.rf
theorem goT_m1 {f : Nat → Int64} (hf : nb f) : goT f (-1) = (0, fun j => f j * (-1)) := by
  unfold goT
  have e1 := norm_ti hf
  have h1 : labs (-1 : Int32).toInt64 = 1 := by decide
  have h2 : (1 : Int64).toInt = 1 := by decide
  have hf2 : nr f < 2 ^ 63 := hf
  rw [h1, if_neg (fun c => by
    rw [Int64.lt_iff_toInt_lt, show (0 : Int64).toInt = 0 from rfl] at c
    rcases prodA_ok (a := 1) (b := norm f) (by omega) with ⟨q1, q2⟩ | ⟨q1, q2⟩ | ⟨q1, q2 | q2⟩
    · omega
    · omega
    · have := q2.2
      rw [h2, e1] at this
      omega
    · have := q2.1
      rw [h2, e1] at this
      omega)]
  rfl
def goC (C E : Nat) (S : ST) (X : XT) (FI AI : FT) (AL : LT) (lo : Nat) (R : Int32 × (Nat → Int64)) : PT := fun r X' FI' AI' AL' => r = some (.int R.1) ∧ CO X' lo ∧ CIv C E S X' FI' AI' AL' lo ∧ cF X X' FI FI' AI AI' AL AL' lo ∧ (R.1 = 0 → AL' (lo + 57) = R.2)
theorem goC.w {C E lo : Nat} {S : ST} {X : XT} {FI AI : FT} {AL : LT} {R : Int32 × (Nat → Int64)} (h : CO X lo) (hI : CIv C E S X FI AI AL lo) (hW : WS S) : goC C E S X FI AI AL lo R (some (.int R.1)) X FI AI (sr AL (lo + 57) R.2) :=
  ⟨rfl, h, hI.wk hW (fun c h1 _ => sr_ne _ _ h1), cF.al (fun c hc => sr_ne _ _ (by omega)), fun _ => sr_at _ _ _⟩
theorem m5n : ¬ (-5 : Int32) = 0 := by decide
theorem goR_e {S : ST} {w n m : Nat} {f : Nat → Int64} : goR S w n (m + 1) f = if (goL S (if w = 0 then n - (m + 1) else m) f).1 = 0 then goR S w n m (goL S (if w = 0 then n - (m + 1) else m) f).2 else goL S (if w = 0 then n - (m + 1) else m) f := rfl
theorem s_passLink {V : GV} {d lo C E l : Nat} {S : ST} {X : XT} {FI AI : FT} {AL : LT} (h : CO X lo) (hI : CIv C E S X FI AI AL lo) (hW : WS S) (hl : l < (tL S).1) (hf : nb (AL (lo + 57))) : G V m_Alg_passLink (d + 5) 0 [some (.ref lo), some (.ref (lo + 86 + 3 * l))] [] X FI AI AL (goC C E S X FI AI AL lo (goL S l (AL (lo + 57)))) := by
  have wk := h.wk
  have wks := wk.1
  have spp := h.sp
  have sps := spp.1
  have hl8 := hW.2.2.2.2.2.1.1
  obtain ⟨k7, w0, w1, w3, wc⟩ := hW.2.2.2.2.2.1.2 l hl
  obtain ⟨c1, c2, c3⟩ := hI.2.2.2.2.2.2.2.2.1.2 l hl
  obtain ⟨ar, lk1, lk2, lk3⟩ := h.lk (show l < 8 by omega)
  have lk3' : PO X (lo + 87 + 3 * l) (lo + 88 + 3 * l) := by
    have := lk3
    rw [show lo + 86 + 3 * l + 1 = lo + 87 + 3 * l by omega, show lo + 86 + 3 * l + 2 = lo + 88 + 3 * l by omega] at this
    exact this
  have lk2' : x_FR X (lo + 86 + 3 * l) 2 = some (lo + 87 + 3 * l) := by
    rw [lk2, show lo + 86 + 3 * l + 1 = lo + 87 + 3 * l by omega]
  obtain ⟨w, v, hwv, r10, r11, -, -⟩ := hI.2.2.2.2.2.2.2.2.2.1
  unfold goL
  have kk : (tL S).2.1 l = 0 ∨ (tL S).2.1 l = 1 ∨ (tL S).2.1 l = 2 ∨ (tL S).2.1 l = 3 ∨ (tL S).2.1 l = 4 ∨ (tL S).2.1 l = 5 ∨ (tL S).2.1 l = 6 := by omega
  refine G_aload1 1 d_Alg_passLink_0 rfl ?_
  refine G_getIv 4 d_Alg_passLink_1 rfl f_Alg_403 rfl lk1 c1 ?_
  rcases kk with e | e | e | e | e | e | e
  · rw [e]
    obtain ⟨t, ht, hw⟩ := w0 e
    rw [hw] at c2
    simp only [hw, ni_nI (show t < 2 ^ 31 by omega)]
    refine G_tableIn 44 d_Alg_passLink_4 (by decide) (by decide) rfl rfl ?_
    have hbt := s_becomeTurned (V := V) (d := d + 2) (k := t) (FI := FI) (AI := AI) (AL := sr AL (lo + 59) (AL (lo + 57))) wk spp (by omega) ht
    rw [sr_at] at hbt
    have hw1 : CIv C E S X FI AI (sr AL (lo + 59) (AL (lo + 57))) lo := hI.wk hW (fun c _ h2 => sr_ne _ _ h2)
    refine G_aload0 45 d_Alg_passLink_44 rfl ?_
    refine G_getR 48 d_Alg_passLink_45 rfl f_Alg_69 rfl h.sh h.f9 ?_
    refine G_aload0 49 d_Alg_passLink_48 rfl ?_
    refine G_getR 52 d_Alg_passLink_49 rfl f_Alg_65 rfl h.sh h.f8 ?_
    refine G_invV1v 55 d_Alg_passLink_52 rfl e_Alg_170 M_Poly_becomeLike rfl h.s9 (Nat.le_of_ble_eq_true rfl) (Nat.le_of_ble_eq_true rfl) rfl (s_becomeLike (by assumption) (by assumption)) ?_
    refine G_aload0 56 d_Alg_passLink_55 rfl ?_
    refine G_getR 59 d_Alg_passLink_56 rfl f_Alg_65 rfl h.sh h.f8 ?_
    refine G_aload0 60 d_Alg_passLink_59 rfl ?_
    refine G_getR 63 d_Alg_passLink_60 rfl f_Alg_69 rfl h.sh h.f9 ?_
    refine G_aload1 64 d_Alg_passLink_63 rfl ?_
    refine G_getIv 67 d_Alg_passLink_64 rfl f_Alg_406 rfl lk1 c2 ?_
    refine G_invV2v 70 d_Alg_passLink_67 rfl e_Alg_184 M_Poly_becomeTurned rfl h.s8 (Nat.le_of_ble_eq_true rfl) (Nat.le_of_ble_eq_true rfl) rfl (hbt) ?_
    refine G_iconst (0) 71 d_Alg_passLink_70 rfl rfl ?_
    refine G_iret d_Alg_passLink_71 rfl ?_
    exact ⟨rfl, h, hw1.wk hW (fun c h1 _ => sr_ne _ _ h1), (cF.al (fun c hc => sr_ne _ _ (by omega))).tr (cF.al (fun c hc => sr_ne _ _ (by omega))), fun _ => sr_at _ _ _⟩
  · rw [e]
    refine G_tableIn 72 d_Alg_passLink_4 (by decide) (by decide) rfl rfl ?_
    have hg := s_scaleWork (V := V) (d := d + 2) (FI := FI) (AI := AI) (AL := AL) h (w1 e)
    refine G_aload0 73 d_Alg_passLink_72 rfl ?_
    refine G_aload1 74 d_Alg_passLink_73 rfl ?_
    refine G_getIv 77 d_Alg_passLink_74 rfl f_Alg_406 rfl lk1 c2 ?_
    refine G_invV1d 80 d_Alg_passLink_77 rfl e_Alg_449 M_Alg_scaleWork rfl h.sh (Nat.le_of_ble_eq_true rfl) (Nat.le_of_ble_eq_true rfl) rfl (hg) ?_
    refine G_iret d_Alg_passLink_80 rfl ?_
    exact goC.w h hI hW
  · rw [e]
    refine G_tableIn 81 d_Alg_passLink_4 (by decide) (by decide) rfl rfl ?_
    have hg := s_addToWork (V := V) (d := d + 2) (FI := FI) (AI := AI) (AL := AL) h lk3' (by omega)
    rw [c3 (Or.inl e)] at hg
    refine G_aload0 82 d_Alg_passLink_81 rfl ?_
    refine G_aload1 83 d_Alg_passLink_82 rfl ?_
    refine G_getR 86 d_Alg_passLink_83 rfl f_Alg_409 rfl lk1 lk2' ?_
    refine G_invV1d 89 d_Alg_passLink_86 rfl e_Alg_452 M_Alg_addToWork rfl h.sh (Nat.le_of_ble_eq_true rfl) (Nat.le_of_ble_eq_true rfl) rfl (hg) ?_
    refine G_iret d_Alg_passLink_89 rfl ?_
    exact goC.w h hI hW
  · rw [e]
    obtain ⟨t, ht, hw⟩ := w3 e
    rw [hw] at c2
    simp only [hw, ni_nI (show t < 2 ^ 31 by omega)]
    refine G_tableIn 90 d_Alg_passLink_4 (by decide) (by decide) rfl rfl ?_
    obtain ⟨ark, pok⟩ := h.sl ht
    have hg := s_addToWork (V := V) (d := d + 2) (FI := FI) (AI := AI) (AL := AL) h pok (by omega)
    rw [hI.1 t ht] at hg
    refine G_aload0 91 d_Alg_passLink_90 rfl ?_
    refine G_aload0 92 d_Alg_passLink_91 rfl ?_
    refine G_getR 95 d_Alg_passLink_92 rfl f_Alg_13 rfl h.sh h.f0 ?_
    refine G_aload1 96 d_Alg_passLink_95 rfl ?_
    refine G_getIv 99 d_Alg_passLink_96 rfl f_Alg_406 rfl lk1 c2 ?_
    refine G_aaload 100 d_Alg_passLink_99 rfl h.s0 (by decide) (by decide) (ix_nI (by omega) (by omega)) (by assumption) ?_
    refine G_invV1d 103 d_Alg_passLink_100 rfl e_Alg_452 M_Alg_addToWork rfl h.sh (Nat.le_of_ble_eq_true rfl) (Nat.le_of_ble_eq_true rfl) rfl (hg) ?_
    refine G_iret d_Alg_passLink_103 rfl ?_
    exact goC.w h hI hW
  · rw [e]
    refine G_tableIn 104 d_Alg_passLink_4 (by decide) (by decide) rfl rfl ?_
    have hta := s_taS (V := V) (d := d) h hI hW hwv r10
    refine G_aload0 105 d_Alg_passLink_104 rfl ?_
    refine G_aload0 106 d_Alg_passLink_105 rfl ?_
    refine G_getR 109 d_Alg_passLink_106 rfl f_Alg_79 rfl h.sh r11 ?_
    refine G_invV1 112 d_Alg_passLink_109 rfl e_Alg_360 M_Alg_takeApart rfl h.sh (Nat.le_of_ble_eq_true rfl) (Nat.le_of_ble_eq_true rfl) rfl (G.conseq (hta) (fun r109 X109 FI109 AI109 AL109 h109 => ?_))
    obtain ⟨d1, d2, d3, d4, d5, d6⟩ := h109
    unfold goS
    cases ha : aptS S (AL (lo + 57)) with
    | none =>
      rw [ha] at d6
      subst d6
      refine G_ifeq 119 115 d_Alg_passLink_112 rfl rfl (fun h112 => ?_) (fun h112 => ?_)
      · refine G_bipush (-5) 121 d_Alg_passLink_119 rfl rfl ?_
        refine G_iret d_Alg_passLink_121 rfl ?_
        exact ⟨rfl, d1, d2, d3, fun e => absurd e m5n⟩
      · exact absurd rfl h112
    | some u =>
      rw [ha] at d6
      obtain ⟨rfl, m1, m2, m3⟩ := d6
      refine G_ifeq 119 115 d_Alg_passLink_112 rfl rfl (fun h112 => ?_) (fun h112 => ?_)
      · exact absurd h112 (by decide)
      · refine G_iconst (0) 116 d_Alg_passLink_115 rfl rfl ?_
        refine G_goto 121 d_Alg_passLink_116 rfl ?_
        refine G_iret d_Alg_passLink_121 rfl ?_
        exact ⟨rfl, d1, d2, d3, fun _ => m1⟩
  · rw [e]
    refine G_tableIn 122 d_Alg_passLink_4 (by decide) (by decide) rfl rfl ?_
    have hm := s_multiplyWork (V := V) (d := d + 2) (FI := FI) (AI := AI) (AL := AL) h lk3' (by omega)
    rw [c3 (Or.inr e)] at hm
    refine G_aload0 123 d_Alg_passLink_122 rfl ?_
    refine G_aload1 124 d_Alg_passLink_123 rfl ?_
    refine G_getR 127 d_Alg_passLink_124 rfl f_Alg_409 rfl lk1 lk2' ?_
    refine G_invV1 130 d_Alg_passLink_127 rfl e_Alg_174 M_Alg_multiplyWork rfl h.sh (Nat.le_of_ble_eq_true rfl) (Nat.le_of_ble_eq_true rfl) rfl (G.conseq (hm) (fun r127 X127 FI127 AI127 AL127 h127 => ?_))
    obtain ⟨a1, a2, a3, a4⟩ := h127
    replace a1 := a1.symm
    replace a2 := a2.symm
    replace a3 := a3.symm
    subst a1 a2 a3
    have fin : r127 = some (.int (goM (AL (lo + 57)) ((tL S).2.2.2 l)).1) ∧ AL127 = sr AL (lo + 57) (goM (AL (lo + 57)) ((tL S).2.2.2 l)).2 := by
      unfold goM
      split at a4
      · rename_i c
        rw [if_pos c, sr_self]; exact a4
      · rename_i c
        rw [if_neg c]
        split at a4
        · rename_i c
          rw [if_pos c, sr_self]; exact a4
        · rename_i c
          rw [if_neg c]; exact a4
    obtain ⟨rfl, rfl⟩ := fin
    refine G_iret d_Alg_passLink_130 rfl ?_
    exact goC.w h hI hW
  · rw [e]
    refine G_tableOut 131 d_Alg_passLink_4 (Or.inr (by decide)) rfl ?_
    show G V m_Alg_passLink (d + 5) 131 _ _ X FI AI AL (goC C E S X FI AI AL lo (goT (AL (lo + 57)) (-1)))
    rw [goT_m1 hf]
    refine G_aload0 132 d_Alg_passLink_131 rfl ?_
    refine G_getR 135 d_Alg_passLink_132 rfl f_Alg_65 rfl h.sh h.f8 ?_
    refine G_ldc2 138 d_Alg_passLink_135 rfl k_Alg_146 ?_
    refine G_invV1v 141 d_Alg_passLink_138 rfl e_Alg_445 M_Poly_scaleBy rfl h.s8 (Nat.le_of_ble_eq_true rfl) (Nat.le_of_ble_eq_true rfl) rfl (s_scaleBy (by assumption)) ?_
    refine G_iconst (0) 142 d_Alg_passLink_141 rfl rfl ?_
    refine G_iret d_Alg_passLink_142 rfl ?_
    exact goC.w (R := (0, fun j => AL (lo + 57) j * (-1))) h hI hW
theorem fRun_eq {S : ST} {k w : Nat} {R : Int32 × (Nat → Int64)} (hk : k < 6) (hw : w < 2) (e : goR S w (tL S).1 (tL S).1 (tS S k) = R) : fRun S (nI k) (nI w) = if R.1 = 0 then (nI (cnt R.2), set1 S k R.2) else (R.1, S) := by
  unfold fRun
  rw [bN_t hk (by omega), bN_t hw (by omega), ni_nI (by omega), ni_nI (by omega), e]
  rfl
theorem c_run {V : GV} {d lo C E : Nat} {S : ST} {s t : Int32} {X : XT} {FI AI : FT} {AL : LT} (h : CO X lo) (hI : CIv C E S X FI AI AL lo) (hW : WS S) (hN : NS S) : G V m_Alg_run (d + 6) 0 [some (.ref lo), some (.int s), some (.int t), none, none] [] X FI AI AL (fun r X' FI' AI' AL' => r = some (.int (fRun S s t).1) ∧ CO X' lo ∧ CIv C E (fRun S s t).2 X' FI' AI' AL' lo ∧ cF X X' FI FI' AI AI' AL AL' lo) := by
  have wk := h.wk
  have wks := wk.1
  have hl8 := hW.2.2.2.2.2.1.1
  have bd : ∀ s' t' : Int32, (bN s' 6 && bN t' 2) = false → G V m_Alg_run (d + 6) 16 [some (.ref lo), some (.int s'), some (.int t'), none, none] [] X FI AI AL (fun r X' FI' AI' AL' => r = some (.int (fRun S s' t').1) ∧ CO X' lo ∧ CIv C E (fRun S s' t').2 X' FI' AI' AL' lo ∧ cF X X' FI FI' AI AI' AL AL' lo) := by
    intro s' t' e
    have eF : fRun S s' t' = (-1, S) := by unfold fRun; rw [e]; rfl
    rw [eF]
    refine G_iconst (-1) 17 d_Alg_run_16 rfl rfl ?_
    refine G_iret d_Alg_run_17 rfl ?_
    exact ⟨rfl, h, hI, cF.rf⟩
  refine G_iload1 1 d_Alg_run_0 rfl ?_
  refine G_invS1b 4 d_Alg_run_1 rfl e_Alg_119 M_Alg_isSlot (Nat.le_of_ble_eq_true rfl) (Nat.le_of_ble_eq_true rfl) rfl (s_isSlot) (fun h1 => G_ifeq1 7 d_Alg_run_4 16 rfl rfl ?_) (fun h1 => G_ifeq0 7 d_Alg_run_4 16 rfl rfl ?_)
  · obtain ⟨k, hk, rfl⟩ := h1
    have qk := bN_t hk (show 6 < 2 ^ 31 by omega)
    obtain ⟨ark, pok⟩ := h.sl hk
    have psk := pok.1
    have ek := hI.1 k hk
    refine G_iload2 8 d_Alg_run_7 rfl ?_
    first | refine G_ifltD 16 11 d_Alg_run_8 rfl rfl (by omega) (fun h8 => ?_) (fun j h8 => ?_) | refine G_iflt 16 11 d_Alg_run_8 rfl rfl (fun h8 => ?_) (fun h8 => ?_)
    · exact bd _ _ (by rw [bN_f (fun ⟨j, hj, ej⟩ => by rw [ej] at h8; exact absurd h8 (nI_pos (by omega))) (show 2 < 2 ^ 31 by omega), Bool.and_false])
    · obtain ⟨w, hw31, rfl⟩ := nI_of h8
      refine G_iload2 12 d_Alg_run_11 rfl ?_
      refine G_iconstN 1 13 d_Alg_run_12 rfl rfl ?_
      first | refine G_icleN 18 16 d_Alg_run_13 rfl rfl (by omega) (by omega) (fun h13 => ?_) (fun h13 => ?_) | refine G_icle 18 16 d_Alg_run_13 rfl rfl (fun h13 => ?_) (fun h13 => ?_)
      · have hw : w < 2 := by omega
        obtain ⟨R, hR⟩ : ∃ R, goR S w (tL S).1 (tL S).1 (tS S k) = R := ⟨_, rfl⟩
        rw [fRun_eq hk hw hR]
        have L : ∀ m, m ≤ (tL S).1 → ∀ (X1 : XT) (FJ AJ : FT) (BJ : LT) (f : Nat → Int64) (l4 : Option Value), CO X1 lo → CIv C E S X1 FJ AJ BJ lo → cF X X1 FI FJ AI AJ AL BJ lo → BJ (lo + 57) = f → nb f → goR S w (tL S).1 m f = R → G V m_Alg_run (d + 6) 33 [some (.ref lo), some (.int (nI k)), some (.int (nI w)), some (.int (nI ((tL S).1 - m))), l4] [] X1 FJ AJ BJ (fun r X' FI' AI' AL' => r = some (.int (if R.1 = 0 then (nI (cnt R.2), set1 S k R.2) else (R.1, S)).1) ∧ CO X' lo ∧ CIv C E (if R.1 = 0 then (nI (cnt R.2), set1 S k R.2) else (R.1, S)).2 X' FI' AI' AL' lo ∧ cF X X' FI FI' AI AI' AL AL' lo) := by
          intro m
          induction m with
          | zero =>
            intro _ X1 FJ AJ BJ f l4 k1 k2 k3 k4 k5 k6
            have f16 : FJ lo 16 = nI (tL S).1 := k2.2.2.2.2.2.2.2.2.1.1
            rw [goR] at k6
            subst k6
            rw [if_pos rfl, Nat.sub_zero]
            have hpw := s_putWork (V := V) (d := d + 3) (FI := FJ) (AI := AJ) (AL := BJ) k1 hk
            rw [k4] at hpw
            refine G_iload3 34 d_Alg_run_33 rfl ?_
            refine G_aload0 35 d_Alg_run_34 rfl ?_
            refine G_getIv 38 d_Alg_run_35 rfl f_Alg_96 rfl k1.sh f16 ?_
            first | refine G_icgeN 82 41 d_Alg_run_38 rfl rfl (by omega) (by omega) (fun h38 => ?_) (fun h38 => ?_) | refine G_icge 82 41 d_Alg_run_38 rfl rfl (fun h38 => ?_) (fun h38 => ?_)
            · refine G_aload0 83 d_Alg_run_82 rfl ?_
              refine G_iload1 84 d_Alg_run_83 rfl ?_
              refine G_invV1d 87 d_Alg_run_84 rfl e_Alg_178 M_Alg_putWork rfl k1.sh (Nat.le_of_ble_eq_true rfl) (Nat.le_of_ble_eq_true rfl) rfl (hpw) ?_
              refine G_iret d_Alg_run_87 rfl ?_
              exact ⟨rfl, k1, k2.s1 hW hk (fun c _ _ hc => sr_ne _ _ hc) (sr_at _ _ _), k3.tr (cF.al (fun c hc => sr_ne _ _ (by omega)))⟩
            · omega
          | succ m ih =>
            intro hm X1 FJ AJ BJ f l4 k1 k2 k3 k4 k5 k6
            have f16 : FJ lo 16 = nI (tL S).1 := k2.2.2.2.2.2.2.2.2.1.1
            have hl : (if w = 0 then (tL S).1 - (m + 1) else m) < (tL S).1 := by split <;> omega
            rw [goR_e] at k6
            have hpl := s_passLink (V := V) (d := d) k1 k2 hW hl (by rw [k4]; exact k5)
            rw [k4] at hpl
            have hnb := nb_goL hN hW hl k5
            generalize hj : (if w = 0 then (tL S).1 - (m + 1) else m) = j at *
            obtain ⟨arl, -⟩ := k1.lk (show j < 8 by omega)
            have T : ∀ l4, G V m_Alg_run (d + 6) 62 [some (.ref lo), some (.int (nI k)), some (.int (nI w)), some (.int (nI ((tL S).1 - (m + 1)))), l4] [.int (nI j), .ref (lo + 55), .ref lo] X1 FJ AJ BJ (fun r X' FI' AI' AL' => r = some (.int (if R.1 = 0 then (nI (cnt R.2), set1 S k R.2) else (R.1, S)).1) ∧ CO X' lo ∧ CIv C E (if R.1 = 0 then (nI (cnt R.2), set1 S k R.2) else (R.1, S)).2 X' FI' AI' AL' lo ∧ cF X X' FI FI' AI AI' AL AL' lo) := by
              intro l4
              refine G_aaload 63 d_Alg_run_62 rfl k1.s7 (by decide) (by decide) (ix_nI (by omega) (by omega)) arl ?_
              refine G_invV1 66 d_Alg_run_63 rfl e_Alg_412 M_Alg_passLink rfl k1.sh (Nat.le_of_ble_eq_true rfl) (Nat.le_of_ble_eq_true rfl) rfl (G.conseq (hpl) (fun r63 X63 FI63 AI63 AL63 h63 => ?_))
              obtain ⟨p1, p2, p3, p4, p5⟩ := h63
              subst p1
              by_cases hz : (goL S j f).1 = 0
              · rw [if_pos hz] at k6
                have ih2 := ih (by omega) X63 FI63 AI63 AL63 (goL S j f).2 (some (.int (goL S j f).1)) p2 p3 (k3.tr p4) (p5 hz) hnb k6
                rw [show (tL S).1 - m = (tL S).1 - (m + 1) + 1 by omega] at ih2
                refine G_istore4 68 d_Alg_run_66 rfl (by decide) rfl ?_
                refine G_iload4 70 d_Alg_run_68 rfl ?_
                refine G_ifeq 76 73 d_Alg_run_70 rfl rfl (fun h70 => ?_) (fun h70 => ?_)
                · first | refine G_iincN3 79 d_Alg_run_76 rfl (by decide) rfl ?_ | refine G_iinc3 _ 79 d_Alg_run_76 rfl (by decide) rfl rfl ?_
                  refine G_goto 33 d_Alg_run_79 rfl ?_
                  exact ih2
                · exact absurd hz h70
              · rw [if_neg hz] at k6
                subst k6
                rw [if_neg hz]
                refine G_istore4 68 d_Alg_run_66 rfl (by decide) rfl ?_
                refine G_iload4 70 d_Alg_run_68 rfl ?_
                refine G_ifeq 76 73 d_Alg_run_70 rfl rfl (fun h70 => ?_) (fun h70 => ?_)
                · exact absurd h70 hz
                · refine G_iload4 75 d_Alg_run_73 rfl ?_
                  refine G_iret d_Alg_run_75 rfl ?_
                  exact ⟨rfl, p2, p3, k3.tr p4⟩
            refine G_iload3 34 d_Alg_run_33 rfl ?_
            refine G_aload0 35 d_Alg_run_34 rfl ?_
            refine G_getIv 38 d_Alg_run_35 rfl f_Alg_96 rfl k1.sh f16 ?_
            first | refine G_icgeN 82 41 d_Alg_run_38 rfl rfl (by omega) (by omega) (fun h38 => ?_) (fun h38 => ?_) | refine G_icge 82 41 d_Alg_run_38 rfl rfl (fun h38 => ?_) (fun h38 => ?_)
            · omega
            · by_cases hw0 : w = 0
              · subst hw0
                rw [if_pos rfl] at hj
                rw [← hj] at T
                refine G_aload0 42 d_Alg_run_41 rfl ?_
                refine G_aload0 43 d_Alg_run_42 rfl ?_
                refine G_getR 46 d_Alg_run_43 rfl f_Alg_60 rfl k1.sh k1.f7 ?_
                refine G_iload2 47 d_Alg_run_46 rfl ?_
                refine G_ifne 54 50 d_Alg_run_47 rfl rfl (fun h47 => ?_) (fun h47 => ?_)
                · exact absurd h47 (fun q => q rfl)
                · refine G_iload3 51 d_Alg_run_50 rfl ?_
                  refine G_goto 62 d_Alg_run_51 rfl ?_
                  exact T _
              · rw [if_neg hw0] at hj
                refine G_aload0 42 d_Alg_run_41 rfl ?_
                refine G_aload0 43 d_Alg_run_42 rfl ?_
                refine G_getR 46 d_Alg_run_43 rfl f_Alg_60 rfl k1.sh k1.f7 ?_
                refine G_iload2 47 d_Alg_run_46 rfl ?_
                refine G_ifne 54 50 d_Alg_run_47 rfl rfl (fun h47 => ?_) (fun h47 => ?_)
                · have e9 : (tL S).1 - 1 - ((tL S).1 - (m + 1)) = j := by omega
                  refine G_aload0 55 d_Alg_run_54 rfl ?_
                  refine G_getIv 58 d_Alg_run_55 rfl f_Alg_96 rfl k1.sh f16 ?_
                  refine G_iconstN 1 59 d_Alg_run_58 rfl rfl ?_
                  first | refine G_isubN 60 d_Alg_run_59 rfl (by omega) ?_ | refine G_isub 60 d_Alg_run_59 rfl ?_
                  refine G_iload3 61 d_Alg_run_60 rfl ?_
                  first | refine G_isubN 62 d_Alg_run_61 rfl (by omega) ?_ | refine G_isub 62 d_Alg_run_61 rfl ?_
                  rw [e9]
                  exact T _
                · exact absurd h47 (nI_ne0 (by omega) (by omega))
        have hw1 : CIv C E S X FI AI (sr AL (lo + 57) (AL (lo + 67 + 2 * k))) lo := hI.wk hW (fun c h1 _ => sr_ne _ _ h1)
        have L0 := L (tL S).1 (Nat.le_refl _) X FI AI (sr AL (lo + 57) (AL (lo + 67 + 2 * k))) (tS S k) none h hw1 (cF.al (fun c hc => sr_ne _ _ (by omega))) (by rw [sr_at, ek]) (hN.1 k hk) hR
        rw [Nat.sub_self] at L0
        refine G_aload0 19 d_Alg_run_18 rfl ?_
        refine G_getR 22 d_Alg_run_19 rfl f_Alg_65 rfl h.sh h.f8 ?_
        refine G_aload0 23 d_Alg_run_22 rfl ?_
        refine G_getR 26 d_Alg_run_23 rfl f_Alg_13 rfl h.sh h.f0 ?_
        refine G_iload1 27 d_Alg_run_26 rfl ?_
        refine G_aaload 28 d_Alg_run_27 rfl h.s0 (by decide) (by decide) (ix_nI (by omega) (by omega)) (by assumption) ?_
        refine G_invV1v 31 d_Alg_run_28 rfl e_Alg_170 M_Poly_becomeLike rfl h.s8 (Nat.le_of_ble_eq_true rfl) (Nat.le_of_ble_eq_true rfl) rfl (s_becomeLike (by assumption) (by assumption)) ?_
        refine G_iconstN 0 32 d_Alg_run_31 rfl rfl ?_
        refine G_istore3 33 d_Alg_run_32 rfl (by decide) rfl ?_
        exact L0
      · exact bd _ _ (by rw [bN_f (fun ⟨j, hj, ej⟩ => by have := (nI_eq (by omega) (by omega)).mp ej; omega) (show 2 < 2 ^ 31 by omega), Bool.and_false])
  · exact bd _ _ (by rw [bN_f h1 (show 6 < 2 ^ 31 by omega), Bool.false_and])
