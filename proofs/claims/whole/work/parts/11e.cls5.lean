/-! ===== the class: SHEETS, THE CHAIN, counts ===== -/
theorem CIv.sh {C E lo : Nat} {S : ST} {H : (Nat → Int32) × (Nat → Nat) × (Nat → Nat → Int32)} {X : XT} {FI FI' AI AI' : FT} {AL : LT} (h : CIv C E S X FI AI AL lo) (k1 : ∀ c, c < lo + 78 ∨ lo + 86 ≤ c → FI' c = FI c) (k2 : ∀ c, c < lo + 78 ∨ lo + 86 ≤ c → AI' c = AI c) (hH : CSh H FI' AI' lo) (hW : WS S) : CIv C E (stH S H) X FI' AI' AL lo ∧ cF X X FI FI' AI AI' AL AL lo := by
  obtain ⟨a1, a2, a3, a4, a5, a6, a7, a8, a9, a10, a11, a12⟩ := h
  exact ⟨⟨a1, a2.tr (k1 _ (by omega)) (k2 _ (by omega)), a3.tr (k1 _ (by omega)) (fun c _ _ => k2 c (by omega)) (fun _ _ _ => rfl), a4.tr (k2 _ (by omega)) (k2 _ (by omega)), a5.tr (k2 _ (by omega)) (fun _ _ => rfl), a6.tr (by rw [k1 _ (by omega)]) (k2 _ (by omega)) (k2 _ (by omega)) (k2 _ (by omega)), a7.tr (by rw [k1 _ (by omega)]) (fun _ _ _ => rfl), hH, a9.tr hW.2.2.2.2.2.1.1 (by rw [k1 _ (by omega)]) (fun c _ _ => k1 c (by omega)) (fun _ _ _ => rfl), a10.tr (by rw [k1 _ (by omega)]) (fun c _ _ => k1 c (by omega)) (fun c _ _ => k2 c (by omega)) (fun _ _ _ => rfl), a11.tr (fun c _ => k1 c (by omega)) (fun c _ => k2 c (by omega)) (fun _ _ => rfl), a12⟩, cF.cl (fun c hc => k1 c (by omega)) (fun c hc => k2 c (by omega)) (fun _ _ => rfl)⟩
theorem CIv.lk {C E lo : Nat} {S : ST} {L : Nat × (Nat → Nat) × (Nat → Int32) × (Nat → Nat → Int64)} {X : XT} {FI FI' AI : FT} {AL AL' : LT} (h : CIv C E S X FI AI AL lo) (k1 : ∀ c j, ¬ (c = lo ∧ j = 16) → (c < lo + 86 ∨ lo + 110 ≤ c) → FI' c j = FI c j) (k2 : ∀ c, c < lo + 86 ∨ lo + 110 ≤ c → AL' c = AL c) (hL : CLk L FI' AL' lo) : CIv C E (stL S L) X FI' AI AL' lo ∧ cF X X FI FI' AI AI AL AL' lo := by
  obtain ⟨a1, a2, a3, a4, a5, a6, a7, a8, a9, a10, a11, a12⟩ := h
  have k3 : ∀ c, c ≠ lo → (c < lo + 86 ∨ lo + 110 ≤ c) → FI' c = FI c := fun c h1 h2 => funext fun j => k1 c j (by omega) h2
  exact ⟨⟨fun s hs => by rw [k2 _ (by omega)]; exact a1 s hs, a2.tr (k3 _ (by omega) (by omega)) rfl, a3.tr (k3 _ (by omega) (by omega)) (fun _ _ _ => rfl) (fun c _ _ => k2 c (by omega)), a4, a5.tr rfl (fun c _ => k2 c (by omega)), a6.tr (k1 _ _ (by omega) (by omega)) rfl rfl rfl, a7.tr (k1 _ _ (by omega) (by omega)) (fun c _ _ => k2 c (by omega)), a8.tr (fun c _ _ => k3 c (by omega) (by omega)) (fun _ _ _ => rfl), hL, a10.tr (k1 _ _ (by omega) (by omega)) (fun c _ _ => k3 c (by omega) (by omega)) (fun _ _ _ => rfl) (fun c _ _ => k2 c (by omega)), a11.tr (fun c _ => k3 c (by omega) (by omega)) (fun _ _ => rfl) (fun c _ => k2 c (by omega)), a12⟩, cF.cl (fun c hc => k3 c (by omega) (by omega)) (fun _ _ => rfl) (fun c hc => k2 c (by omega))⟩
theorem c_sheet {V : GV} {d lo C E : Nat} {S : ST} {s w n : Int32} {X : XT} {FI AI : FT} {AL : LT} (h : CO X lo) (hI : CIv C E S X FI AI AL lo) (hW : WS S) : G V m_Alg_sheet (d + 2) 0 [some (.ref lo), some (.int s), some (.int w), some (.int n)] [] X FI AI AL (fun r X' FI' AI' AL' => r = some (.int (fSheet S s w n).1) ∧ CO X' lo ∧ CIv C E (fSheet S s w n).2 X' FI' AI' AL' lo ∧ cF X X' FI FI' AI AI' AL AL' lo) := by
  refine G_iload1 1 d_Alg_sheet_0 rfl ?_
  refine G_invS1b 4 d_Alg_sheet_1 rfl e_Alg_214 M_Alg_isSheet (Nat.le_of_ble_eq_true rfl) (Nat.le_of_ble_eq_true rfl) rfl (s_isSheet) (fun h1 => G_ifeq1 7 d_Alg_sheet_4 17 rfl rfl ?_) (fun h1 => G_ifeq0 7 d_Alg_sheet_4 17 rfl rfl ?_)
  · obtain ⟨k, hk, rfl⟩ := h1
    have qk := bN_t hk (show 4 < 2 ^ 31 by omega)
    have zk := ni_nI (show k < 2 ^ 31 by omega)
    obtain ⟨ark, pok⟩ := h.shs hk
    have psk := pok.1
    have pfk := pok.2.1
    have prk := pok.2.2
    obtain ⟨sok, sik, cek⟩ := hI.2.2.2.2.2.2.2.1 k hk
    have wsk := hW.2.2.2.2.1 k hk
    have s4k : (tH S).2.1 k ≤ 40 := by
      rcases wsk with ⟨-, e⟩ | ⟨-, e⟩ <;> omega
    have bd : bB w (-1) 1 = false → G V m_Alg_sheet (d + 2) 17 [some (.ref lo), some (.int (nI k)), some (.int w), some (.int n)] [] X FI AI AL (fun r X' FI' AI' AL' => r = some (.int (fSheet S (nI k) w n).1) ∧ CO X' lo ∧ CIv C E (fSheet S (nI k) w n).2 X' FI' AI' AL' lo ∧ cF X X' FI FI' AI AI' AL AL' lo) := by
      intro hn
      simp only [fSheet, hn, Bool.false_and, Bool.and_false, Bool.false_eq_true, if_false]
      refine G_iconst (-1) 18 d_Alg_sheet_17 rfl rfl ?_
      refine G_iret d_Alg_sheet_18 rfl ?_
      exact ⟨rfl, h, hI, cF.rf⟩
    have hsb := fun (so v : Int32) => s_sheetBecome (V := V) (d := d) (so := so) (n := v) (FI := FI) (AI := AI) (AL := AL) pok
    have fin : ∀ (so v : Int32) (m : Nat), v = nI m → CSh (upn (tH S).1 k so, upn (tH S).2.1 k m, upn (tH S).2.2 k (fun _ => 0)) (u2 (u2 FI (lo + 78 + 2 * k) 0 so) (lo + 78 + 2 * k) 1 v) (sr AI (lo + 79 + 2 * k) (fun _ => 0)) lo := by
      intro so v m ev i hi
      dsimp only
      by_cases e : i = k
      · subst e
        rw [upn_at, upn_at, upn_at]
        exact ⟨by rw [u2_ix _ _ (by omega), u2_at], by rw [u2_at]; exact ev, fun j _ => by rw [sr_at]⟩
      · rw [upn_ne _ _ e, upn_ne _ _ e, upn_ne _ _ e]
        rw [u2_off _ _ _ (by omega), u2_off _ _ _ (by omega), sr_ne _ _ (by omega)]
        exact hI.2.2.2.2.2.2.2.1 i hi
    have fr1 : ∀ (so v : Int32) c, c < lo + 78 ∨ lo + 86 ≤ c → u2 (u2 FI (lo + 78 + 2 * k) 0 so) (lo + 78 + 2 * k) 1 v c = FI c := fun so v c hc => by rw [u2_off _ _ _ (by omega), u2_off _ _ _ (by omega)]
    have fr2 : ∀ c, c < lo + 78 ∨ lo + 86 ≤ c → sr AI (lo + 79 + 2 * k) (fun _ => 0) c = AI c := fun c hc => sr_ne _ _ (by omega)
    refine G_iload2 8 d_Alg_sheet_7 rfl ?_
    refine G_iconst (-1) 9 d_Alg_sheet_8 rfl rfl ?_
    first | refine G_icltN 17 12 d_Alg_sheet_9 rfl rfl (by omega) (by omega) (fun h9 => ?_) (fun h9 => ?_) | refine G_iclt 17 12 d_Alg_sheet_9 rfl rfl (fun h9 => ?_) (fun h9 => ?_)
    · exact bd (by unfold bB; rw [Int32.lt_iff_toInt_lt] at h9; rw [decide_eq_false (show ¬ -1 ≤ w.toInt by have : (-1 : Int32).toInt = -1 := rfl; omega)]; rfl)
    · rw [Int32.lt_iff_toInt_lt, show (-1 : Int32).toInt = -1 from rfl] at h9
      refine G_iload2 13 d_Alg_sheet_12 rfl ?_
      refine G_iconst (1) 14 d_Alg_sheet_13 rfl rfl ?_
      refine G_icle 19 17 d_Alg_sheet_14 rfl rfl (fun h14 => ?_) (fun h14 => ?_)
      · rw [Int32.le_iff_toInt_le, show (1 : Int32).toInt = 1 from rfl] at h14
        have hbb : bB w (-1) 1 = true := bB_iff.mpr ⟨by omega, h14⟩
        refine G_iload2 20 d_Alg_sheet_19 rfl ?_
        refine G_iconst (-1) 21 d_Alg_sheet_20 rfl rfl ?_
        refine G_icne 37 24 d_Alg_sheet_21 rfl rfl (fun h21 => ?_) (fun h21 => ?_)
        · have hw0 : 0 ≤ w.toInt := by
            have : w.toInt ≠ -1 := fun e => h21 (Int32.toInt_inj.mp e)
            omega
          refine G_iload3 38 d_Alg_sheet_37 rfl ?_
          refine G_bipush (40) 40 d_Alg_sheet_38 rfl rfl ?_
          refine G_icle 45 43 d_Alg_sheet_40 rfl rfl (fun h40 => ?_) (fun h40 => ?_)
          · rw [Int32.le_iff_toInt_le, show (40 : Int32).toInt = 40 from rfl] at h40
            simp only [fSheet, qk, zk, hbb, hw0, show ¬ (40 < n.toInt) by omega, decide_true, decide_false, Bool.and_false, Bool.not_false, Bool.and_self, Bool.true_and, if_true, true_and]
            refine G_iload3 46 d_Alg_sheet_45 rfl ?_
            refine G_ifge 52 49 d_Alg_sheet_46 rfl rfl (fun h46 => ?_) (fun h46 => ?_)
            · rw [Int32.le_iff_toInt_le, show (0 : Int32).toInt = 0 from rfl] at h46
              rw [if_neg (show ¬ n.toInt < 0 by omega), if_neg (show ¬ w.toInt < 0 by omega)]
              have en : n = nI (ni n) := by
                apply Int32.toInt_inj.mp
                unfold ni
                rw [nI_toInt (by omega)]; omega
              obtain ⟨r1, r2⟩ := hI.sh (fr1 w n) fr2 (fin w n (ni n) en) hW
              refine G_aload0 53 d_Alg_sheet_52 rfl ?_
              refine G_getR 56 d_Alg_sheet_53 rfl f_Alg_54 rfl h.sh h.f6 ?_
              refine G_iload1 57 d_Alg_sheet_56 rfl ?_
              refine G_aaload 58 d_Alg_sheet_57 rfl h.s6 (by decide) (by decide) (ix_nI (by omega) (by omega)) (by assumption) ?_
              refine G_iload2 59 d_Alg_sheet_58 rfl ?_
              refine G_iload3 60 d_Alg_sheet_59 rfl ?_
              refine G_invV2v 63 d_Alg_sheet_60 rfl e_Alg_382 M_Sheet_become rfl (by assumption) (Nat.le_of_ble_eq_true rfl) (Nat.le_of_ble_eq_true rfl) rfl (hsb w n) ?_
              refine G_iconst (1) 64 d_Alg_sheet_63 rfl rfl ?_
              refine G_iret d_Alg_sheet_64 rfl ?_
              exact ⟨rfl, h, r1, r2⟩
            · rw [Int32.le_iff_toInt_le, show (0 : Int32).toInt = 0 from rfl] at h46
              rw [if_pos (show n.toInt < 0 by omega)]
              refine G_bipush (-14) 51 d_Alg_sheet_49 rfl rfl ?_
              refine G_iret d_Alg_sheet_51 rfl ?_
              exact ⟨rfl, h, hI, cF.rf⟩
          · rw [Int32.le_iff_toInt_le, show (40 : Int32).toInt = 40 from rfl] at h40
            simp only [fSheet, qk, hbb, hw0, show (40 < n.toInt) by omega, decide_true, Bool.and_self, Bool.not_true, Bool.false_and, Bool.and_false, Bool.false_eq_true, if_false]
            refine G_iconst (-1) 44 d_Alg_sheet_43 rfl rfl ?_
            refine G_iret d_Alg_sheet_44 rfl ?_
            exact ⟨rfl, h, hI, cF.rf⟩
        · have h21' : w = -1 := h21
          subst h21'
          have hw0 : ¬ 0 ≤ (-1 : Int32).toInt := by decide
          simp only [fSheet, qk, zk, hbb, hw0, decide_false, Bool.false_and, Bool.not_false, Bool.and_self, if_true, false_and, if_false, if_pos (show (-1 : Int32).toInt < 0 by decide)]
          obtain ⟨r1, r2⟩ := hI.sh (fr1 (-1) 0) fr2 (fin (-1) 0 0 rfl) hW
          refine G_aload0 25 d_Alg_sheet_24 rfl ?_
          refine G_getR 28 d_Alg_sheet_25 rfl f_Alg_54 rfl h.sh h.f6 ?_
          refine G_iload1 29 d_Alg_sheet_28 rfl ?_
          refine G_aaload 30 d_Alg_sheet_29 rfl h.s6 (by decide) (by decide) (ix_nI (by omega) (by omega)) (by assumption) ?_
          refine G_iconst (-1) 31 d_Alg_sheet_30 rfl rfl ?_
          refine G_iconst (0) 32 d_Alg_sheet_31 rfl rfl ?_
          refine G_invV2v 35 d_Alg_sheet_32 rfl e_Alg_382 M_Sheet_become rfl (by assumption) (Nat.le_of_ble_eq_true rfl) (Nat.le_of_ble_eq_true rfl) rfl (hsb (-1) 0) ?_
          refine G_iconst (1) 36 d_Alg_sheet_35 rfl rfl ?_
          refine G_iret d_Alg_sheet_36 rfl ?_
          exact ⟨rfl, h, r1, r2⟩
      · rw [Int32.le_iff_toInt_le, show (1 : Int32).toInt = 1 from rfl] at h14
        exact bd (by unfold bB; rw [decide_eq_false (show ¬ w.toInt ≤ 1 by omega), Bool.and_false])
  · have q1 := bN_f h1 (show 4 < 2 ^ 31 by omega)
    simp only [fSheet, q1, Bool.false_and, Bool.and_false, Bool.false_eq_true, if_false]
    refine G_iconst (-1) 18 d_Alg_sheet_17 rfl rfl ?_
    refine G_iret d_Alg_sheet_18 rfl ?_
    exact ⟨rfl, h, hI, cF.rf⟩
theorem c_cell {V : GV} {d lo C E : Nat} {S : ST} {s i v : Int32} {X : XT} {FI AI : FT} {AL : LT} (h : CO X lo) (hI : CIv C E S X FI AI AL lo) (hW : WS S) : G V m_Alg_cell (d + 2) 0 [some (.ref lo), some (.int s), some (.int i), some (.int v)] [] X FI AI AL (fun r X' FI' AI' AL' => r = some (.int (fCell S s i v).1) ∧ CO X' lo ∧ CIv C E (fCell S s i v).2 X' FI' AI' AL' lo ∧ cF X X' FI FI' AI AI' AL AL' lo) := by
  refine G_iload1 1 d_Alg_cell_0 rfl ?_
  refine G_invS1b 4 d_Alg_cell_1 rfl e_Alg_214 M_Alg_isSheet (Nat.le_of_ble_eq_true rfl) (Nat.le_of_ble_eq_true rfl) rfl (s_isSheet) (fun h1 => G_ifne1 7 d_Alg_cell_4 9 rfl rfl ?_) (fun h1 => G_ifne0 7 d_Alg_cell_4 9 rfl rfl ?_)
  · obtain ⟨k, hk, rfl⟩ := h1
    have qk := bN_t hk (show 4 < 2 ^ 31 by omega)
    have zk := ni_nI (show k < 2 ^ 31 by omega)
    obtain ⟨ark, pok⟩ := h.shs hk
    have psk := pok.1
    have pfk := pok.2.1
    have prk := pok.2.2
    obtain ⟨sok, sik, cek⟩ := hI.2.2.2.2.2.2.2.1 k hk
    have wsk := hW.2.2.2.2.1 k hk
    have s4k : (tH S).2.1 k ≤ 40 := by
      rcases wsk with ⟨-, e⟩ | ⟨-, e⟩ <;> omega
    simp only [fCell, qk, zk, if_true]
    refine G_aload0 10 d_Alg_cell_9 rfl ?_
    refine G_getR 13 d_Alg_cell_10 rfl f_Alg_54 rfl h.sh h.f6 ?_
    refine G_iload1 14 d_Alg_cell_13 rfl ?_
    refine G_aaload 15 d_Alg_cell_14 rfl h.s6 (by decide) (by decide) (ix_nI (by omega) (by omega)) (by assumption) ?_
    refine G_invV0b 18 d_Alg_cell_15 rfl e_Alg_217 M_Sheet_isMissing rfl (by assumption) (Nat.le_of_ble_eq_true rfl) (Nat.le_of_ble_eq_true rfl) rfl (s_isMissing (by assumption)) (fun h15 => G_ifeq1 21 d_Alg_cell_18 24 rfl rfl ?_) (fun h15 => G_ifeq0 21 d_Alg_cell_18 24 rfl rfl ?_)
    · rw [sok] at h15
      rw [if_pos h15]
      refine G_bipush (-11) 23 d_Alg_cell_21 rfl rfl ?_
      refine G_iret d_Alg_cell_23 rfl ?_
      exact ⟨rfl, h, hI, cF.rf⟩
    · rw [sok] at h15
      rw [if_neg h15]
      by_cases hin : isN i ((tH S).2.1 k)
      · obtain ⟨l, hl, rfl⟩ := hin
        have ql := bN_t hl (show (tH S).2.1 k < 2 ^ 31 by omega)
        have zl := ni_nI (show l < 2 ^ 31 by omega)
        rw [ql, if_pos rfl, zl]
        refine G_iload2 25 d_Alg_cell_24 rfl ?_
        first | refine G_ifltD 41 28 d_Alg_cell_25 rfl rfl (by omega) (fun h25 => ?_) (fun j h25 => ?_) | refine G_iflt 41 28 d_Alg_cell_25 rfl rfl (fun h25 => ?_) (fun h25 => ?_)
        · exact absurd h25 (nI_pos (by omega))
        · refine G_iload2 29 d_Alg_cell_28 rfl ?_
          refine G_aload0 30 d_Alg_cell_29 rfl ?_
          refine G_getR 33 d_Alg_cell_30 rfl f_Alg_54 rfl h.sh h.f6 ?_
          refine G_iload1 34 d_Alg_cell_33 rfl ?_
          refine G_aaload 35 d_Alg_cell_34 rfl h.s6 (by decide) (by decide) (ix_nI (by omega) (by omega)) (by assumption) ?_
          refine G_getIv 38 d_Alg_cell_35 rfl f_Alg_225 rfl (by assumption) sik ?_
          first | refine G_icltN 44 41 d_Alg_cell_38 rfl rfl (by omega) (by omega) (fun h38 => ?_) (fun h38 => ?_) | refine G_iclt 44 41 d_Alg_cell_38 rfl rfl (fun h38 => ?_) (fun h38 => ?_)
          · have hH : CSh ((tH S).1, (tH S).2.1, upn (tH S).2.2 k (fun j => if j = l then low ((tH S).1 k) v.toInt64 else (tH S).2.2 k j)) FI (u2 AI (lo + 79 + 2 * k) l (low (FI (lo + 78 + 2 * k) 0) v.toInt64)) lo := by
              intro i hi
              obtain ⟨b1, b2, b3⟩ := hI.2.2.2.2.2.2.2.1 i hi
              refine ⟨b1, b2, fun j hj => ?_⟩
              show _ = upn (tH S).2.2 k _ i j
              by_cases e : i = k
              · subst e
                rw [upn_at]
                by_cases e2 : j = l
                · subst e2; rw [u2_at, if_pos rfl, sok]
                · rw [u2_ix _ _ e2, if_neg e2]; exact b3 j hj
              · rw [upn_ne _ _ e, u2_off _ _ _ (by omega)]; exact b3 j hj
            obtain ⟨r1, r2⟩ := hI.sh (fun _ _ => rfl) (fun c hc => u2_off _ _ _ (by omega)) hH hW
            refine G_aload0 45 d_Alg_cell_44 rfl ?_
            refine G_getR 48 d_Alg_cell_45 rfl f_Alg_54 rfl h.sh h.f6 ?_
            refine G_iload1 49 d_Alg_cell_48 rfl ?_
            refine G_aaload 50 d_Alg_cell_49 rfl h.s6 (by decide) (by decide) (ix_nI (by omega) (by omega)) (by assumption) ?_
            refine G_iload2 51 d_Alg_cell_50 rfl ?_
            refine G_iload3 52 d_Alg_cell_51 rfl ?_
            refine G_i2l 53 d_Alg_cell_52 rfl ?_
            refine G_invV2v 56 d_Alg_cell_53 rfl e_Alg_229 M_Sheet_put rfl (by assumption) (Nat.le_of_ble_eq_true rfl) (Nat.le_of_ble_eq_true rfl) rfl (s_sheetPut (by assumption) (by omega)) ?_
            refine G_iconstN 1 57 d_Alg_cell_56 rfl rfl ?_
            refine G_iret d_Alg_cell_57 rfl ?_
            exact ⟨rfl, h, r1, r2⟩
          · omega
      · have q2 := bN_f hin (show (tH S).2.1 k < 2 ^ 31 by omega)
        rw [q2, if_neg (by decide)]
        refine G_iload2 25 d_Alg_cell_24 rfl ?_
        first | refine G_ifltD 41 28 d_Alg_cell_25 rfl rfl (by omega) (fun h25 => ?_) (fun j h25 => ?_) | refine G_iflt 41 28 d_Alg_cell_25 rfl rfl (fun h25 => ?_) (fun h25 => ?_)
        · refine G_bipush (-12) 43 d_Alg_cell_41 rfl rfl ?_
          refine G_iret d_Alg_cell_43 rfl ?_
          exact ⟨rfl, h, hI, cF.rf⟩
        · obtain ⟨l, hl31, rfl⟩ := nI_of h25
          refine G_iload2 29 d_Alg_cell_28 rfl ?_
          refine G_aload0 30 d_Alg_cell_29 rfl ?_
          refine G_getR 33 d_Alg_cell_30 rfl f_Alg_54 rfl h.sh h.f6 ?_
          refine G_iload1 34 d_Alg_cell_33 rfl ?_
          refine G_aaload 35 d_Alg_cell_34 rfl h.s6 (by decide) (by decide) (ix_nI (by omega) (by omega)) (by assumption) ?_
          refine G_getIv 38 d_Alg_cell_35 rfl f_Alg_225 rfl (by assumption) sik ?_
          first | refine G_icltN 44 41 d_Alg_cell_38 rfl rfl (by omega) (by omega) (fun h38 => ?_) (fun h38 => ?_) | refine G_iclt 44 41 d_Alg_cell_38 rfl rfl (fun h38 => ?_) (fun h38 => ?_)
          · exact absurd ⟨l, by omega, rfl⟩ hin
          · refine G_bipush (-12) 43 d_Alg_cell_41 rfl rfl ?_
            refine G_iret d_Alg_cell_43 rfl ?_
            exact ⟨rfl, h, hI, cF.rf⟩
  · have q1 := bN_f h1 (show 4 < 2 ^ 31 by omega)
    simp only [fCell, q1, Bool.false_and, Bool.and_false, Bool.false_eq_true, if_false]
    refine G_iconst (-1) 8 d_Alg_cell_7 rfl rfl ?_
    refine G_iret d_Alg_cell_8 rfl ?_
    exact ⟨rfl, h, hI, cF.rf⟩
theorem c_item {V : GV} {d lo C E : Nat} {S : ST} {s i : Int32} {X : XT} {FI AI : FT} {AL : LT} (h : CO X lo) (hI : CIv C E S X FI AI AL lo) (hW : WS S) : G V m_Alg_item (d + 2) 0 [some (.ref lo), some (.int s), some (.int i)] [] X FI AI AL (fun r X' FI' AI' AL' => r = some (.long (fItem S s i).1) ∧ CO X' lo ∧ CIv C E (fItem S s i).2 X' FI' AI' AL' lo ∧ cF X X' FI FI' AI AI' AL AL' lo) := by
  refine G_iload1 1 d_Alg_item_0 rfl ?_
  refine G_invS1b 4 d_Alg_item_1 rfl e_Alg_214 M_Alg_isSheet (Nat.le_of_ble_eq_true rfl) (Nat.le_of_ble_eq_true rfl) rfl (s_isSheet) (fun h1 => G_ifeq1 7 d_Alg_item_4 36 rfl rfl ?_) (fun h1 => G_ifeq0 7 d_Alg_item_4 36 rfl rfl ?_)
  · obtain ⟨k, hk, rfl⟩ := h1
    have qk := bN_t hk (show 4 < 2 ^ 31 by omega)
    have zk := ni_nI (show k < 2 ^ 31 by omega)
    obtain ⟨ark, pok⟩ := h.shs hk
    have psk := pok.1
    have pfk := pok.2.1
    have prk := pok.2.2
    obtain ⟨sok, sik, cek⟩ := hI.2.2.2.2.2.2.2.1 k hk
    have wsk := hW.2.2.2.2.1 k hk
    have s4k : (tH S).2.1 k ≤ 40 := by
      rcases wsk with ⟨-, e⟩ | ⟨-, e⟩ <;> omega
    by_cases hin : isN i ((tH S).2.1 k)
    · obtain ⟨l, hl, rfl⟩ := hin
      have ql := bN_t hl (show (tH S).2.1 k < 2 ^ 31 by omega)
      have zl := ni_nI (show l < 2 ^ 31 by omega)
      have ec := cek l (by omega)
      simp only [fItem, qk, zk, ql, zl, Bool.and_self, if_true]
      refine G_aload0 8 d_Alg_item_7 rfl ?_
      refine G_getR 11 d_Alg_item_8 rfl f_Alg_54 rfl h.sh h.f6 ?_
      refine G_iload1 12 d_Alg_item_11 rfl ?_
      refine G_aaload 13 d_Alg_item_12 rfl h.s6 (by decide) (by decide) (ix_nI (by omega) (by omega)) (by assumption) ?_
      refine G_invV0b 16 d_Alg_item_13 rfl e_Alg_217 M_Sheet_isMissing rfl (by assumption) (Nat.le_of_ble_eq_true rfl) (Nat.le_of_ble_eq_true rfl) rfl (s_isMissing (by assumption)) (fun h13 => G_ifne1 19 d_Alg_item_16 36 rfl rfl ?_) (fun h13 => G_ifne0 19 d_Alg_item_16 36 rfl rfl ?_)
      · rw [sok] at h13
        exfalso
        rcases wsk with ⟨-, e⟩ | ⟨e, -⟩
        · omega
        · rcases e with e | e <;> rw [e] at h13 <;> exact absurd h13 (by decide)
      · refine G_iload2 20 d_Alg_item_19 rfl ?_
        first | refine G_ifltD 36 23 d_Alg_item_20 rfl rfl (by omega) (fun h20 => ?_) (fun j h20 => ?_) | refine G_iflt 36 23 d_Alg_item_20 rfl rfl (fun h20 => ?_) (fun h20 => ?_)
        · exact absurd h20 (nI_pos (by omega))
        · refine G_iload2 24 d_Alg_item_23 rfl ?_
          refine G_aload0 25 d_Alg_item_24 rfl ?_
          refine G_getR 28 d_Alg_item_25 rfl f_Alg_54 rfl h.sh h.f6 ?_
          refine G_iload1 29 d_Alg_item_28 rfl ?_
          refine G_aaload 30 d_Alg_item_29 rfl h.s6 (by decide) (by decide) (ix_nI (by omega) (by omega)) (by assumption) ?_
          refine G_getIv 33 d_Alg_item_30 rfl f_Alg_225 rfl (by assumption) sik ?_
          first | refine G_icltN 40 36 d_Alg_item_33 rfl rfl (by omega) (by omega) (fun h33 => ?_) (fun h33 => ?_) | refine G_iclt 40 36 d_Alg_item_33 rfl rfl (fun h33 => ?_) (fun h33 => ?_)
          · refine G_aload0 41 d_Alg_item_40 rfl ?_
            refine G_getR 44 d_Alg_item_41 rfl f_Alg_54 rfl h.sh h.f6 ?_
            refine G_iload1 45 d_Alg_item_44 rfl ?_
            refine G_aaload 46 d_Alg_item_45 rfl h.s6 (by decide) (by decide) (ix_nI (by omega) (by omega)) (by assumption) ?_
            refine G_getR 49 d_Alg_item_46 rfl f_Alg_385 rfl (by assumption) (by assumption) ?_
            refine G_iload2 50 d_Alg_item_49 rfl ?_
            refine G_ialoadv 51 d_Alg_item_50 rfl (by assumption) (ix_nI (by omega) (by omega)) ec ?_
            refine G_i2l 52 d_Alg_item_51 rfl ?_
            refine G_lret d_Alg_item_52 rfl ?_
            exact ⟨rfl, h, hI, cF.rf⟩
          · omega
    · have q2 := bN_f hin (show (tH S).2.1 k < 2 ^ 31 by omega)
      simp only [fItem, zk, q2, Bool.false_and, Bool.and_false, Bool.false_eq_true, if_false]
      refine G_aload0 8 d_Alg_item_7 rfl ?_
      refine G_getR 11 d_Alg_item_8 rfl f_Alg_54 rfl h.sh h.f6 ?_
      refine G_iload1 12 d_Alg_item_11 rfl ?_
      refine G_aaload 13 d_Alg_item_12 rfl h.s6 (by decide) (by decide) (ix_nI (by omega) (by omega)) (by assumption) ?_
      refine G_invV0b 16 d_Alg_item_13 rfl e_Alg_217 M_Sheet_isMissing rfl (by assumption) (Nat.le_of_ble_eq_true rfl) (Nat.le_of_ble_eq_true rfl) rfl (s_isMissing (by assumption)) (fun h13 => G_ifne1 19 d_Alg_item_16 36 rfl rfl ?_) (fun h13 => G_ifne0 19 d_Alg_item_16 36 rfl rfl ?_)
      · refine G_ldc2 39 d_Alg_item_36 rfl k_Alg_194 ?_
        refine G_lret d_Alg_item_39 rfl ?_
        exact ⟨rfl, h, hI, cF.rf⟩
      · refine G_iload2 20 d_Alg_item_19 rfl ?_
        first | refine G_ifltD 36 23 d_Alg_item_20 rfl rfl (by omega) (fun h20 => ?_) (fun j h20 => ?_) | refine G_iflt 36 23 d_Alg_item_20 rfl rfl (fun h20 => ?_) (fun h20 => ?_)
        · refine G_ldc2 39 d_Alg_item_36 rfl k_Alg_194 ?_
          refine G_lret d_Alg_item_39 rfl ?_
          exact ⟨rfl, h, hI, cF.rf⟩
        · obtain ⟨l, hl31, rfl⟩ := nI_of h20
          refine G_iload2 24 d_Alg_item_23 rfl ?_
          refine G_aload0 25 d_Alg_item_24 rfl ?_
          refine G_getR 28 d_Alg_item_25 rfl f_Alg_54 rfl h.sh h.f6 ?_
          refine G_iload1 29 d_Alg_item_28 rfl ?_
          refine G_aaload 30 d_Alg_item_29 rfl h.s6 (by decide) (by decide) (ix_nI (by omega) (by omega)) (by assumption) ?_
          refine G_getIv 33 d_Alg_item_30 rfl f_Alg_225 rfl (by assumption) sik ?_
          first | refine G_icltN 40 36 d_Alg_item_33 rfl rfl (by omega) (by omega) (fun h33 => ?_) (fun h33 => ?_) | refine G_iclt 40 36 d_Alg_item_33 rfl rfl (fun h33 => ?_) (fun h33 => ?_)
          · exact absurd ⟨l, by omega, rfl⟩ hin
          · refine G_ldc2 39 d_Alg_item_36 rfl k_Alg_194 ?_
            refine G_lret d_Alg_item_39 rfl ?_
            exact ⟨rfl, h, hI, cF.rf⟩
  · have q1 := bN_f h1 (show 4 < 2 ^ 31 by omega)
    simp only [fItem, q1, Bool.false_and, Bool.and_false, Bool.false_eq_true, if_false]
    refine G_ldc2 39 d_Alg_item_36 rfl k_Alg_194 ?_
    refine G_lret d_Alg_item_39 rfl ?_
    exact ⟨rfl, h, hI, cF.rf⟩
theorem c_loosen {V : GV} {d lo C E : Nat} {S : ST} {X : XT} {FI AI : FT} {AL : LT} (h : CO X lo) (hI : CIv C E S X FI AI AL lo) (hW : WS S) : G V m_Alg_loosen (d + 1) 0 [some (.ref lo), none] [] X FI AI AL (fun r X' FI' AI' AL' => r = some (.int (fLoosen S).1) ∧ CO X' lo ∧ CIv C E (fLoosen S).2 X' FI' AI' AL' lo ∧ cF X X' FI FI' AI AI' AL AL' lo) := by
  have hL := hI.2.2.2.2.2.2.2.2.1
  have f16 := hL.1
  refine G_aload0 1 d_Alg_loosen_0 rfl ?_
  refine G_getIv 4 d_Alg_loosen_1 rfl f_Alg_96 rfl h.sh f16 ?_
  refine G_istore1 5 d_Alg_loosen_4 rfl (by decide) rfl ?_
  refine G_aload0 6 d_Alg_loosen_5 rfl ?_
  refine G_iconstN 0 7 d_Alg_loosen_6 rfl rfl ?_
  refine G_putI 10 d_Alg_loosen_7 rfl f_Alg_96 rfl (by intro C T N h; cases h; rfl) h.sh rfl rfl ?_
  refine G_iload1 11 d_Alg_loosen_10 rfl ?_
  refine G_iret d_Alg_loosen_11 rfl ?_
  obtain ⟨r1, r2⟩ := hI.lk (L := (0, (tL S).2)) (FI' := u2 FI lo 16 (nI 0)) (AL' := AL) (fun c j h1 _ => by
    by_cases e : c = lo
    · subst e; exact u2_ix _ _ (fun e => h1 ⟨rfl, e⟩)
    · rw [u2_off _ _ _ e]) (fun _ _ => rfl) ⟨u2_at _ _ _ _, fun l hl => absurd hl (Nat.not_lt_zero _)⟩
  exact ⟨rfl, h, r1, r2⟩
theorem c_step {V : GV} {d lo C E : Nat} {S : ST} {i w : Int32} {X : XT} {FI AI : FT} {AL : LT} (h : CO X lo) (hI : CIv C E S X FI AI AL lo) (hW : WS S) : G V m_Alg_step (d + 2) 0 [some (.ref lo), some (.int i), some (.int w)] [] X FI AI AL (fun r X' FI' AI' AL' => r = some (.long (fStep S i w).1) ∧ CO X' lo ∧ CIv C E (fStep S i w).2 X' FI' AI' AL' lo ∧ cF X X' FI FI' AI AI' AL AL' lo) := by
  obtain ⟨u, v, huv, r10, r11, f13, hst⟩ := hI.2.2.2.2.2.2.2.2.2.1
  have hsp := h.st (w := u) (by omega)
  obtain ⟨s1, s2, s3, s4, s5⟩ := hsp
  have no : fStep S i w = (NOl, S) → G V m_Alg_step (d + 2) 29 [some (.ref lo), some (.int i), some (.int w)] [] X FI AI AL (fun r X' FI' AI' AL' => r = some (.long (fStep S i w).1) ∧ CO X' lo ∧ CIv C E (fStep S i w).2 X' FI' AI' AL' lo ∧ cF X X' FI FI' AI AI' AL AL' lo) := by
    intro e
    rw [e]
    refine G_ldc2 32 d_Alg_step_29 rfl k_Alg_194 ?_
    refine G_lret d_Alg_step_32 rfl ?_
    exact ⟨rfl, h, hI, cF.rf⟩
  refine G_iload2 1 d_Alg_step_0 rfl ?_
  refine G_invS1b 4 d_Alg_step_1 rfl e_Alg_269 M_Alg_isStepPart (Nat.le_of_ble_eq_true rfl) (Nat.le_of_ble_eq_true rfl) rfl (s_isStepPart) (fun h1 => G_ifeq1 7 d_Alg_step_4 29 rfl rfl ?_) (fun h1 => G_ifeq0 7 d_Alg_step_4 29 rfl rfl ?_)
  · have q1 := bB_iff.mpr h1
    cases hw : (tW S).1 with
    | false =>
      rw [hw] at f13
      have f13' : FI lo 13 = 0 := f13
      have eF : fStep S i w = (NOl, S) := by unfold fStep; rw [hw, Bool.and_false, Bool.false_and]; rfl
      refine G_aload0 8 d_Alg_step_7 rfl ?_
      refine G_getIv 11 d_Alg_step_8 rfl f_Alg_86 rfl h.sh f13' ?_
      refine G_ifeq 29 14 d_Alg_step_11 rfl rfl (fun h11 => ?_) (fun h11 => ?_)
      · exact no eF
      · exact absurd rfl h11
    | true =>
      rw [hw] at f13
      have f13' : FI lo 13 = 1 := f13
      obtain ⟨t1, t2⟩ := hst hw
      obtain ⟨l84, hrow⟩ := hW.2.2.2.1 hw
      by_cases hin : isN i (tW S).2.length
      · obtain ⟨l, hl, rfl⟩ := hin
        have ql := bN_t hl (show (tW S).2.length < 2 ^ 31 by omega)
        have zl := ni_nI (show l < 2 ^ 31 by omega)
        have hg : (tW S).2[l]? = some (tW S).2[l] := List.getElem?_eq_getElem hl
        have gd : (tW S).2.getD l (0, 0) = (tW S).2[l] := by rw [List.getD_eq_getElem?_getD, hg]; rfl
        obtain ⟨e1, e2⟩ := t2 l _ hg
        have hr := hrow _ (List.getElem_mem hl)
        have eF : fStep S (nI l) w = (if w.toInt < 0 then ((tW S).2[l]).1 else (nI (pw ((tW S).2[l]).2 (ni w))).toInt64, S) := by
          unfold fStep; rw [q1, hw, ql, zl, gd]; rfl
        rw [eF]
        refine G_aload0 8 d_Alg_step_7 rfl ?_
        refine G_getIv 11 d_Alg_step_8 rfl f_Alg_86 rfl h.sh f13' ?_
        refine G_ifeq 29 14 d_Alg_step_11 rfl rfl (fun h11 => ?_) (fun h11 => ?_)
        · exact absurd h11 (by decide)
        · refine G_iload1 15 d_Alg_step_14 rfl ?_
          first | refine G_ifltD 29 18 d_Alg_step_15 rfl rfl (by omega) (fun h15 => ?_) (fun j h15 => ?_) | refine G_iflt 29 18 d_Alg_step_15 rfl rfl (fun h15 => ?_) (fun h15 => ?_)
          · exact absurd h15 (nI_pos (by omega))
          · refine G_iload1 19 d_Alg_step_18 rfl ?_
            refine G_aload0 20 d_Alg_step_19 rfl ?_
            refine G_getR 23 d_Alg_step_20 rfl f_Alg_75 rfl h.sh r10 ?_
            refine G_getIv 26 d_Alg_step_23 rfl f_Alg_294 rfl s1 t1 ?_
            first | refine G_icltN 33 29 d_Alg_step_26 rfl rfl (by omega) (by omega) (fun h26 => ?_) (fun h26 => ?_) | refine G_iclt 33 29 d_Alg_step_26 rfl rfl (fun h26 => ?_) (fun h26 => ?_)
            · refine G_iload2 34 d_Alg_step_33 rfl ?_
              refine G_ifge 49 37 d_Alg_step_34 rfl rfl (fun h34 => ?_) (fun h34 => ?_)
              · rw [Int32.le_iff_toInt_le, show (0 : Int32).toInt = 0 from rfl] at h34
                rw [if_neg (by omega)]
                obtain ⟨x, hx31, rfl⟩ := nI_of (show ¬ w < 0 by rw [lt0_iff]; omega)
                have hx7 : x < 7 := by
                  have := h1.2
                  rw [nI_toInt hx31] at this; omega
                rw [ni_nI hx31]
                have hr31 : ((tW S).2[l]).2 < 2 ^ 31 := by omega
                refine G_aload0 50 d_Alg_step_49 rfl ?_
                refine G_getR 53 d_Alg_step_50 rfl f_Alg_75 rfl h.sh r10 ?_
                refine G_getR 56 d_Alg_step_53 rfl f_Alg_379 rfl s1 (by assumption) ?_
                refine G_iload1 57 d_Alg_step_56 rfl ?_
                refine G_ialoadv 58 d_Alg_step_57 rfl (by assumption) (ix_nI (by omega) (by omega)) e2 ?_
                refine G_iload2 59 d_Alg_step_58 rfl ?_
                refine G_invS2d 62 d_Alg_step_59 rfl e_Alg_281 M_Gen_power (Nat.le_of_ble_eq_true rfl) (Nat.le_of_ble_eq_true rfl) rfl (s_power (by omega) (by omega)) ?_
                refine G_i2l 63 d_Alg_step_62 rfl ?_
                refine G_lret d_Alg_step_63 rfl ?_
                exact ⟨rfl, h, hI, cF.rf⟩
              · rw [Int32.le_iff_toInt_le, show (0 : Int32).toInt = 0 from rfl] at h34
                rw [if_pos (by omega)]
                refine G_aload0 38 d_Alg_step_37 rfl ?_
                refine G_getR 41 d_Alg_step_38 rfl f_Alg_75 rfl h.sh r10 ?_
                refine G_getR 44 d_Alg_step_41 rfl f_Alg_376 rfl s1 (by assumption) ?_
                refine G_iload1 45 d_Alg_step_44 rfl ?_
                refine G_laloadv 46 d_Alg_step_45 rfl (by assumption) (ix_nI (by omega) (by omega)) e1 ?_
                refine G_goto 63 d_Alg_step_46 rfl ?_
                refine G_lret d_Alg_step_63 rfl ?_
                exact ⟨rfl, h, hI, cF.rf⟩
            · omega
      · have q2 := bN_f hin (show (tW S).2.length < 2 ^ 31 by omega)
        have eF : fStep S i w = (NOl, S) := by unfold fStep; rw [q2, Bool.and_false]; rfl
        refine G_aload0 8 d_Alg_step_7 rfl ?_
        refine G_getIv 11 d_Alg_step_8 rfl f_Alg_86 rfl h.sh f13' ?_
        refine G_ifeq 29 14 d_Alg_step_11 rfl rfl (fun h11 => ?_) (fun h11 => ?_)
        · exact absurd h11 (by decide)
        · refine G_iload1 15 d_Alg_step_14 rfl ?_
          first | refine G_ifltD 29 18 d_Alg_step_15 rfl rfl (by omega) (fun h15 => ?_) (fun j h15 => ?_) | refine G_iflt 29 18 d_Alg_step_15 rfl rfl (fun h15 => ?_) (fun h15 => ?_)
          · exact no eF
          · obtain ⟨l, hl31, rfl⟩ := nI_of h15
            refine G_iload1 19 d_Alg_step_18 rfl ?_
            refine G_aload0 20 d_Alg_step_19 rfl ?_
            refine G_getR 23 d_Alg_step_20 rfl f_Alg_75 rfl h.sh r10 ?_
            refine G_getIv 26 d_Alg_step_23 rfl f_Alg_294 rfl s1 t1 ?_
            first | refine G_icltN 33 29 d_Alg_step_26 rfl rfl (by omega) (by omega) (fun h26 => ?_) (fun h26 => ?_) | refine G_iclt 33 29 d_Alg_step_26 rfl rfl (fun h26 => ?_) (fun h26 => ?_)
            · exact absurd ⟨l, by omega, rfl⟩ hin
            · exact no eF
  · have q1 := bB_f h1
    exact no (by unfold fStep; rw [q1, Bool.false_and, Bool.false_and]; rfl)
