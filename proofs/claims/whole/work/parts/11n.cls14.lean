/-! ===== the class: GENERATORS change ===== -/
theorem hgA_c {G G' : GT} : ∀ k, (∀ i, i < k → gK G' i = gK G i ∧ gR G' i = gR G i) → hgA G' k = hgA G k
  | 0, _ => rfl
  | k + 1, h => by
    rw [hgA, hgA, hgA_c k (fun i hi => h i (by omega)), (h k (by omega)).1, (h k (by omega)).2]
theorem hgL_c {G G' : GT} {i n : Nat} (hi : i < n) (h : ∀ i, i < n → gK G' i = gK G i ∧ gR G' i = gR G i) : hgL G' (i + 1) = hgL G (i + 1) := by
  show hgA G' (i + 1) i = hgA G (i + 1) i
  rw [hgA_c (i + 1) (fun j hj => h j (by omega))]
theorem hgL_0 {G : GT} {i : Nat} (h : gK G i = 0) : hgL G (i + 1) = 0 := by
  show hgA G (i + 1) i = 0
  rw [hgA, upn_at, h]
  unfold hfH
  rw [if_neg (by omega)]
  rfl
theorem s_genChanged {V : GV} {d lo : Nat} {Gt Gt' : GT} {X : XT} {FI AI : FT} {AL : LT} (h : CO X lo) (hG : CGs Gt' FI AI AL (lo + 4)) (hP : CPr Gt X AI AL lo) (hl : ∀ i, i < gN Gt' → gL Gt' i < 84 ∧ 1 ≤ eD (gL Gt' i)) (hi : ∀ i j, i < gN Gt' → j < gN Gt' → gL Gt' i = gL Gt' j → i = j) : G V m_Alg_generatorsChanged (d + 4) 0 [some (.ref lo)] [] X FI AI AL (fun r X' FI' AI' AL' => r = none ∧ X' = X ∧ FI' = u2 (u2 FI lo 14 (nI 0)) lo 15 (nI 0) ∧ AL' = AL ∧ (∀ c, c < lo + 28 ∨ lo + 35 ≤ c → AI' c = AI c) ∧ CTb Gt' AI' lo ∧ CPr Gt' X AI' AL lo) := by
  have hb := s_build (V := V) (d := d) (AL := AL) h.to h.go (⟨hG.1, hG.2.1, fun i hi => ⟨(hG.2.2 i hi).1, hl i hi⟩⟩ : GLd FI AI (lo + 4) (cga lo) (gN Gt') (gL Gt')) (fun i hi => show lo + 4 + 2 ≠ lo + 28 + i by omega) hi
  refine G_aload0 1 d_Alg_generatorsChanged_0 rfl ?_
  refine G_getR 4 d_Alg_generatorsChanged_1 rfl f_Alg_34 rfl h.sh h.f3 ?_
  refine G_aload0 5 d_Alg_generatorsChanged_4 rfl ?_
  refine G_getR 8 d_Alg_generatorsChanged_5 rfl f_Alg_27 rfl h.sh h.f2 ?_
  refine G_invV1 11 d_Alg_generatorsChanged_8 rfl e_Alg_105 M_Tab_build rfl h.s3 (Nat.le_of_ble_eq_true rfl) (Nat.le_of_ble_eq_true rfl) rfl (G.conseq (hb) (fun r8 X8 FI8 AI8 AL8 h8 => ?_))
  obtain ⟨a1, a2, a3, a4, a5, a6, a7⟩ := h8
  replace a2 := a2.symm
  replace a3 := a3.symm
  replace a4 := a4.symm
  subst a1 a2 a3 a4
  have fr : ∀ c, c < lo + 28 ∨ lo + 35 ≤ c → AI8 c = AI c := fun c hc => a5 c (fun i hi => show c ≠ lo + 28 + i by omega)
  refine G_aload0 12 d_Alg_generatorsChanged_11 rfl ?_
  refine G_iconstN 0 13 d_Alg_generatorsChanged_12 rfl rfl ?_
  refine G_putI 16 d_Alg_generatorsChanged_13 rfl f_Alg_90 rfl (by intro C T N h; cases h; rfl) h.sh rfl rfl ?_
  refine G_aload0 17 d_Alg_generatorsChanged_16 rfl ?_
  refine G_iconstN 0 18 d_Alg_generatorsChanged_17 rfl rfl ?_
  refine G_putI 21 d_Alg_generatorsChanged_18 rfl f_Alg_93 rfl (by intro C T N h; cases h; rfl) h.sh rfl rfl ?_
  refine G_vret d_Alg_generatorsChanged_21 rfl ?_
  refine ⟨rfl, rfl, rfl, rfl, fr, a6, ⟨fun p hp => ?_, hP.2⟩⟩
  have e0 : AI8 (lo + 34) p = 0 := a7 p hp
  obtain ⟨-, -, b3⟩ := hP.1 p hp
  refine ⟨Or.inl e0, fun _ => e0, fun a ha => ?_⟩
  obtain ⟨c1, c2, c3, -⟩ := b3 a ha
  exact ⟨c1, c2, c3, fun e => by rw [e0] at e; exact absurd e (by decide)⟩
/-- other GENERATORS; W: the witness goes, or stays -/
theorem CIv.gn {C E lo : Nat} {S : ST} {Gt' : GT} {b : Bool} {X : XT} {FI FI' AI AI' : FT} {AL AL' : LT} (hI : CIv C E S X FI AI AL lo) (hW : WS S) (k1 : ∀ c, c ≠ lo → c ≠ lo + 4 → FI' c = FI c) (k2 : ∀ j, j ≠ 13 → j ≠ 14 → j ≠ 15 → FI' lo j = FI lo j) (k3 : FI' lo 13 = if b = true then FI lo 13 else 0) (k14 : FI' lo 14 = 0) (k15 : FI' lo 15 = 0) (k4 : ∀ c, c < lo + 4 ∨ lo + 35 ≤ c → AI' c = AI c) (k5 : ∀ c, c < lo + 4 ∨ lo + 27 ≤ c → AL' c = AL c) (hG : CGs Gt' FI' AI' AL' (lo + 4)) (hT : CTb Gt' AI' lo) (hP : CPr Gt' X AI' AL' lo) : CIv C E (stW (stG S Gt') (if b = true then tW S else (false, (tW S).2))) X FI' AI' AL' lo ∧ cF X X FI FI' AI AI' AL AL' lo := by
  obtain ⟨a1, a2, a3, a4, a5, a6, a7, a8, a9, a10, a11, a12⟩ := hI
  have fi := fun c (h1 : c ≠ lo) (h2 : c ≠ lo + 4) => k1 c h1 h2
  refine ⟨⟨fun s hs => by rw [k5 _ (by omega)]; exact a1 s hs, a2.tr (fi _ (by omega) (by omega)) (k4 _ (by omega)), hG, hT, hP, ⟨Or.inl k14, fun e => by rw [k14] at e; exact absurd e (by decide)⟩, ⟨Or.inl k15, fun e => by rw [k15] at e; exact absurd e (by decide)⟩, a8.tr (fun c _ _ => fi c (by omega) (by omega)) (fun c _ _ => k4 c (by omega)), a9.tr hW.2.2.2.2.2.1.1 (k2 16 (by omega) (by omega) (by omega)) (fun c _ _ => fi c (by omega) (by omega)) (fun c _ _ => k5 c (by omega)), ?_, a11.tr (fun c _ => fi c (by omega) (by omega)) (fun c _ => k4 c (by omega)) (fun c _ => k5 c (by omega)), a12⟩, cF.cl (fun c hc => fi c (by omega) (by omega)) (fun c hc => k4 c (by omega)) (fun c hc => k5 c (by omega))⟩
  show CWt (if b = true then tW S else (false, (tW S).2)) X FI' AI' AL' lo
  cases b with
  | true =>
    rw [if_pos rfl]
    rw [if_pos rfl] at k3
    exact a10.tr k3 (fun c _ _ => fi c (by omega) (by omega)) (fun c _ _ => k4 c (by omega)) (fun c _ _ => k5 c (by omega))
  | false =>
    obtain ⟨w, v, h1, h2, h3, h4, h5⟩ := a10
    rw [if_neg (by decide)] at k3
    exact ⟨w, v, h1, h2, h3, k3, fun e => by cases e⟩
theorem c_drop {V : GV} {d lo C E : Nat} {S : ST} {X : XT} {FI AI : FT} {AL : LT} (h : CO X lo) (hI : CIv C E S X FI AI AL lo) (hW : WS S) : G V m_Alg_drop (d + 5) 0 [some (.ref lo)] [] X FI AI AL (fun r X' FI' AI' AL' => r = some (.int (fDrop S).1) ∧ CO X' lo ∧ CIv C E (fDrop S).2 X' FI' AI' AL' lo ∧ cF X X' FI FI' AI AI' AL AL' lo) := by
  have hgs := hI.2.2.1
  have g0 := hgs.1
  have hn7 := hgs.2.1
  by_cases hz : gN (tG S) = 0
  · have eF : fDrop S = (-3, S) := if_pos hz
    rw [eF]
    rw [hz] at g0
    refine G_aload0 1 d_Alg_drop_0 rfl ?_
    refine G_getR 4 d_Alg_drop_1 rfl f_Alg_27 rfl h.sh h.f2 ?_
    refine G_getIv 7 d_Alg_drop_4 rfl f_Alg_109 rfl h.s2 g0 ?_
    refine G_ifne 13 10 d_Alg_drop_7 rfl rfl (fun h7 => ?_) (fun h7 => ?_)
    · exact absurd rfl h7
    · refine G_bipush (-3) 12 d_Alg_drop_10 rfl rfl ?_
      refine G_iret d_Alg_drop_12 rfl ?_
      exact ⟨rfl, h, hI, cF.rf⟩
  · have eF : fDrop S = (nI (gN (tG S) - 1), stW (stG S (gN (tG S) - 1, (tG S).2)) (false, (tW S).2)) := if_neg hz
    rw [eF]
    have hG1 : CGs (gN (tG S) - 1, (tG S).2) (u2 (u2 FI (lo + 4) 0 (nI (gN (tG S) - 1))) lo 13 (nI 0)) AI AL (lo + 4) := by
      refine ⟨by rw [u2_ne _ _ _ _ (by omega), u2_at], by show gN (tG S) - 1 ≤ 7; omega, fun i hi => ?_⟩
      have hi' : i < gN (tG S) - 1 := hi
      obtain ⟨c1, c2, c3, c4, c5, c6⟩ := hgs.2.2 i (by omega)
      exact ⟨c1, c2, c3, by rw [c4]; exact congrArg nI (hgL_c (G := (gN (tG S) - 1, (tG S).2)) (G' := tG S) hi' (fun _ _ => ⟨rfl, rfl⟩)), c5, c6⟩
    have hgc := s_genChanged (V := V) (d := d) h hG1 hI.2.2.2.2.1 (fun i hi => by have hi' : i < gN (tG S) - 1 := hi; exact ⟨(hW.2.1.2.1 i (by omega)).1, (hW.2.1.2.1 i (by omega)).2.1⟩) (fun i j hi hj e => by
      have hi' : i < gN (tG S) - 1 := hi
      have hj' : j < gN (tG S) - 1 := hj
      exact hW.2.1.2.2 i j (by omega) (by omega) e)
    refine G_aload0 1 d_Alg_drop_0 rfl ?_
    refine G_getR 4 d_Alg_drop_1 rfl f_Alg_27 rfl h.sh h.f2 ?_
    refine G_getIv 7 d_Alg_drop_4 rfl f_Alg_109 rfl h.s2 g0 ?_
    refine G_ifne 13 10 d_Alg_drop_7 rfl rfl (fun h7 => ?_) (fun h7 => ?_)
    · refine G_aload0 14 d_Alg_drop_13 rfl ?_
      refine G_getR 17 d_Alg_drop_14 rfl f_Alg_27 rfl h.sh h.f2 ?_
      refine G_dup 18 d_Alg_drop_17 rfl rfl ?_
      refine G_getIv 21 d_Alg_drop_18 rfl f_Alg_109 rfl h.s2 g0 ?_
      refine G_iconstN 1 22 d_Alg_drop_21 rfl rfl ?_
      first | refine G_isubN 23 d_Alg_drop_22 rfl (by omega) ?_ | refine G_isub 23 d_Alg_drop_22 rfl ?_
      refine G_putI 26 d_Alg_drop_23 rfl f_Alg_109 rfl (by intro C T N h; cases h; rfl) h.s2 rfl rfl ?_
      refine G_aload0 27 d_Alg_drop_26 rfl ?_
      refine G_iconstN 0 28 d_Alg_drop_27 rfl rfl ?_
      refine G_putI 31 d_Alg_drop_28 rfl f_Alg_86 rfl (by intro C T N h; cases h; rfl) h.sh rfl rfl ?_
      refine G_aload0 32 d_Alg_drop_31 rfl ?_
      refine G_invV0 35 d_Alg_drop_32 rfl e_Alg_245 M_Alg_generatorsChanged rfl h.sh (Nat.le_of_ble_eq_true rfl) (Nat.le_of_ble_eq_true rfl) rfl (G.conseq (hgc) (fun r32 X32 FI32 AI32 AL32 h32 => ?_))
      obtain ⟨a1, a2, a3, a4, a5, a6, a7⟩ := h32
      replace a2 := a2.symm
      replace a4 := a4.symm
      subst a1 a2 a3 a4
      have gz : u2 (u2 (u2 (u2 FI (lo + 4) 0 (nI (gN (tG S) - 1))) lo 13 (nI 0)) lo 14 (nI 0)) lo 15 (nI 0) (lo + 4) 0 = nI (gN (tG S) - 1) := by
        rw [u2_ne _ _ _ _ (by omega), u2_ne _ _ _ _ (by omega), u2_ne _ _ _ _ (by omega), u2_at]
      obtain ⟨r1, r2⟩ := hI.gn (b := false) (Gt' := (gN (tG S) - 1, (tG S).2)) (FI' := u2 (u2 (u2 (u2 FI (lo + 4) 0 (nI (gN (tG S) - 1))) lo 13 (nI 0)) lo 14 (nI 0)) lo 15 (nI 0)) (AI' := AI32) (AL' := AL) hW (fun c h1 h2 => by rw [u2_off _ _ _ h1, u2_off _ _ _ h1, u2_off _ _ _ h1, u2_off _ _ _ h2]) (fun j h1 h2 h3 => by rw [u2_ix _ _ h3, u2_ix _ _ h2, u2_ix _ _ h1, u2_ne _ _ _ _ (by omega)]) (by rw [u2_ix _ _ (by omega), u2_ix _ _ (by omega), u2_at]; rfl) (by rw [u2_ix _ _ (by omega), u2_at]; rfl) (by rw [u2_at]; rfl) (fun c hc => a5 c (by omega)) (fun _ _ => rfl) (hG1.tr (by rw [u2_off _ _ _ (show lo + 4 ≠ lo by omega), u2_off _ _ _ (show lo + 4 ≠ lo by omega)]) (fun c _ _ => a5 c (by omega)) (fun _ _ _ => rfl)) a6 a7
      refine G_aload0 36 d_Alg_drop_35 rfl ?_
      refine G_getR 39 d_Alg_drop_36 rfl f_Alg_27 rfl h.sh h.f2 ?_
      refine G_getIv 42 d_Alg_drop_39 rfl f_Alg_109 rfl h.s2 gz ?_
      refine G_iret d_Alg_drop_42 rfl ?_
      exact ⟨rfl, h, r1, r2⟩
    · exact absurd h7 (nI_ne0 (by omega) (by omega))
theorem c_generator {V : GV} {d lo C E : Nat} {S : ST} {s : Int32} {X : XT} {FI AI : FT} {AL : LT} (h : CO X lo) (hI : CIv C E S X FI AI AL lo) (hW : WS S) : G V m_Alg_generator (d + 5) 0 [some (.ref lo), some (.int s), none] [] X FI AI AL (fun r X' FI' AI' AL' => r = some (.int (fGenerator S s).1) ∧ CO X' lo ∧ CIv C E (fGenerator S s).2 X' FI' AI' AL' lo ∧ cF X X' FI FI' AI AI' AL AL' lo) := by
  have hgs := hI.2.2.1
  have g0 := hgs.1
  have hn7 := hgs.2.1
  have ho := hW.1
  have rkk := h.rk
  have hod := hI.2.1
  refine G_iload1 1 d_Alg_generator_0 rfl ?_
  refine G_invS1b 4 d_Alg_generator_1 rfl e_Alg_119 M_Alg_isSlot (Nat.le_of_ble_eq_true rfl) (Nat.le_of_ble_eq_true rfl) rfl (s_isSlot) (fun h1 => G_ifne1 7 d_Alg_generator_4 9 rfl rfl ?_) (fun h1 => G_ifne0 7 d_Alg_generator_4 9 rfl rfl ?_)
  · obtain ⟨k, hk, rfl⟩ := h1
    have qk := bN_t hk (show 6 < 2 ^ 31 by omega)
    have zk := ni_nI (show k < 2 ^ 31 by omega)
    obtain ⟨ark, pok⟩ := h.sl hk
    have psk := pok.1
    have ek := hI.1 k hk
    have pk1 := pok.2.1
    have pk2 := pok.2.2
    simp only [fGenerator, qk, zk, if_true]
    have l84 : lead1 (tS S k) (tO S) ≤ 84 := pld_le _ ho 84 (Nat.le_refl _)
    have hle := s_leadOf (V := V) (d := d + 4) (FI := FI) (AL := AL) rkk pok ho hod.2
    rw [ek] at hle
    have any : ∀ t, (List.range (gN (tG S))).any (fun g => decide (gL (tG S) g = t)) = true ↔ ∃ i, i < gN (tG S) ∧ gL (tG S) i = t := fun t => by
      rw [List.any_eq_true]
      constructor
      · rintro ⟨i, hi, e⟩
        exact ⟨i, List.mem_range.mp hi, of_decide_eq_true e⟩
      · rintro ⟨i, hi, e⟩
        exact ⟨i, List.mem_range.mpr hi, decide_eq_true e⟩
    have st : ∀ v2 : Option Value, fGen1 S (tS S k) = (-3, S) → G V m_Alg_generator (d + 5) 54 [some (.ref lo), some (.int (nI k)), v2] [] X FI AI AL (fun r X' FI' AI' AL' => r = some (.int (fGen1 S (tS S k)).1) ∧ CO X' lo ∧ CIv C E (fGen1 S (tS S k)).2 X' FI' AI' AL' lo ∧ cF X X' FI FI' AI AI' AL AL' lo) := by
      intro v2 e
      rw [e]
      refine G_bipush (-3) 56 d_Alg_generator_54 rfl rfl ?_
      refine G_iret d_Alg_generator_56 rfl ?_
      exact ⟨rfl, h, hI, cF.rf⟩
    refine G_aload0 10 d_Alg_generator_9 rfl ?_
    refine G_getR 13 d_Alg_generator_10 rfl f_Alg_20 rfl h.sh h.f1 ?_
    refine G_aload0 14 d_Alg_generator_13 rfl ?_
    refine G_getR 17 d_Alg_generator_14 rfl f_Alg_13 rfl h.sh h.f0 ?_
    refine G_iload1 18 d_Alg_generator_17 rfl ?_
    refine G_aaload 19 d_Alg_generator_18 rfl h.s0 (by decide) (by decide) (ix_nI (by omega) (by omega)) (by assumption) ?_
    refine G_invV1d 22 d_Alg_generator_19 rfl e_Alg_196 M_Rank_leadOf rfl h.s1 (Nat.le_of_ble_eq_true rfl) (Nat.le_of_ble_eq_true rfl) rfl (hle) ?_
    have lcs : lead1 (tS S k) (tO S) = 0 ∨ lead1 (tS S k) (tO S) = 1 ∨ ∃ t, lead1 (tS S k) (tO S) = t + 2 := by
      rcases Nat.lt_or_ge (lead1 (tS S k) (tO S)) 2 with q | q
      · omega
      · exact Or.inr (Or.inr ⟨lead1 (tS S k) (tO S) - 2, by omega⟩)
    rcases lcs with q | q | ⟨t, q⟩
    · have e3 : fGen1 S (tS S k) = (-3, S) := by unfold fGen1; rw [if_pos (Or.inl (by omega))]
      rw [q]
      refine G_istore2 23 d_Alg_generator_22 rfl (by decide) rfl ?_
      refine G_iload2 24 d_Alg_generator_23 rfl ?_
      refine G_ifle 54 27 d_Alg_generator_24 rfl rfl (fun h24 => ?_) (fun h24 => ?_)
      · exact st _ e3
      · exact absurd (by decide) h24
    · have e3 : fGen1 S (tS S k) = (-3, S) := by unfold fGen1; rw [if_pos (Or.inl (by omega))]
      rw [q, dI_s]
      refine G_istore2 23 d_Alg_generator_22 rfl (by decide) rfl ?_
      refine G_iload2 24 d_Alg_generator_23 rfl ?_
      refine G_ifle 54 27 d_Alg_generator_24 rfl rfl (fun h24 => ?_) (fun h24 => ?_)
      · exact st _ e3
      · exact absurd (by decide) h24
    · have ht : t + 1 < 84 := by omega
      have e1 : lead1 (tS S k) (tO S) - 1 = t + 1 := by omega
      have ea : AL (lo + 67 + 2 * k) (t + 1) = tS S k (t + 1) := by rw [ek]
      have hhl := s_hasLead (V := V) (d := d + 4) (AL := AL) h.go g0 hn7 (fun i hi => ⟨(hgs.2.2 i hi).1, (hW.2.1.2.1 i hi).1⟩) ht
      rw [q, dI_s]
      refine G_istore2 23 d_Alg_generator_22 rfl (by decide) rfl ?_
      refine G_iload2 24 d_Alg_generator_23 rfl ?_
      refine G_ifle 54 27 d_Alg_generator_24 rfl rfl (fun h24 => ?_) (fun h24 => ?_)
      · exact absurd h24 (nI_nle (by omega) (by omega))
      · refine G_aload0 28 d_Alg_generator_27 rfl ?_
        refine G_getR 31 d_Alg_generator_28 rfl f_Alg_13 rfl h.sh h.f0 ?_
        refine G_iload1 32 d_Alg_generator_31 rfl ?_
        refine G_aaload 33 d_Alg_generator_32 rfl h.s0 (by decide) (by decide) (ix_nI (by omega) (by omega)) (by assumption) ?_
        refine G_getR 36 d_Alg_generator_33 rfl f_Alg_148 rfl (by assumption) (by assumption) ?_
        refine G_iload2 37 d_Alg_generator_36 rfl ?_
        refine G_laloadv 38 d_Alg_generator_37 rfl (by assumption) (ix_nI (by omega) (by omega)) ea ?_
        refine G_lconst 1 39 d_Alg_generator_38 rfl rfl ?_
        refine G_lcne 54 43 d_Alg_generator_39 d_Alg_generator_40 rfl rfl (fun h39 => ?_) (fun h39 => ?_)
        · exact st _ (by unfold fGen1; rw [if_pos (Or.inr (Or.inl (by rw [e1]; exact h39)))])
        · refine G_aload0 44 d_Alg_generator_43 rfl ?_
          refine G_getR 47 d_Alg_generator_44 rfl f_Alg_27 rfl h.sh h.f2 ?_
          refine G_iload2 48 d_Alg_generator_47 rfl ?_
          refine G_invV1b 51 d_Alg_generator_48 rfl e_Alg_239 M_Gen_hasLead rfl h.s2 (Nat.le_of_ble_eq_true rfl) (Nat.le_of_ble_eq_true rfl) rfl (hhl) (fun h48 => G_ifeq1 54 d_Alg_generator_51 57 rfl rfl ?_) (fun h48 => G_ifeq0 54 d_Alg_generator_51 57 rfl rfl ?_)
          · exact st _ (by unfold fGen1; rw [if_pos (Or.inr (Or.inr (by rw [e1, any]; exact h48)))])
          · have hcond : ¬ (lead1 (tS S k) (tO S) ≤ 1 ∨ ¬ tS S k (lead1 (tS S k) (tO S) - 1) = 1 ∨ (List.range (gN (tG S))).any (fun g => decide (gL (tG S) g = lead1 (tS S k) (tO S) - 1)) = true) := by
              rw [e1, any]
              rintro (a | a | a)
              · omega
              · exact a h39
              · exact h48 a
            by_cases h7 : gN (tG S) = 7
            · have eF : fGen1 S (tS S k) = (-4, S) := by unfold fGen1; rw [if_neg hcond, if_pos h7]
              rw [eF]
              rw [h7] at g0
              refine G_aload0 58 d_Alg_generator_57 rfl ?_
              refine G_getR 61 d_Alg_generator_58 rfl f_Alg_27 rfl h.sh h.f2 ?_
              refine G_getIv 64 d_Alg_generator_61 rfl f_Alg_109 rfl h.s2 g0 ?_
              refine G_bipushN 7 66 d_Alg_generator_64 rfl rfl ?_
              first | refine G_icltN 72 69 d_Alg_generator_66 rfl rfl (by omega) (by omega) (fun h66 => ?_) (fun h66 => ?_) | refine G_iclt 72 69 d_Alg_generator_66 rfl rfl (fun h66 => ?_) (fun h66 => ?_)
              · exact absurd h66 (by omega)
              · refine G_bipush (-4) 71 d_Alg_generator_69 rfl rfl ?_
                refine G_iret d_Alg_generator_71 rfl ?_
                exact ⟨rfl, h, hI, cF.rf⟩
            · have hn6 : gN (tG S) < 7 := by omega
              have eF : fGen1 S (tS S k) = (nI (gN (tG S)), stG S (gN (tG S) + 1, upn (gL (tG S)) (gN (tG S)) (t + 1), upn (gP (tG S)) (gN (tG S)) (tS S k), upn (gK (tG S)) (gN (tG S)) 0, gC (tG S), gR (tG S))) := by
                unfold fGen1; rw [if_neg hcond, if_neg h7, e1]
              rw [eF]
              have hap := s_append (V := V) (d := d + 2) (AI := AI) (AL := AL) h.go pok (fun i hi => show lo + 14 + 2 * i ≠ lo + 67 + 2 * k by omega) g0 hn6 ht
              rw [ek] at hap
              have hG1 : CGs (gN (tG S) + 1, upn (gL (tG S)) (gN (tG S)) (t + 1), upn (gP (tG S)) (gN (tG S)) (tS S k), upn (gK (tG S)) (gN (tG S)) 0, gC (tG S), gR (tG S)) (u2 FI (lo + 4) 0 (nI (gN (tG S) + 1))) (u2 (u2 (u2 AI (cga lo 2) (gN (tG S)) (nI (t + 1))) (cga lo 4) (gN (tG S)) (nI 0)) (cga lo 5) (gN (tG S)) (nI 0)) (u2 (sr AL (cqo lo (gN (tG S))) (tS S k)) (cga lo 3) (gN (tG S)) (norm (tS S k))) (lo + 4) := by
                refine ⟨u2_at _ _ _ _, by show gN (tG S) + 1 ≤ 7; omega, fun i hi => ?_⟩
                have hi' : i < gN (tG S) + 1 := hi
                show u2 (u2 (u2 AI (lo + 4 + 2) _ _) (lo + 4 + 4) _ _) (lo + 4 + 5) _ _ (lo + 4 + 2) i = nI (upn (gL (tG S)) (gN (tG S)) (t + 1) i) ∧ u2 (sr AL (lo + 14 + 2 * gN (tG S)) (tS S k)) (lo + 4 + 3) _ _ (lo + 4 + 10 + 2 * i) = upn (gP (tG S)) (gN (tG S)) (tS S k) i ∧ u2 (sr AL (lo + 14 + 2 * gN (tG S)) (tS S k)) (lo + 4 + 3) _ _ (lo + 4 + 3) i = norm (upn (gP (tG S)) (gN (tG S)) (tS S k) i) ∧ u2 (u2 (u2 AI (lo + 4 + 2) _ _) (lo + 4 + 4) _ _) (lo + 4 + 5) _ _ (lo + 4 + 4) i = nI (hgL _ (i + 1)) ∧ u2 (u2 (u2 AI (lo + 4 + 2) _ _) (lo + 4 + 4) _ _) (lo + 4 + 5) _ _ (lo + 4 + 5) i = nI (upn (gK (tG S)) (gN (tG S)) 0 i) ∧ ∀ j, j < upn (gK (tG S)) (gN (tG S)) 0 i → u2 (sr AL (lo + 14 + 2 * gN (tG S)) (tS S k)) (lo + 4 + 3) _ _ (lo + 4 + 6) (i * 86 + j) = gC (tG S) i j ∧ u2 (u2 (u2 AI (lo + 4 + 2) _ _) (lo + 4 + 4) _ _) (lo + 4 + 5) _ _ (lo + 4 + 7) (i * 86 + j) = nI (gR (tG S) i j)
                by_cases e : i = gN (tG S)
                · subst e
                  rw [upn_at, upn_at, upn_at]
                  refine ⟨?_, ?_, ?_, ?_, u2_at _ _ _ _, fun j hj => by omega⟩
                  · rw [u2_ne _ _ _ _ (by omega), u2_ne _ _ _ _ (by omega), u2_at]
                  · rw [u2_off _ _ _ (by omega), show lo + 4 + 10 + 2 * gN (tG S) = lo + 14 + 2 * gN (tG S) by omega, sr_at]
                  · rw [u2_at]
                  · rw [u2_ne _ _ _ _ (by omega), u2_at, hgL_0 (upn_at _ _ _)]
                · obtain ⟨c1, c2, c3, c4, c5, c6⟩ := hgs.2.2 i (by omega)
                  rw [upn_ne _ _ e, upn_ne _ _ e, upn_ne _ _ e]
                  refine ⟨?_, ?_, ?_, ?_, ?_, fun j hj => ⟨?_, ?_⟩⟩
                  · rw [u2_ne _ _ _ _ (by omega), u2_ne _ _ _ _ (by omega), u2_ix _ _ e]; exact c1
                  · rw [u2_off _ _ _ (by omega), sr_ne _ _ (by omega)]; exact c2
                  · rw [u2_ix _ _ e, sr_ne _ _ (by omega)]; exact c3
                  · rw [u2_ne _ _ _ _ (by omega), u2_ix _ _ e, u2_ne _ _ _ _ (by omega), c4]
                    exact congrArg nI (hgL_c (n := gN (tG S)) (by omega) (fun j hj => ⟨(upn_ne _ _ (by omega)).symm, rfl⟩))
                  · rw [u2_ix _ _ e, u2_ne _ _ _ _ (by omega), u2_ne _ _ _ _ (by omega)]; exact c5
                  · rw [u2_ne _ _ _ _ (by omega), sr_ne _ _ (by omega)]; exact (c6 j hj).1
                  · rw [u2_ne _ _ _ _ (by omega), u2_ne _ _ _ _ (by omega), u2_ne _ _ _ _ (by omega)]; exact (c6 j hj).2
              have hWG : WS (fGen1 S (tS S k)).2 := by
                have := ws_generator (s := nI k) hW
                unfold fGenerator at this
                rw [qk, if_pos rfl, zk] at this; exact this
              rw [eF] at hWG
              have hP1 : CPr (tG S) X (u2 (u2 (u2 AI (cga lo 2) (gN (tG S)) (nI (t + 1))) (cga lo 4) (gN (tG S)) (nI 0)) (cga lo 5) (gN (tG S)) (nI 0)) (u2 (sr AL (cqo lo (gN (tG S))) (tS S k)) (cga lo 3) (gN (tG S)) (norm (tS S k))) lo := hI.2.2.2.2.1.tr (by
                show u2 (u2 (u2 AI (lo + 4 + 2) _ _) (lo + 4 + 4) _ _) (lo + 4 + 5) _ _ (lo + 34) = _
                rw [u2_off _ _ _ (by omega), u2_off _ _ _ (by omega), u2_off _ _ _ (by omega)]) (fun c hc => by
                show u2 (sr AL (lo + 14 + 2 * gN (tG S)) _) (lo + 4 + 3) _ _ c = _
                rw [u2_off _ _ _ (by omega), sr_ne _ _ (by omega)])
              have hgc := s_genChanged (V := V) (d := d) h hG1 hP1 (fun i hi => ⟨(hWG.2.1.2.1 i hi).1, (hWG.2.1.2.1 i hi).2.1⟩) hWG.2.1.2.2
              refine G_aload0 58 d_Alg_generator_57 rfl ?_
              refine G_getR 61 d_Alg_generator_58 rfl f_Alg_27 rfl h.sh h.f2 ?_
              refine G_getIv 64 d_Alg_generator_61 rfl f_Alg_109 rfl h.s2 g0 ?_
              refine G_bipushN 7 66 d_Alg_generator_64 rfl rfl ?_
              first | refine G_icltN 72 69 d_Alg_generator_66 rfl rfl (by omega) (by omega) (fun h66 => ?_) (fun h66 => ?_) | refine G_iclt 72 69 d_Alg_generator_66 rfl rfl (fun h66 => ?_) (fun h66 => ?_)
              · refine G_aload0 73 d_Alg_generator_72 rfl ?_
                refine G_getR 76 d_Alg_generator_73 rfl f_Alg_27 rfl h.sh h.f2 ?_
                refine G_aload0 77 d_Alg_generator_76 rfl ?_
                refine G_getR 80 d_Alg_generator_77 rfl f_Alg_13 rfl h.sh h.f0 ?_
                refine G_iload1 81 d_Alg_generator_80 rfl ?_
                refine G_aaload 82 d_Alg_generator_81 rfl h.s0 (by decide) (by decide) (ix_nI (by omega) (by omega)) (by assumption) ?_
                refine G_iload2 83 d_Alg_generator_82 rfl ?_
                refine G_invV2v 86 d_Alg_generator_83 rfl e_Alg_242 M_Gen_append rfl h.s2 (Nat.le_of_ble_eq_true rfl) (Nat.le_of_ble_eq_true rfl) rfl (hap) ?_
                refine G_aload0 87 d_Alg_generator_86 rfl ?_
                refine G_invV0 90 d_Alg_generator_87 rfl e_Alg_245 M_Alg_generatorsChanged rfl h.sh (Nat.le_of_ble_eq_true rfl) (Nat.le_of_ble_eq_true rfl) rfl (G.conseq (hgc) (fun r87 X87 FI87 AI87 AL87 h87 => ?_))
                obtain ⟨a1, a2, a3, a4, a5, a6, a7⟩ := h87
                replace a2 := a2.symm
                subst a1 a2 a3 a4
                have gz : u2 (u2 (u2 FI (lo + 4) 0 (nI (gN (tG S) + 1))) lo 14 (nI 0)) lo 15 (nI 0) (lo + 4) 0 = nI (gN (tG S) + 1) := by
                  rw [u2_ne _ _ _ _ (by omega), u2_ne _ _ _ _ (by omega), u2_at]
                obtain ⟨r1, r2⟩ := hI.gn (b := true) (Gt' := (gN (tG S) + 1, upn (gL (tG S)) (gN (tG S)) (t + 1), upn (gP (tG S)) (gN (tG S)) (tS S k), upn (gK (tG S)) (gN (tG S)) 0, gC (tG S), gR (tG S))) (FI' := u2 (u2 (u2 FI (lo + 4) 0 (nI (gN (tG S) + 1))) lo 14 (nI 0)) lo 15 (nI 0)) (AI' := AI87) (AL' := u2 (sr AL (cqo lo (gN (tG S))) (tS S k)) (cga lo 3) (gN (tG S)) (norm (tS S k))) hW (fun c h1 h2 => by rw [u2_off _ _ _ h1, u2_off _ _ _ h1, u2_off _ _ _ h2]) (fun j h1 h2 h3 => by rw [u2_ix _ _ h3, u2_ix _ _ h2, u2_ne _ _ _ _ (by omega)]) (by rw [u2_ix _ _ (by omega), u2_ix _ _ (by omega), u2_ne _ _ _ _ (by omega), if_pos rfl]) (by rw [u2_ix _ _ (by omega), u2_at]; rfl) (by rw [u2_at]; rfl) (fun c hc => by
                    rw [a5 c (by omega)]
                    show u2 (u2 (u2 AI (lo + 4 + 2) _ _) (lo + 4 + 4) _ _) (lo + 4 + 5) _ _ c = _
                    rw [u2_off _ _ _ (by omega), u2_off _ _ _ (by omega), u2_off _ _ _ (by omega)]) (fun c hc => by
                    show u2 (sr AL (lo + 14 + 2 * gN (tG S)) _) (lo + 4 + 3) _ _ c = _
                    rw [u2_off _ _ _ (by omega), sr_ne _ _ (by omega)]) (hG1.tr (by rw [u2_off _ _ _ (show lo + 4 ≠ lo by omega), u2_off _ _ _ (show lo + 4 ≠ lo by omega)]) (fun c _ _ => a5 c (by omega)) (fun _ _ _ => rfl)) a6 a7
                refine G_aload0 91 d_Alg_generator_90 rfl ?_
                refine G_getR 94 d_Alg_generator_91 rfl f_Alg_27 rfl h.sh h.f2 ?_
                refine G_getIv 97 d_Alg_generator_94 rfl f_Alg_109 rfl h.s2 gz ?_
                refine G_iconstN 1 98 d_Alg_generator_97 rfl rfl ?_
                first | refine G_isubN 99 d_Alg_generator_98 rfl (by omega) ?_ | refine G_isub 99 d_Alg_generator_98 rfl ?_
                refine G_iret d_Alg_generator_99 rfl ?_
                exact ⟨rfl, h, r1, r2⟩
              · omega
  · have q1 := bN_f h1 (show 6 < 2 ^ 31 by omega)
    simp only [fGenerator, q1, Bool.false_and, Bool.and_false, Bool.false_eq_true, if_false]
    refine G_iconst (-1) 8 d_Alg_generator_7 rfl rfl ?_
    refine G_iret d_Alg_generator_8 rfl ?_
    exact ⟨rfl, h, hI, cF.rf⟩
