/-! ===== the class: relations, relation, difference, open ===== -/
theorem PLs_pre {o : Nat} {Ls : List Nat} {i : Nat} {q : Nat × Nat} : ∀ k j, (PLs o Ls k)[i]? = some q → (PLs o Ls (k + j))[i]? = some q
  | k, 0, h => h
  | k, j + 1, h => by
    have := PLs_pre k j h
    rw [← Nat.add_assoc, PLs, List.getElem?_append_left (List.getElem?_eq_some_iff.mp this).1]; exact this
theorem rl_pre {S : ST} {d i : Nat} {q : Nat × Nat} (ho : tO S < 3) (hd : d ≤ 6) (h : (tRl S d)[i]? = some q) : (tRl S 6)[i]? = some q := by
  have e1 : tRl S d = PLs (tO S) (cLs (tG S)) (eS (d + 1)) := rlD_PL ho (by omega)
  have e2 : tRl S 6 = PLs (tO S) (cLs (tG S)) (eS (6 + 1)) := rlD_PL ho (by omega)
  have e3 : ∀ d, d ≤ 6 → eS (d + 1) ≤ eS (6 + 1) := by decide
  rw [e1] at h
  rw [e2, show eS (6 + 1) = eS (d + 1) + (eS (6 + 1) - eS (d + 1)) by have := e3 d hd; omega]
  exact PLs_pre _ _ h
theorem CIv.rn {C E lo : Nat} {S : ST} {X : XT} {FI FI' AI AI' : FT} {AL : LT} (hI : CIv C E S X FI AI AL lo) (hW : WS S) (k1 : ∀ c j, ¬ (c = lo ∧ j = 14) → FI' c j = FI c j) (k2 : ∀ c, c < lo + 36 ∨ lo + 40 < c → AI' c = AI c) (hR : CRl (tO S) (tG S) FI' AI' lo) : CIv C E S X FI' AI' AL lo ∧ cF X X FI FI' AI AI' AL AL lo := by
  obtain ⟨a1, a2, a3, a4, a5, a6, a7, a8, a9, a10, a11, a12⟩ := hI
  have fi : ∀ c, c ≠ lo → FI' c = FI c := fun c hc => funext fun j => k1 c j (by omega)
  exact ⟨⟨a1, a2.tr (fi _ (by omega)) (k2 _ (by omega)), a3.tr (fi _ (by omega)) (fun c _ _ => k2 c (by omega)) (fun _ _ _ => rfl), a4.tr (k2 _ (by omega)) (k2 _ (by omega)), a5.tr (k2 _ (by omega)) (fun _ _ => rfl), hR, a7.tr (k1 _ _ (by omega)) (fun _ _ _ => rfl), a8.tr (fun c _ _ => fi c (by omega)) (fun c _ _ => k2 c (by omega)), a9.tr hW.2.2.2.2.2.1.1 (k1 _ _ (by omega)) (fun c _ _ => fi c (by omega)) (fun _ _ _ => rfl), a10.tr (k1 _ _ (by omega)) (fun c _ _ => fi c (by omega)) (fun c _ _ => k2 c (by omega)) (fun _ _ _ => rfl), a11.tr (fun c _ => fi c (by omega)) (fun c _ => k2 c (by omega)) (fun _ _ => rfl), a12⟩, cF.cl (fun c hc => fi c (by omega)) (fun c hc => k2 c (by omega)) (fun _ _ => rfl)⟩
def RLs (S : ST) (AI : FT) (lo : Nat) : Prop := RLt AI lo (tRl S 6) ∧ ∀ d, 1 ≤ d → d ≤ 6 → AI (lo + 38) d = nI (tRl S d).length
theorem s_relNow2 {V : GV} {d lo C E : Nat} {S : ST} {X : XT} {FI AI : FT} {AL : LT} (h : CO X lo) (hI : CIv C E S X FI AI AL lo) (hW : WS S) : G V m_Alg_relationsNow (d + 5) 0 [some (.ref lo)] [] X FI AI AL (fun r X' FI' AI' AL' => r = some (.ref (lo + 35)) ∧ X' = X ∧ AL' = AL ∧ CIv C E S X FI' AI' AL lo ∧ cF X X FI FI' AI AI' AL AL lo ∧ RLs S AI' lo ∧ ∀ j, j ≠ 14 → FI' lo j = FI lo j) := by
  have hgl : ∀ i, i < gN (tG S) → gL (tG S) i < 84 ∧ 1 ≤ eD (gL (tG S) i) := fun i hi => ⟨(hW.2.1.2.1 i hi).1, (hW.2.1.2.1 i hi).2.1⟩
  obtain ⟨c1, c2⟩ := hI.2.2.2.2.2.1
  rcases c1 with c0 | c0
  · have c0' : FI lo 14 = nI 0 := c0
    have hb := s_relBuild (V := V) (d := d) (FI := FI) (AL := AL) h hI.2.2.2.1 hI.2.1 hW.1 hW.2.1.1 hgl
    refine G_aload0 1 d_Alg_relationsNow_0 rfl ?_
    refine G_getIv 4 d_Alg_relationsNow_1 rfl f_Alg_90 rfl h.sh c0' ?_
    refine G_ifne 27 7 d_Alg_relationsNow_4 rfl rfl (fun h4 => ?_) (fun h4 => ?_)
    · exact absurd rfl h4
    · refine G_aload0 8 d_Alg_relationsNow_7 rfl ?_
      refine G_getR 11 d_Alg_relationsNow_8 rfl f_Alg_41 rfl h.sh h.f4 ?_
      refine G_aload0 12 d_Alg_relationsNow_11 rfl ?_
      refine G_getR 15 d_Alg_relationsNow_12 rfl f_Alg_34 rfl h.sh h.f3 ?_
      refine G_aload0 16 d_Alg_relationsNow_15 rfl ?_
      refine G_getR 19 d_Alg_relationsNow_16 rfl f_Alg_20 rfl h.sh h.f1 ?_
      refine G_invV2 22 d_Alg_relationsNow_19 rfl e_Alg_435 M_Rel_build rfl h.s4 (Nat.le_of_ble_eq_true rfl) (Nat.le_of_ble_eq_true rfl) rfl (G.conseq (hb) (fun r19 X19 FI19 AI19 AL19 h19 => ?_))
      obtain ⟨a1, a2, a3, a4, a5, a6, a7⟩ := h19
      replace a2 := a2.symm
      replace a3 := a3.symm
      replace a4 := a4.symm
      subst a1 a2 a3 a4
      obtain ⟨r1, r2⟩ := hI.rn (FI' := u2 FI lo 14 (nI 1)) (AI' := AI19) hW (fun c j hcj => by
        by_cases e : c = lo
        · subst e; exact u2_ix _ _ (fun e => hcj ⟨rfl, e⟩)
        · rw [u2_ne _ _ _ _ e]) a5 ⟨Or.inr (u2_at _ _ _ _), fun _ => ⟨a6, a7⟩⟩
      refine G_aload0 23 d_Alg_relationsNow_22 rfl ?_
      refine G_iconstN 1 24 d_Alg_relationsNow_23 rfl rfl ?_
      refine G_putI 27 d_Alg_relationsNow_24 rfl f_Alg_90 rfl (by intro C T N h; cases h; rfl) h.sh rfl rfl ?_
      refine G_aload0 28 d_Alg_relationsNow_27 rfl ?_
      refine G_getR 31 d_Alg_relationsNow_28 rfl f_Alg_41 rfl h.sh h.f4 ?_
      refine G_aret d_Alg_relationsNow_31 rfl (by first | exact Or.inl ⟨_, rfl⟩ | exact Or.inr ⟨_, rfl⟩) ?_
      exact ⟨rfl, rfl, rfl, r1, r2, ⟨a6, a7⟩, fun j hj => u2_ix _ _ hj⟩
  · have c0' : FI lo 14 = nI 1 := c0
    refine G_aload0 1 d_Alg_relationsNow_0 rfl ?_
    refine G_getIv 4 d_Alg_relationsNow_1 rfl f_Alg_90 rfl h.sh c0' ?_
    refine G_ifne 27 7 d_Alg_relationsNow_4 rfl rfl (fun h4 => ?_) (fun h4 => ?_)
    · refine G_aload0 28 d_Alg_relationsNow_27 rfl ?_
      refine G_getR 31 d_Alg_relationsNow_28 rfl f_Alg_41 rfl h.sh h.f4 ?_
      refine G_aret d_Alg_relationsNow_31 rfl (by first | exact Or.inl ⟨_, rfl⟩ | exact Or.inr ⟨_, rfl⟩) ?_
      exact ⟨rfl, rfl, rfl, hI, cF.rf, c2 c0, fun _ _ => rfl⟩
    · exact absurd h4 (by decide)
theorem s_relNow {V : GV} {d lo C E : Nat} {S : ST} {X : XT} {FI AI : FT} {AL : LT} (h : CO X lo) (hI : CIv C E S X FI AI AL lo) (hW : WS S) : G V m_Alg_relationsNow (d + 5) 0 [some (.ref lo)] [] X FI AI AL (fun r X' FI' AI' AL' => r = some (.ref (lo + 35)) ∧ X' = X ∧ AL' = AL ∧ CIv C E S X FI' AI' AL lo ∧ cF X X FI FI' AI AI' AL AL lo ∧ RLs S AI' lo) :=
  G.conseq (s_relNow2 h hI hW) (fun r X' FI' AI' AL' k => ⟨k.1, k.2.1, k.2.2.1, k.2.2.2.1, k.2.2.2.2.1, k.2.2.2.2.2.1⟩)
theorem s_countTo {V : GV} {d lo e : Nat} {S : ST} {X : XT} {FI AI : FT} {AL : LT} (h : CO X lo) (hR : RLs S AI lo) (h1 : 1 ≤ e) (h6 : e ≤ 6) : G V m_Rel_countTo d 0 [some (.ref (lo + 35)), some (.int (nI e))] [] X FI AI AL (Pd (some (.int (nI (tRl S e).length))) X FI AI AL) := by
  obtain ⟨x0, ⟨x1, x2, x3, x4, x5⟩, y1, y2, y3, y4, y5⟩ := h.rl
  have z3 : x_FR X (lo + 35) 2 = some (lo + 38) := x3
  have w3 : x_sh X (lo + 38) = some (0, 7) := y3
  have e1 := hR.2 e h1 h6
  refine G_aload0 1 d_Rel_countTo_0 rfl ?_
  refine G_getR 4 d_Rel_countTo_1 rfl f_Rel_20 rfl (by assumption) z3 ?_
  refine G_iload1 5 d_Rel_countTo_4 rfl ?_
  refine G_ialoadv 6 d_Rel_countTo_5 rfl (by assumption) (ix_nI (by omega) (by omega)) e1 ?_
  refine G_iret d_Rel_countTo_6 rfl ?_
  exact Pd.rf
theorem rl_344 {C E lo d : Nat} {S : ST} {X : XT} {FI AI : FT} {AL : LT} (hI : CIv C E S X FI AI AL lo) (hW : WS S) (hd : d ≤ 6) : (tRl S d).length ≤ 344 := by
  have e1 : tRl S d = PLs (tO S) (cLs (tG S)) (eS (d + 1)) := rlD_PL hW.1 (by omega)
  rw [e1]
  exact PLs_344 hW.1 hI.2.2.2.1 _ (eS_84 d (by omega))
theorem s_isRel {V : GV} {d lo C E e : Nat} {x : Int32} {S : ST} {X : XT} {FI AI : FT} {AL : LT} (h : CO X lo) (hI : CIv C E S X FI AI AL lo) (hW : WS S) (he1 : 1 ≤ e) (he6 : e ≤ 6) : G V m_Alg_isRelation (d + 6) 0 [some (.ref lo), some (.int (nI e)), some (.int x)] [] X FI AI AL (fun r X' FI' AI' AL' => X' = X ∧ AL' = AL ∧ CIv C E S X FI' AI' AL lo ∧ cF X X FI FI' AI AI' AL AL lo ∧ ((r = some (.int (nI 1)) ∧ isN x (tRl S e).length ∧ RLs S AI' lo) ∨ (r = some (.int (nI 0)) ∧ ¬ isN x (tRl S e).length))) := by
  have h344 := rl_344 hI hW he6
  have hr := s_relNow (V := V) (d := d) h hI hW
  refine G_iload2 1 d_Alg_isRelation_0 rfl ?_
  first | refine G_ifltD 20 4 d_Alg_isRelation_1 rfl rfl (by omega) (fun h1 => ?_) (fun j h1 => ?_) | refine G_iflt 20 4 d_Alg_isRelation_1 rfl rfl (fun h1 => ?_) (fun h1 => ?_)
  · refine G_iconstN 0 21 d_Alg_isRelation_20 rfl rfl ?_
    refine G_zret d_Alg_isRelation_21 rfl ?_ ?_
    · exact Or.inl rfl
    · refine ⟨rfl, rfl, hI, cF.rf, Or.inr ⟨rfl, fun ⟨j, hj, ej⟩ => ?_⟩⟩
      rw [ej, lt0_iff, nI_toInt (by omega)] at h1
      omega
  · obtain ⟨i, hi31, rfl⟩ := nI_of h1
    refine G_iload2 5 d_Alg_isRelation_4 rfl ?_
    refine G_aload0 6 d_Alg_isRelation_5 rfl ?_
    refine G_invV0 9 d_Alg_isRelation_6 rfl e_Alg_336 M_Alg_relationsNow rfl h.sh (Nat.le_of_ble_eq_true rfl) (Nat.le_of_ble_eq_true rfl) rfl (G.conseq (hr) (fun r6 X6 FI6 AI6 AL6 h6 => ?_))
    obtain ⟨a1, a2, a3, a4, a5, a6⟩ := h6
    replace a2 := a2.symm
    replace a3 := a3.symm
    subst a1 a2 a3
    have hct := s_countTo (V := V) (d := d + 5) (FI := FI6) (AL := AL) h a6 he1 he6
    refine G_iload1 10 d_Alg_isRelation_9 rfl ?_
    refine G_invV1d 13 d_Alg_isRelation_10 rfl e_Alg_340 M_Rel_countTo rfl h.s4 (Nat.le_of_ble_eq_true rfl) (Nat.le_of_ble_eq_true rfl) rfl (hct) ?_
    first | refine G_icgeN 20 16 d_Alg_isRelation_13 rfl rfl (by omega) (by omega) (fun h13 => ?_) (fun h13 => ?_) | refine G_icge 20 16 d_Alg_isRelation_13 rfl rfl (fun h13 => ?_) (fun h13 => ?_)
    · refine G_iconstN 0 21 d_Alg_isRelation_20 rfl rfl ?_
      refine G_zret d_Alg_isRelation_21 rfl ?_ ?_
      · exact Or.inl rfl
      · exact ⟨rfl, rfl, a4, a5, Or.inr ⟨rfl, fun ⟨j, hj, ej⟩ => by rw [nI_eq hi31 (by omega)] at ej; omega⟩⟩
    · refine G_iconstN 1 17 d_Alg_isRelation_16 rfl rfl ?_
      refine G_goto 21 d_Alg_isRelation_17 rfl ?_
      refine G_zret d_Alg_isRelation_21 rfl ?_ ?_
      · exact Or.inr rfl
      · exact ⟨rfl, rfl, a4, a5, Or.inl ⟨rfl, ⟨i, by omega, rfl⟩, a6⟩⟩
