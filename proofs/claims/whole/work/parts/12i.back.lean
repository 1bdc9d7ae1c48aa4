/-! ===== the class: back ===== -/
theorem c_back {V : GV} {d lo C E : Nat} {S : ST} {X : XT} {FI AI : FT} {AL : LT} (h : CO X lo) (hI : CIv C E S X FI AI AL lo) (hW : WS S) : G V m_Alg_back (d + 5) 0 [some (.ref lo), none] [] X FI AI AL (fun r X' FI' AI' AL' => r = some (.int (fBack S).1) ∧ CO X' lo ∧ CIv C E (fBack S).2 X' FI' AI' AL' lo ∧ cF X X' FI FI' AI AI' AL AL' lo) := by
  cases hx : tX S with
  | none =>
    have eF : fBack S = (-2, S) := by unfold fBack; rw [hx]
    rw [eF]
    have hn : x_FR X lo 12 = none := by
      have := hI.2.2.2.2.2.2.2.2.2.2.1
      rw [hx] at this
      exact this
    refine G_aload0 1 d_Alg_back_0 rfl ?_
    refine G_getR0 4 d_Alg_back_1 rfl f_Alg_82 rfl h.sh ?_
    rw [hn]
    refine G_ifnonnullN (x := 0) 7 d_Alg_back_4 rfl ?_
    refine G_bipush (-2) 9 d_Alg_back_7 rfl rfl ?_
    refine G_iret d_Alg_back_9 rfl ?_
    exact ⟨rfl, h, hI, cF.rf⟩
  | some K =>
    have eF : fBack S = (nI (gN K.2.2), (stW (stG (stO (stS S K.1) K.2.1) K.2.2) (false, (tW S).2))) := by unfold fBack; rw [hx]
    rw [eF]
    obtain ⟨k, i0, c1, c2, c3⟩ := hI.i0 hx
    obtain ⟨a1, a2, a3, a4, a5, a6, a7, a8, a9, a10, a12, b1, b2, b3, b4⟩ := id i0
    have a11 := hI.2.2.2.2.2.2.2.2.2.2.1
    obtain ⟨ko1, ko2, ko3, ko4, ko5, ko6⟩ := id b4
    obtain ⟨wk1, wk2, wk3⟩ := hW.2.2.2.2.2.2 K hx
    have hgo := h.go
    have rkk := h.rk
    have L : ∀ i, i ≤ 6 → ∀ AJ : LT, (∀ c, ¬ isSC lo c → AJ c = AL c) → (∀ s, s < i → AJ (lo + 67 + 2 * s) = K.1 s) → G V m_Alg_back (d + 5) 12 [some (.ref lo), some (.int (nI i))] [] X FI AI AJ (fun r X' FI' AI' AL' => r = some (.int (nI (gN K.2.2))) ∧ CO X' lo ∧ CIv C E (stW (stG (stO (stS S K.1) K.2.1) K.2.2) (false, (tW S).2)) X' FI' AI' AL' lo ∧ cF X X' FI FI' AI AI' AL AL' lo) := by
      refine upto ?_ ?_
      · intro AJ k1 k2
        have al0 : ∀ c, c < lo + 57 ∨ lo + 78 ≤ c → AJ c = AL c := fun c hc => k1 c (by unfold isSC; omega)
        have hrb := s_rankBecome (V := V) (d := d + 4) (FI := FI) (AI := AI) (AL := AJ) rkk wk1
        have hG2 : CGs K.2.2 (u2 FI (lo + 2) 0 (nI K.2.1)) (sr AI (lo + 3) (fun j => nI (rk K.2.1 j))) AJ (k + 2) := c3.tr (u2_off _ _ _ (by omega)) (fun c _ _ => sr_ne _ _ (by omega)) (fun c _ _ => al0 c (by omega))
        have hgb := s_genBecomeLike (V := V) (d := d + 2) (ga2 := fun j => k + 2 + j) (qo2 := fun i => k + 12 + 2 * i) hgo ko6 (by
          have := hG2.gs
          refine ⟨this.1, this.2.1, fun i hi => ?_⟩
          have q := this.2.2 i hi
          dsimp only at q
          rw [show k + 2 + 10 + 2 * i = k + 12 + 2 * i by omega] at q
          exact q) (fun i hi => (wk2.2.1 i hi).2.2.2.2.1) (show k + 2 ≠ lo + 4 by omega) (fun i j _ _ _ _ => show k + 2 + i ≠ lo + 4 + j by omega) (fun i j _ _ => show k + 12 + 2 * i ≠ lo + 14 + 2 * j by omega) (fun i _ => show k + 12 + 2 * i ≠ lo + 4 + 3 ∧ k + 12 + 2 * i ≠ lo + 4 + 6 ∧ lo + 14 + 2 * i ≠ k + 2 + 3 ∧ lo + 14 + 2 * i ≠ k + 2 + 6 by omega)
        refine G_iload1 13 d_Alg_back_12 rfl ?_
        refine G_bipushN 6 15 d_Alg_back_13 rfl rfl ?_
        first | refine G_icgeN 42 18 d_Alg_back_15 rfl rfl (by omega) (by omega) (fun h15 => ?_) (fun h15 => ?_) | refine G_icge 42 18 d_Alg_back_15 rfl rfl (fun h15 => ?_) (fun h15 => ?_)
        · refine G_aload0 43 d_Alg_back_42 rfl ?_
          refine G_getR 46 d_Alg_back_43 rfl f_Alg_20 rfl h.sh h.f1 ?_
          refine G_aload0 47 d_Alg_back_46 rfl ?_
          refine G_getR 50 d_Alg_back_47 rfl f_Alg_82 rfl h.sh b1 ?_
          refine G_getIv 53 d_Alg_back_50 rfl f_Alg_420 rfl ko1 c1 ?_
          refine G_invV1v 56 d_Alg_back_53 rfl e_Alg_115 M_Rank_become rfl h.s1 (Nat.le_of_ble_eq_true rfl) (Nat.le_of_ble_eq_true rfl) rfl (hrb) ?_
          refine G_aload0 57 d_Alg_back_56 rfl ?_
          refine G_getR 60 d_Alg_back_57 rfl f_Alg_27 rfl h.sh h.f2 ?_
          refine G_aload0 61 d_Alg_back_60 rfl ?_
          refine G_getR 64 d_Alg_back_61 rfl f_Alg_82 rfl h.sh b1 ?_
          refine G_getR 67 d_Alg_back_64 rfl f_Alg_423 rfl ko1 ko3 ?_
          refine G_invV1 70 d_Alg_back_67 rfl e_Alg_424 M_Gen_becomeLike rfl h.s2 (Nat.le_of_ble_eq_true rfl) (Nat.le_of_ble_eq_true rfl) rfl (G.conseq (hgb) (fun r67 X67 FI67 AI67 AL67 h67 => ?_))
          obtain ⟨rfl, q2, q3, q4⟩ := h67
          replace q2 := q2.symm
          subst q2
          obtain ⟨f1, f2, f3⟩ := q4
          have f1' : ∀ c, c ≠ lo + 4 → FI67 c = u2 FI (lo + 2) 0 (nI K.2.1) c := fun c hc => funext fun j => f1 c j (by omega)
          have f2' : ∀ c, c < lo + 6 ∨ lo + 12 ≤ c → AI67 c = sr AI (lo + 3) (fun j => nI (rk K.2.1 j)) c := fun c hc => f2 c (show c ≠ lo + 4 + 2 by omega) (show c ≠ lo + 4 + 4 by omega) (show c ≠ lo + 4 + 5 by omega) (show c ≠ lo + 4 + 7 by omega)
          have f3' : ∀ c, c < lo + 5 ∨ lo + 27 ≤ c → AL67 c = AJ c := fun c hc => f3 c (fun i hi => show c ≠ lo + 14 + 2 * i by omega) (show c ≠ lo + 4 + 3 by omega) (show c ≠ lo + 4 + 6 by omega)
          have hG3 : CGs K.2.2 (u2 FI67 lo 13 (nI 0)) AI67 AL67 (lo + 4) := by
            refine ⟨by rw [u2_off _ _ _ (by omega)]; exact q3.1, q3.2.1, fun i hi => ?_⟩
            have := q3.2.2 i hi
            rw [show lo + 4 + 10 + 2 * i = lo + 14 + 2 * i by omega]
            exact this
          have hP3 : CPr (tG S) X AI67 AL67 lo := a5.tr (by rw [f2' _ (by omega), sr_ne _ _ (by omega)]) (fun c hc => by rw [f3' c (by omega)]; exact al0 c (by omega))
          have hgc := s_genChanged (V := V) (d := d) (Gt' := K.2.2) h hG3 hP3 (fun i hi => ⟨(wk2.2.1 i hi).1, (wk2.2.1 i hi).2.1⟩) wk2.2.2
          refine G_aload0 71 d_Alg_back_70 rfl ?_
          refine G_iconstN 0 72 d_Alg_back_71 rfl rfl ?_
          refine G_putI 75 d_Alg_back_72 rfl f_Alg_86 rfl (by intro C T N h; cases h; rfl) h.sh rfl rfl ?_
          refine G_aload0 76 d_Alg_back_75 rfl ?_
          refine G_invV0 79 d_Alg_back_76 rfl e_Alg_245 M_Alg_generatorsChanged rfl h.sh (Nat.le_of_ble_eq_true rfl) (Nat.le_of_ble_eq_true rfl) rfl (G.conseq (hgc) (fun r76 X76 FI76 AI76 AL76 h76 => ?_))
          obtain ⟨g1, g2, g3, g4, g5, g6, g7⟩ := h76
          replace g2 := g2.symm
          replace g4 := g4.symm
          subst g1 g2 g3 g4
          have fi : ∀ c, c ≠ lo → c ≠ lo + 2 → c ≠ lo + 4 → u2 (u2 (u2 FI67 lo 13 (nI 0)) lo 14 (nI 0)) lo 15 (nI 0) c = FI c := fun c h1 h2 h3 => by rw [u2_off _ _ _ h1, u2_off _ _ _ h1, u2_off _ _ _ h1, f1' c h3, u2_off _ _ _ h2]
          have fj : ∀ j, j ≠ 13 → j ≠ 14 → j ≠ 15 → u2 (u2 (u2 FI67 lo 13 (nI 0)) lo 14 (nI 0)) lo 15 (nI 0) lo j = FI lo j := fun j h1 h2 h3 => by rw [u2_ix _ _ h3, u2_ix _ _ h2, u2_ix _ _ h1, f1' _ (by omega), u2_off _ _ _ (by omega)]
          have ai : ∀ c, c ≠ lo + 3 → (c < lo + 6 ∨ lo + 35 ≤ c) → AI76 c = AI c := fun c h1 h2 => by rw [g5 c (by omega), f2' c (by omega), sr_ne _ _ h1]
          have al : ∀ c, (c < lo + 5 ∨ lo + 27 ≤ c) → (c < lo + 57 ∨ lo + 78 ≤ c) → AL67 c = AL c := fun c h1 h2 => by rw [f3' c h1]; exact al0 c h2
          have gz : u2 (u2 (u2 FI67 lo 13 (nI 0)) lo 14 (nI 0)) lo 15 (nI 0) (lo + 4) 0 = nI (gN K.2.2) := by
            rw [u2_off _ _ _ (by omega), u2_off _ _ _ (by omega), u2_off _ _ _ (by omega)]; exact q3.1
          have r1 : CIv C E (stW (stG (stO (stS S K.1) K.2.1) K.2.2) (false, (tW S).2)) X (u2 (u2 (u2 FI67 lo 13 (nI 0)) lo 14 (nI 0)) lo 15 (nI 0)) AI76 AL67 lo := by
            refine ⟨fun s hs => by rw [f3' _ (by omega)]; exact k2 s hs, ⟨?_, fun j hj => ?_⟩, ?_, g6, g7, ⟨Or.inl ?_, fun e => ?_⟩, ⟨Or.inl ?_, fun e => ?_⟩, a8.tr (fun c _ _ => fi c (by omega) (by omega) (by omega)) (fun c _ _ => ai c (by omega) (by omega)), a9.tr hW.2.2.2.2.2.1.1 (fj 16 (by omega) (by omega) (by omega)) (fun c _ _ => fi c (by omega) (by omega) (by omega)) (fun c _ _ => al c (by omega) (by omega)), ?_, a11.tr (fun c _ => fi c (by omega) (by omega) (by omega)) (fun c _ => ai c (by omega) (by omega)) (fun c _ => al c (by omega) (by omega)), a12⟩
            · rw [u2_off _ _ _ (by omega), u2_off _ _ _ (by omega), u2_off _ _ _ (by omega), f1' _ (by omega), u2_at]; rfl
            · rw [g5 _ (by omega), f2' _ (by omega), sr_at]; rfl
            · exact hG3.tr (by rw [u2_off _ _ _ (by omega), u2_off _ _ _ (by omega)]) (fun c _ _ => g5 c (by omega)) (fun _ _ _ => rfl)
            · rw [u2_ix _ _ (by omega), u2_at]; rfl
            · rw [u2_ix _ _ (by omega), u2_at] at e; exact absurd e (by decide)
            · rw [u2_at]; rfl
            · rw [u2_at] at e; exact absurd e (by decide)
            · obtain ⟨w, v, e1, e2, e3, e4, e5⟩ := a10
              exact ⟨w, v, e1, e2, e3, by rw [u2_ix _ _ (by omega), u2_ix _ _ (by omega), u2_at]; rfl, fun e => by cases e⟩
          refine G_aload0 80 d_Alg_back_79 rfl ?_
          refine G_getR 83 d_Alg_back_80 rfl f_Alg_27 rfl h.sh h.f2 ?_
          refine G_getIv 86 d_Alg_back_83 rfl f_Alg_109 rfl h.s2 gz ?_
          refine G_iret d_Alg_back_86 rfl ?_
          exact ⟨rfl, h, r1, fun c hc => ⟨⟨fi c (by omega) (by omega) (by omega), ai c (by omega) (by omega), al c (by omega) (by omega)⟩, rfl, rfl, rfl⟩⟩
        · omega
      · intro i hi ih AJ k1 k2
        obtain ⟨ari, poi⟩ := h.sl hi
        obtain ⟨ark, pok⟩ := ko5 i hi
        have poi1 := poi.1
        have pok1 := pok.1
        refine G_iload1 13 d_Alg_back_12 rfl ?_
        refine G_bipushN 6 15 d_Alg_back_13 rfl rfl ?_
        first | refine G_icgeN 42 18 d_Alg_back_15 rfl rfl (by omega) (by omega) (fun h15 => ?_) (fun h15 => ?_) | refine G_icge 42 18 d_Alg_back_15 rfl rfl (fun h15 => ?_) (fun h15 => ?_)
        · omega
        · refine G_aload0 19 d_Alg_back_18 rfl ?_
          refine G_getR 22 d_Alg_back_19 rfl f_Alg_13 rfl h.sh h.f0 ?_
          refine G_iload1 23 d_Alg_back_22 rfl ?_
          refine G_aaload 24 d_Alg_back_23 rfl h.s0 (by decide) (by decide) (ix_nI (by omega) (by omega)) ari ?_
          refine G_aload0 25 d_Alg_back_24 rfl ?_
          refine G_getR 28 d_Alg_back_25 rfl f_Alg_82 rfl h.sh b1 ?_
          refine G_getR 31 d_Alg_back_28 rfl f_Alg_419 rfl ko1 ko2 ?_
          refine G_iload1 32 d_Alg_back_31 rfl ?_
          refine G_aaload 33 d_Alg_back_32 rfl ko4 (by decide) (by decide) (ix_nI (by omega) (by omega)) ark ?_
          refine G_invV1v 36 d_Alg_back_33 rfl e_Alg_170 M_Poly_becomeLike rfl poi1 (Nat.le_of_ble_eq_true rfl) (Nat.le_of_ble_eq_true rfl) rfl (s_becomeLike poi pok) ?_
          first | refine G_iincN1 39 d_Alg_back_36 rfl (by decide) rfl ?_ | refine G_iinc1 _ 39 d_Alg_back_36 rfl (by decide) rfl rfl ?_
          refine G_goto 12 d_Alg_back_39 rfl ?_
          refine ih _ (fun c hc => by rw [sr_ne _ _ (by unfold isSC at hc; omega)]; exact k1 c hc) (fun s hs => ?_)
          by_cases e : s = i
          · subst e
            rw [sr_at, k1 _ (by unfold isSC; omega)]; exact c2 s (by omega)
          · rw [sr_ne _ _ (by omega)]; exact k2 s (by omega)
    refine G_aload0 1 d_Alg_back_0 rfl ?_
    refine G_getR 4 d_Alg_back_1 rfl f_Alg_82 rfl h.sh b1 ?_
    refine G_ifnonnull 10 d_Alg_back_4 rfl ?_
    refine G_iconstN 0 11 d_Alg_back_10 rfl rfl ?_
    refine G_istore1 12 d_Alg_back_11 rfl (by decide) rfl ?_
    exact L 0 (Nat.zero_le _) AL (fun _ _ => rfl) (fun s hs => by omega)
