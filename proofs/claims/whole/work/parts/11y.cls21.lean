/-! ===== the class: grown, through ===== -/
theorem CIv.wo {C E lo : Nat} {S : ST} {X : XT} {FI AI : FT} {AL AL' : LT} (hI : CIv C E S X FI AI AL lo) (hW : WS S) (k : ∀ c, c ≠ lo + 12 → AL' c = AL c) : CIv C E S X FI AI AL' lo ∧ cF X X FI FI AI AI AL AL' lo := by
  obtain ⟨a1, a2, a3, a4, a5, a6, a7, a8, a9, a10, a11, a12⟩ := hI
  refine ⟨⟨fun s hs => by rw [k _ (by omega)]; exact a1 s hs, a2, ⟨a3.1, a3.2.1, fun i hi => ?_⟩, a4, a5.tr rfl (fun c _ => k c (by omega)), a6, a7.tr rfl (fun c _ _ => k c (by omega)), a8, a9.tr hW.2.2.2.2.2.1.1 rfl (fun _ _ _ => rfl) (fun c _ _ => k c (by omega)), a10.tr rfl (fun _ _ _ => rfl) (fun _ _ _ => rfl) (fun c _ _ => k c (by omega)), a11.tr (fun _ _ => rfl) (fun _ _ => rfl) (fun c _ => k c (by omega)), a12⟩, cF.al (fun c hc => k c (by omega))⟩
  obtain ⟨c1, c2, c3, c4, c5, c6⟩ := a3.2.2 i hi
  have : gN (tG S) ≤ 7 := a3.2.1
  exact ⟨c1, by rw [k _ (by omega)]; exact c2, by rw [k _ (by omega)]; exact c3, c4, c5, fun j hj => ⟨by rw [k _ (by omega)]; exact (c6 j hj).1, (c6 j hj).2⟩⟩
theorem pWr_p {ws : Nat → Nat} {r m a g : Nat} (h1 : ∀ q, q < g → md (lN (ws q)) m = ws q) : ∀ k, k ≤ g → pWr ws r m a k = ptw a m ws (pw r) k
  | 0, _ => rfl
  | k + 1, hk => by rw [pWr, ptw, pWr_p h1 k (by omega), h1 k (by omega)]
theorem pWr_z {ws : Nat → Nat} {r m a g : Nat} (h2 : ∀ q, g ≤ q → q < 7 → pw r q = 0) : ∀ j, g + j ≤ 7 → pWr ws r m a (g + j) = pWr ws r m a g
  | 0, _ => rfl
  | j + 1, hj => by
    rw [← Nat.add_assoc, pWr, h2 (g + j) (by omega) (by omega), pWr_z h2 j (by omega)]
    rfl
theorem wop_gr {cf : Nat → Int64} {C : Nat → Int64} {R ws : Nat → Nat} {g m : Nat} (hg : g ≤ 7) (h1 : ∀ q, q < g → md (lN (ws q)) m = ws q) : ∀ k, (∀ i, i < k → cf i = C i) → (∀ i, i < k → ∀ q, g ≤ q → q < 7 → pw (R i) q = 0) → wop cf R ws g m k = grI ws C R m 0 k
  | 0, _, _ => rfl
  | k + 1, hc, hz => by
    have e : pWr ws (R k) m (md (C k) m) 7 = ptw (md (C k) m) m ws (pw (R k)) g := by
      have := pWr_z (ws := ws) (m := m) (a := md (C k) m) (hz k (by omega)) (7 - g) (by omega)
      rw [show g + (7 - g) = 7 by omega] at this
      rw [this]; exact pWr_p h1 g (Nat.le_refl _)
    rw [wop, grI, wop_gr hg h1 k (fun i hi => hc i (by omega)) (fun i hi => hz i (by omega)), hc k (by omega), e]
theorem grW_at {G : GT} {bx by_ bz m j : Nat} : ∀ n, j < n → grW G bx by_ bz m n j = grW G bx by_ bz m (j + 1) j
  | 0, h => by omega
  | n + 1, h => by
    by_cases e : j = n
    · subst e; rfl
    · rw [grW, upn_ne _ _ e]; exact grW_at n (by omega)
theorem c_grown {V : GV} {d lo C E : Nat} {S : ST} {g x y z w : Int32} {X : XT} {FI AI : FT} {AL : LT} (h : CO X lo) (hI : CIv C E S X FI AI AL lo) (hW : WS S) : G V m_Alg_grown (d + 4) 0 [some (.ref lo), some (.int g), some (.int x), some (.int y), some (.int z), some (.int w), none] [] X FI AI AL (fun r X' FI' AI' AL' => r = some (.long (fGrown S g x y z w).1) ∧ CO X' lo ∧ CIv C E (fGrown S g x y z w).2 X' FI' AI' AL' lo ∧ cF X X' FI FI' AI AI' AL AL' lo) := by
  have hgs := hI.2.2.1
  have g0 := hgs.1
  have hn7 := hgs.2.1
  have hT := hI.2.2.2.1
  obtain ⟨go0, gf1, gf2, gf3, gf4, gf5, gf6, gf7, gf8, gs1, gs2, gs3, gs4, gs5, gs6, gs7, gs8, gpo, -⟩ := h.go
  have gf1' : x_FR X (lo + 4) 1 = some (lo + 5) := gf1
  have gf2' : x_FR X (lo + 4) 2 = some (lo + 6) := gf2
  have gf4' : x_FR X (lo + 4) 4 = some (lo + 8) := gf4
  have gf5' : x_FR X (lo + 4) 5 = some (lo + 9) := gf5
  have gf6' : x_FR X (lo + 4) 6 = some (lo + 10) := gf6
  have gf7' : x_FR X (lo + 4) 7 = some (lo + 11) := gf7
  have gf8' : x_FR X (lo + 4) 8 = some (lo + 12) := gf8
  have gs1' : x_sh X (lo + 5) = some (3, 7) := gs1
  have gs2' : x_sh X (lo + 6) = some (0, 7) := gs2
  have gs4' : x_sh X (lo + 8) = some (0, 7) := gs4
  have gs5' : x_sh X (lo + 9) = some (0, 7) := gs5
  have gs6' : x_sh X (lo + 10) = some (1, 602) := gs6
  have gs7' : x_sh X (lo + 11) = some (0, 602) := gs7
  have gs8' : x_sh X (lo + 12) = some (1, 7) := gs8
  have hgl : ∀ i, i < gN (tG S) → gL (tG S) i < 84 ∧ 1 ≤ eD (gL (tG S) i) := fun i hi => ⟨(hW.2.1.2.1 i hi).1, (hW.2.1.2.1 i hi).2.1⟩
  have eRN : ∀ t, (tRN S t).length = (RT (cLs (tG S)) t).length := fun t => by show (RN (cLs (tG S)) t).length = _; unfold RN; rw [List.length_map]
  have h344 : ∀ t, t < 84 → (RT (cLs (tG S)) t).length ≤ 344 := fun t ht => by
    obtain ⟨S', hS'⟩ := hT
    have := (hS' t ht).2.2.1
    omega
  clear gf1 gf2 gf3 gf4 gf5 gf6 gf7 gf8 gs1 gs2 gs3 gs4 gs5 gs6 gs7 gs8
  refine G_aload0 1 d_Alg_grown_0 rfl ?_
  refine G_iload1 2 d_Alg_grown_1 rfl ?_
  refine G_invV1b 5 d_Alg_grown_2 rfl e_Alg_248 M_Alg_isGenerator rfl h.sh (Nat.le_of_ble_eq_true rfl) (Nat.le_of_ble_eq_true rfl) rfl (s_isGen h g0 hn7) (fun h2 => G_ifeq1 8 d_Alg_grown_5 16 rfl rfl ?_) (fun h2 => G_ifeq0 8 d_Alg_grown_5 16 rfl rfl ?_)
  · obtain ⟨g, hg, rfl⟩ := h2
    have qg := bN_t hg (show gN (tG S) < 2 ^ 31 by omega)
    have zg := ni_nI (show g < 2 ^ 31 by omega)
    have arg : x_AR X (lo + 5) g = some (lo + 13 + 2 * g) := (gpo g (by omega)).1
    have pog : PO X (lo + 13 + 2 * g) (lo + 14 + 2 * g) := (gpo g (by omega)).2
    have psg := pog.1
    obtain ⟨w1g, w2g, w3g, w4g, w5g, w6g⟩ := hgs.2.2 g hg
    have w1'g : AI (lo + 6) g = nI (gL (tG S) g) := w1g
    have w2'g : AL (lo + 14 + 2 * g) = gP (tG S) g := by rw [show lo + 14 + 2 * g = lo + 4 + 10 + 2 * g by omega]; exact w2g
    have w4'g : AI (lo + 8) g = nI (hgL (tG S) (g + 1)) := w4g
    have w5'g : AI (lo + 9) g = nI (gK (tG S) g) := w5g
    have k86g : gK (tG S) g ≤ 86 := (hW.2.1.2.1 g hg).2.2.2.2.1
    refine G_iload5 10 d_Alg_grown_8 rfl ?_
    refine G_invS1b 13 d_Alg_grown_10 rfl e_Alg_207 M_Alg_isModulus (Nat.le_of_ble_eq_true rfl) (Nat.le_of_ble_eq_true rfl) rfl (s_isModulus) (fun h10 => G_ifne1 16 d_Alg_grown_13 20 rfl rfl ?_) (fun h10 => G_ifne0 16 d_Alg_grown_13 20 rfl rfl ?_)
    · obtain ⟨m, m1, m6, m31, rfl⟩ := isB_n (lo := 2) (hi := 1000000) h10
      have q3 := bB_iff.mpr h10
      have z3 := ni_nI m31
      simp only [fGrown, qg, zg, q3, z3, Bool.and_self, if_true]
      have h0 : 0 < m := by omega
      have hlt : ∀ n j, j < n → (grW (tG S) (md x.toInt64 m) (md y.toInt64 m) (md z.toInt64 m) m n j) < m := by
        intro n j hj
        rw [grW_at n hj, grW, upn_at]
        unfold grS
        refine grI_lt h0 ?_ _
        split
        · exact cw_lt h0 84
        · exact h0
      have L : ∀ i, i ≤ g + 1 → ∀ AJ : LT, (∀ c, c ≠ lo + 12 → AJ c = AL c) → (∀ j, j < i → AJ (lo + 12) j = lN ((grW (tG S) (md x.toInt64 m) (md y.toInt64 m) (md z.toInt64 m) m i j))) → G V m_Alg_grown (d + 4) 23 [some (.ref lo), some (.int (nI g)), some (.int x), some (.int y), some (.int z), some (.int (nI m)), some (.int (nI i))] [] X FI AI AJ (fun r X' FI' AI' AL' => r = some (.long (lN ((grW (tG S) (md x.toInt64 m) (md y.toInt64 m) (md z.toInt64 m) m (g + 1) g)))) ∧ CO X' lo ∧ CIv C E S X' FI' AI' AL' lo ∧ cF X X' FI FI' AI AI' AL AL' lo) := by
        refine upto ?_ ?_
        · intro AJ k1 k2
          have e := k2 g (by omega)
          refine G_iload6 25 d_Alg_grown_23 rfl ?_
          refine G_iload1 26 d_Alg_grown_25 rfl ?_
          first | refine G_icgtN 90 29 d_Alg_grown_26 rfl rfl (by omega) (by omega) (fun h26 => ?_) (fun h26 => ?_) | refine G_icgt 90 29 d_Alg_grown_26 rfl rfl (fun h26 => ?_) (fun h26 => ?_)
          · refine G_aload0 91 d_Alg_grown_90 rfl ?_
            refine G_getR 94 d_Alg_grown_91 rfl f_Alg_27 rfl h.sh h.f2 ?_
            refine G_getR 97 d_Alg_grown_94 rfl f_Alg_284 rfl h.s2 gf8' ?_
            refine G_iload1 98 d_Alg_grown_97 rfl ?_
            refine G_laloadv 99 d_Alg_grown_98 rfl (by assumption) (ix_nI (by omega) (by omega)) e ?_
            refine G_lret d_Alg_grown_99 rfl ?_
            obtain ⟨r1, r2⟩ := hI.wo hW k1
            exact ⟨rfl, h, r1, r2⟩
          · omega
        · intro i hi ih AJ k1 k2
          have hin : i < gN (tG S) := by omega
          obtain ⟨c1, c2, c3, c4, c5, c6⟩ := hgs.2.2 i hin
          have k86 := (hW.2.1.2.1 i hin).2.2.2.2.1
          have krw := (hW.2.1.2.1 i hin).2.2.2.2.2.1
          have ari : x_AR X (lo + 5) i = some (lo + 13 + 2 * i) := (gpo i (by omega)).1
          have poi : PO X (lo + 13 + 2 * i) (lo + 14 + 2 * i) := (gpo i (by omega)).2
          have psi := poi.1
          have eP : AJ (lo + 14 + 2 * i) = gP (tG S) i := by rw [k1 _ (by omega), show lo + 14 + 2 * i = lo + 4 + 10 + 2 * i by omega]; exact c2
          have hig := s_isGrown (V := V) (d := d + 3) (FI := FI) (AL := AJ) h.go (show i < 7 by omega) c5 (show gK (tG S) i < 2 ^ 31 by omega)
          have nxt_ : ∀ v : Int64, v = lN (grS (tG S) (md x.toInt64 m) (md y.toInt64 m) (md z.toInt64 m) m ((grW (tG S) (md x.toInt64 m) (md y.toInt64 m) (md z.toInt64 m) m i)) i) → G V m_Alg_grown (d + 4) 23 [some (.ref lo), some (.int (nI g)), some (.int x), some (.int y), some (.int z), some (.int (nI m)), some (.int (nI (i + 1)))] [] X FI AI (u2 AJ (lo + 12) i v) (fun r X' FI' AI' AL' => r = some (.long (lN ((grW (tG S) (md x.toInt64 m) (md y.toInt64 m) (md z.toInt64 m) m (g + 1) g)))) ∧ CO X' lo ∧ CIv C E S X' FI' AI' AL' lo ∧ cF X X' FI FI' AI AI' AL AL' lo) := by
            intro v ev
            refine ih _ (fun c hc => by rw [u2_off _ _ _ hc]; exact k1 c hc) (fun j hj => ?_)
            rw [grW]
            by_cases e : j = i
            · subst e; rw [u2_at, upn_at]; exact ev
            · rw [u2_ix _ _ e, upn_ne _ _ e]; exact k2 j (by omega)
          refine G_iload6 25 d_Alg_grown_23 rfl ?_
          refine G_iload1 26 d_Alg_grown_25 rfl ?_
          first | refine G_icgtN 90 29 d_Alg_grown_26 rfl rfl (by omega) (by omega) (fun h26 => ?_) (fun h26 => ?_) | refine G_icgt 90 29 d_Alg_grown_26 rfl rfl (fun h26 => ?_) (fun h26 => ?_)
          · omega
          · refine G_aload0 30 d_Alg_grown_29 rfl ?_
            refine G_getR 33 d_Alg_grown_30 rfl f_Alg_27 rfl h.sh h.f2 ?_
            refine G_getR 36 d_Alg_grown_33 rfl f_Alg_284 rfl h.s2 gf8' ?_
            refine G_iload6 38 d_Alg_grown_36 rfl ?_
            refine G_aload0 39 d_Alg_grown_38 rfl ?_
            refine G_getR 42 d_Alg_grown_39 rfl f_Alg_27 rfl h.sh h.f2 ?_
            refine G_iload6 44 d_Alg_grown_42 rfl ?_
            refine G_invV1b 47 d_Alg_grown_44 rfl e_Alg_257 M_Gen_isGrown rfl h.s2 (Nat.le_of_ble_eq_true rfl) (Nat.le_of_ble_eq_true rfl) rfl (hig) (fun h44 => G_ifeq1 50 d_Alg_grown_47 64 rfl rfl ?_) (fun h44 => G_ifeq0 50 d_Alg_grown_47 64 rfl rfl ?_)
            · have hwp := s_worthOfParts (V := V) (d := d + 1) (FI := FI) (AI := AI) (AL := AJ) (ws := (grW (tG S) (md x.toInt64 m) (md y.toInt64 m) (md z.toInt64 m) m i)) (rw_ := gR (tG S) i) h.go (show i < 7 by omega) h0 m6 c5 k86 (fun j hj => ⟨k2 j hj, hlt i j hj⟩) (fun j hj => ⟨(c6 j hj).2, by have := (krw j hj).1; omega⟩)
              have ew : wop (fun j => AJ (cga lo 6) (i * 86 + j)) (gR (tG S) i) ((grW (tG S) (md x.toInt64 m) (md y.toInt64 m) (md z.toInt64 m) m i)) i m (gK (tG S) i) = grS (tG S) (md x.toInt64 m) (md y.toInt64 m) (md z.toInt64 m) m ((grW (tG S) (md x.toInt64 m) (md y.toInt64 m) (md z.toInt64 m) m i)) i := by
                unfold grS
                rw [if_neg (by omega)]
                refine wop_gr (by omega) (fun q hq => md_lN (hlt i q hq) (by omega)) _ (fun j hj => ?_) (fun j hj => (krw j hj).2)
                show AJ (lo + 4 + 6) (i * 86 + j) = _
                rw [k1 _ (by omega)]; exact (c6 j hj).1
              rw [ew] at hwp
              refine G_aload0 51 d_Alg_grown_50 rfl ?_
              refine G_getR 54 d_Alg_grown_51 rfl f_Alg_27 rfl h.sh h.f2 ?_
              refine G_iload6 56 d_Alg_grown_54 rfl ?_
              refine G_iload5 58 d_Alg_grown_56 rfl ?_
              refine G_invV2d 61 d_Alg_grown_58 rfl e_Alg_287 M_Gen_worthOfParts rfl h.s2 (Nat.le_of_ble_eq_true rfl) (Nat.le_of_ble_eq_true rfl) rfl (hwp) ?_
              refine G_goto 83 d_Alg_grown_61 rfl ?_
              refine G_lastore 84 d_Alg_grown_83 rfl (by assumption) (ix_nI (by omega) (by omega)) ?_
              first | refine G_iincN6 87 d_Alg_grown_84 rfl (by decide) rfl ?_ | refine G_iinc6 _ 87 d_Alg_grown_84 rfl (by decide) rfl rfl ?_
              refine G_goto 23 d_Alg_grown_87 rfl ?_
              exact nxt_ _ rfl
            · have e0 : gK (tG S) i = 0 := by omega
              refine G_aload0 65 d_Alg_grown_64 rfl ?_
              refine G_getR 68 d_Alg_grown_65 rfl f_Alg_27 rfl h.sh h.f2 ?_
              refine G_getR 71 d_Alg_grown_68 rfl f_Alg_251 rfl h.s2 gf1' ?_
              refine G_iload6 73 d_Alg_grown_71 rfl ?_
              refine G_aaload 74 d_Alg_grown_73 rfl (by assumption) (by decide) (by decide) (ix_nI (by omega) (by omega)) (by assumption) ?_
              refine G_iload2 75 d_Alg_grown_74 rfl ?_
              refine G_iload3 76 d_Alg_grown_75 rfl ?_
              refine G_iload4 78 d_Alg_grown_76 rfl ?_
              refine G_iload5 80 d_Alg_grown_78 rfl ?_
              refine G_invV4d 83 d_Alg_grown_80 rfl e_Alg_210 M_Poly_worth rfl (by assumption) (Nat.le_of_ble_eq_true rfl) (Nat.le_of_ble_eq_true rfl) rfl (s_worth (by assumption) (by omega) (by omega)) ?_
              refine G_lastore 84 d_Alg_grown_83 rfl (by assumption) (ix_nI (by omega) (by omega)) ?_
              first | refine G_iincN6 87 d_Alg_grown_84 rfl (by decide) rfl ?_ | refine G_iinc6 _ 87 d_Alg_grown_84 rfl (by decide) rfl rfl ?_
              refine G_goto 23 d_Alg_grown_87 rfl ?_
              refine nxt_ _ ?_
              rw [eP]
              unfold grS
              rw [e0, if_pos rfl]
              rfl
      refine G_iconstN 0 21 d_Alg_grown_20 rfl rfl ?_
      refine G_istore6 23 d_Alg_grown_21 rfl (by decide) rfl ?_
      exact L 0 (Nat.zero_le _) AL (fun _ _ => rfl) (fun j hj => by omega)
    · have q3 := bB_f h10
      simp only [fGrown, q3, Bool.false_and, Bool.and_false, Bool.false_eq_true, if_false]
      refine G_ldc2 19 d_Alg_grown_16 rfl k_Alg_194 ?_
      refine G_lret d_Alg_grown_19 rfl ?_
      exact ⟨rfl, h, hI, cF.rf⟩
  · have q1 := bN_f h2 (show gN (tG S) < 2 ^ 31 by omega)
    simp only [fGrown, q1, Bool.false_and, Bool.and_false, Bool.false_eq_true, if_false]
    refine G_ldc2 19 d_Alg_grown_16 rfl k_Alg_194 ?_
    refine G_lret d_Alg_grown_19 rfl ?_
    exact ⟨rfl, h, hI, cF.rf⟩
